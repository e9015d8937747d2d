section
-- ===== PART A: goes FIRST, ahead of the names: the tables' words, and 'selects' of the private methods out of them =====
/-- a private method of a class that the tables say can be made, by its rows of tables_1 -/
def lw_okq (q : MethodName × Nat) : Prop := (q.1.cls ≠ "java/lang/invoke/MethodHandle" ∧ q.1.cls ≠ "java/lang/invoke/VarHandle") ∧ Cond.instantiable q.1.cls q.2 ∈ tables_1 ∧ Cond.privateMethod q.1 ∈ tables_1 ∧ Cond.instanceMethod q.1 ∈ tables_1
theorem lw_p0 : lw_okq (⟨"StatRows$TripleRow", "placeOf", "(II)I"⟩, 2) := ⟨⟨by decide +kernel, by decide +kernel⟩, List.mem_of_getElem? (i := 19) (by decide +kernel), List.mem_of_getElem? (i := 114) (by decide +kernel), List.mem_of_getElem? (i := 115) (by decide +kernel)⟩
theorem lw_p1 : lw_okq (⟨"StatRows$TripleRow", "isAt", "(III)Z"⟩, 2) := ⟨⟨by decide +kernel, by decide +kernel⟩, List.mem_of_getElem? (i := 19) (by decide +kernel), List.mem_of_getElem? (i := 126) (by decide +kernel), List.mem_of_getElem? (i := 127) (by decide +kernel)⟩
theorem lw_p2 : lw_okq (⟨"StatRows$TripleRow", "moveStartsAfter", "(II)V"⟩, 2) := ⟨⟨by decide +kernel, by decide +kernel⟩, List.mem_of_getElem? (i := 19) (by decide +kernel), List.mem_of_getElem? (i := 137) (by decide +kernel), List.mem_of_getElem? (i := 138) (by decide +kernel)⟩
theorem lw_p3 : lw_okq (⟨"StatRows", "subjectsOf", "(I)I"⟩, 5) := ⟨⟨by decide +kernel, by decide +kernel⟩, List.mem_of_getElem? (i := 11) (by decide +kernel), List.mem_of_getElem? (i := 157) (by decide +kernel), List.mem_of_getElem? (i := 158) (by decide +kernel)⟩
theorem lw_p4 : lw_okq (⟨"StatRows", "clearTally", "()V"⟩, 5) := ⟨⟨by decide +kernel, by decide +kernel⟩, List.mem_of_getElem? (i := 11) (by decide +kernel), List.mem_of_getElem? (i := 161) (by decide +kernel), List.mem_of_getElem? (i := 162) (by decide +kernel)⟩
theorem lw_p5 : lw_okq (⟨"StatRows", "tallySubjects", "(I)V"⟩, 5) := ⟨⟨by decide +kernel, by decide +kernel⟩, List.mem_of_getElem? (i := 11) (by decide +kernel), List.mem_of_getElem? (i := 168) (by decide +kernel), List.mem_of_getElem? (i := 169) (by decide +kernel)⟩
theorem lw_p6 : lw_okq (⟨"StatRows", "differentInTally", "()I"⟩, 5) := ⟨⟨by decide +kernel, by decide +kernel⟩, List.mem_of_getElem? (i := 11) (by decide +kernel), List.mem_of_getElem? (i := 178) (by decide +kernel), List.mem_of_getElem? (i := 179) (by decide +kernel)⟩
theorem lw_p7 : lw_okq (⟨"StatRows", "objectsOf", "(I)I"⟩, 5) := ⟨⟨by decide +kernel, by decide +kernel⟩, List.mem_of_getElem? (i := 11) (by decide +kernel), List.mem_of_getElem? (i := 182) (by decide +kernel), List.mem_of_getElem? (i := 183) (by decide +kernel)⟩
theorem lw_p8 : lw_okq (⟨"StatRows", "tallyObjects", "(IZ)V"⟩, 5) := ⟨⟨by decide +kernel, by decide +kernel⟩, List.mem_of_getElem? (i := 11) (by decide +kernel), List.mem_of_getElem? (i := 186) (by decide +kernel), List.mem_of_getElem? (i := 187) (by decide +kernel)⟩
theorem lw_p9 : lw_okq (⟨"StatRows", "sumAtSubjects", "(IZ)J"⟩, 5) := ⟨⟨by decide +kernel, by decide +kernel⟩, List.mem_of_getElem? (i := 11) (by decide +kernel), List.mem_of_getElem? (i := 208) (by decide +kernel), List.mem_of_getElem? (i := 209) (by decide +kernel)⟩
theorem lw_p10 : lw_okq (⟨"StatRows", "withObjectBetween", "(III)I"⟩, 5) := ⟨⟨by decide +kernel, by decide +kernel⟩, List.mem_of_getElem? (i := 11) (by decide +kernel), List.mem_of_getElem? (i := 220) (by decide +kernel), List.mem_of_getElem? (i := 221) (by decide +kernel)⟩
theorem lw_p11 : lw_okq (⟨"StatRows", "tallySubjectsOfAll", "(I)V"⟩, 5) := ⟨⟨by decide +kernel, by decide +kernel⟩, List.mem_of_getElem? (i := 11) (by decide +kernel), List.mem_of_getElem? (i := 235) (by decide +kernel), List.mem_of_getElem? (i := 236) (by decide +kernel)⟩
theorem lw_p12 : lw_okq (⟨"StatRows$RegisterRow", "tell", "(I)V"⟩, 1) := ⟨⟨by decide +kernel, by decide +kernel⟩, List.mem_of_getElem? (i := 68) (by decide +kernel), List.mem_of_getElem? (i := 245) (by decide +kernel), List.mem_of_getElem? (i := 246) (by decide +kernel)⟩
theorem lw_p13 : lw_okq (⟨"StatRows", "joinEstimate", "(III)J"⟩, 5) := ⟨⟨by decide +kernel, by decide +kernel⟩, List.mem_of_getElem? (i := 11) (by decide +kernel), List.mem_of_getElem? (i := 275) (by decide +kernel), List.mem_of_getElem? (i := 276) (by decide +kernel)⟩
theorem lw_p14 : lw_okq (⟨"StatRows", "sampledChainEstimate", "(II)J"⟩, 5) := ⟨⟨by decide +kernel, by decide +kernel⟩, List.mem_of_getElem? (i := 11) (by decide +kernel), List.mem_of_getElem? (i := 280) (by decide +kernel), List.mem_of_getElem? (i := 281) (by decide +kernel)⟩
theorem lw_p15 : lw_okq (⟨"StatRows$VersionRow", "hasEnded", "(I)Z"⟩, 3) := ⟨⟨by decide +kernel, by decide +kernel⟩, List.mem_of_getElem? (i := 52) (by decide +kernel), List.mem_of_getElem? (i := 357) (by decide +kernel), List.mem_of_getElem? (i := 358) (by decide +kernel)⟩
def lw_privs_1 : List (MethodName × Nat) := [(⟨"StatRows$TripleRow", "placeOf", "(II)I"⟩, 2), (⟨"StatRows$TripleRow", "isAt", "(III)Z"⟩, 2), (⟨"StatRows$TripleRow", "moveStartsAfter", "(II)V"⟩, 2), (⟨"StatRows", "subjectsOf", "(I)I"⟩, 5), (⟨"StatRows", "clearTally", "()V"⟩, 5), (⟨"StatRows", "tallySubjects", "(I)V"⟩, 5), (⟨"StatRows", "differentInTally", "()I"⟩, 5), (⟨"StatRows", "objectsOf", "(I)I"⟩, 5), (⟨"StatRows", "tallyObjects", "(IZ)V"⟩, 5), (⟨"StatRows", "sumAtSubjects", "(IZ)J"⟩, 5), (⟨"StatRows", "withObjectBetween", "(III)I"⟩, 5), (⟨"StatRows", "tallySubjectsOfAll", "(I)V"⟩, 5), (⟨"StatRows$RegisterRow", "tell", "(I)V"⟩, 1), (⟨"StatRows", "joinEstimate", "(III)J"⟩, 5), (⟨"StatRows", "sampledChainEstimate", "(II)J"⟩, 5), (⟨"StatRows$VersionRow", "hasEnded", "(I)Z"⟩, 3)]
theorem lw_r1 : ∀ q ∈ lw_privs_1, lw_okq q := List.forall_mem_cons.mpr ⟨lw_p0, List.forall_mem_cons.mpr ⟨lw_p1, List.forall_mem_cons.mpr ⟨lw_p2, List.forall_mem_cons.mpr ⟨lw_p3, List.forall_mem_cons.mpr ⟨lw_p4, List.forall_mem_cons.mpr ⟨lw_p5, List.forall_mem_cons.mpr ⟨lw_p6, List.forall_mem_cons.mpr ⟨lw_p7, List.forall_mem_cons.mpr ⟨lw_p8, List.forall_mem_cons.mpr ⟨lw_p9, List.forall_mem_cons.mpr ⟨lw_p10, List.forall_mem_cons.mpr ⟨lw_p11, List.forall_mem_cons.mpr ⟨lw_p12, List.forall_mem_cons.mpr ⟨lw_p13, List.forall_mem_cons.mpr ⟨lw_p14, List.forall_mem_cons.mpr ⟨lw_p15, fun _ h => absurd h List.not_mem_nil⟩⟩⟩⟩⟩⟩⟩⟩⟩⟩⟩⟩⟩⟩⟩⟩
theorem lw_p16 : lw_okq (⟨"StatRowsModel", "find", "(III)I"⟩, 10) := ⟨⟨by decide +kernel, by decide +kernel⟩, List.mem_of_getElem? (i := 384) (by decide +kernel), List.mem_of_getElem? (i := 432) (by decide +kernel), List.mem_of_getElem? (i := 433) (by decide +kernel)⟩
theorem lw_p17 : lw_okq (⟨"StatRowsModel", "countOf", "(I)I"⟩, 10) := ⟨⟨by decide +kernel, by decide +kernel⟩, List.mem_of_getElem? (i := 384) (by decide +kernel), List.mem_of_getElem? (i := 444) (by decide +kernel), List.mem_of_getElem? (i := 445) (by decide +kernel)⟩
theorem lw_p18 : lw_okq (⟨"StatRowsModel", "different", "(IZ)I"⟩, 10) := ⟨⟨by decide +kernel, by decide +kernel⟩, List.mem_of_getElem? (i := 384) (by decide +kernel), List.mem_of_getElem? (i := 448) (by decide +kernel), List.mem_of_getElem? (i := 449) (by decide +kernel)⟩
theorem lw_p19 : lw_okq (⟨"StatRowsModel", "pairs", "(IIZZ)J"⟩, 10) := ⟨⟨by decide +kernel, by decide +kernel⟩, List.mem_of_getElem? (i := 384) (by decide +kernel), List.mem_of_getElem? (i := 456) (by decide +kernel), List.mem_of_getElem? (i := 457) (by decide +kernel)⟩
theorem lw_p20 : lw_okq (⟨"StatRowsModel", "isSampled", "(I)Z"⟩, 10) := ⟨⟨by decide +kernel, by decide +kernel⟩, List.mem_of_getElem? (i := 384) (by decide +kernel), List.mem_of_getElem? (i := 460) (by decide +kernel), List.mem_of_getElem? (i := 461) (by decide +kernel)⟩
theorem lw_p21 : lw_okq (⟨"StatRowsModel", "between", "(III)I"⟩, 10) := ⟨⟨by decide +kernel, by decide +kernel⟩, List.mem_of_getElem? (i := 384) (by decide +kernel), List.mem_of_getElem? (i := 478) (by decide +kernel), List.mem_of_getElem? (i := 479) (by decide +kernel)⟩
theorem lw_p22 : lw_okq (⟨"StatRowsModel", "registerOf", "(II)I"⟩, 10) := ⟨⟨by decide +kernel, by decide +kernel⟩, List.mem_of_getElem? (i := 384) (by decide +kernel), List.mem_of_getElem? (i := 493) (by decide +kernel), List.mem_of_getElem? (i := 494) (by decide +kernel)⟩
def lw_privs_2 : List (MethodName × Nat) := [(⟨"StatRowsModel", "find", "(III)I"⟩, 10), (⟨"StatRowsModel", "countOf", "(I)I"⟩, 10), (⟨"StatRowsModel", "different", "(IZ)I"⟩, 10), (⟨"StatRowsModel", "pairs", "(IIZZ)J"⟩, 10), (⟨"StatRowsModel", "isSampled", "(I)Z"⟩, 10), (⟨"StatRowsModel", "between", "(III)I"⟩, 10), (⟨"StatRowsModel", "registerOf", "(II)I"⟩, 10)]
theorem lw_r2 : ∀ q ∈ lw_privs_2, lw_okq q := List.forall_mem_cons.mpr ⟨lw_p16, List.forall_mem_cons.mpr ⟨lw_p17, List.forall_mem_cons.mpr ⟨lw_p18, List.forall_mem_cons.mpr ⟨lw_p19, List.forall_mem_cons.mpr ⟨lw_p20, List.forall_mem_cons.mpr ⟨lw_p21, List.forall_mem_cons.mpr ⟨lw_p22, fun _ h => absurd h List.not_mem_nil⟩⟩⟩⟩⟩⟩⟩
def lw_privs : List (MethodName × Nat) := lw_privs_1 ++ (lw_privs_2)
def lw_tbl : List Cond := k2_sels lw_privs ++ tables_1
theorem lw_privs_ok : ∀ q ∈ lw_privs, lw_okq q := by
  show ∀ q ∈ lw_privs_1 ++ (lw_privs_2), lw_okq q
  exact List.forall_mem_append.mpr ⟨lw_r1, lw_r2⟩
end
section
def yG_about : MethodName := ⟨"StatRows$RegisterRow", "about", "()J"⟩
def yG_init : MethodName := ⟨"StatRows$RegisterRow", "<init>", "()V"⟩
def yG_rank : MethodName := ⟨"StatRows$RegisterRow", "rank", "(I)I"⟩
def yG_rankOf : MethodName := ⟨"StatRows$RegisterRow", "rankOf", "(I)I"⟩
def yG_tell : MethodName := ⟨"StatRows$RegisterRow", "tell", "(I)V"⟩
def yG_tellAll : MethodName := ⟨"StatRows$RegisterRow", "tellAll", "([I)V"⟩
def yJA_fill : MethodName := ⟨"java/util/Arrays", "fill", "([II)V"⟩
def yJM_max : MethodName := ⟨"java/lang/Math", "max", "(II)I"⟩
def yJM_min : MethodName := ⟨"java/lang/Math", "min", "(II)I"⟩
def yM_aboutFew : MethodName := ⟨"StatRowsModel", "aboutFew", "(I)I"⟩
def yM_areBits : MethodName := ⟨"StatRowsModel", "areBits", "(I)Z"⟩
def yM_between : MethodName := ⟨"StatRowsModel", "between", "(III)I"⟩
def yM_bucket : MethodName := ⟨"StatRowsModel", "bucket", "(III)I"⟩
def yM_chain : MethodName := ⟨"StatRowsModel", "chain", "(II)J"⟩
def yM_count : MethodName := ⟨"StatRowsModel", "count", "(II)I"⟩
def yM_countAt : MethodName := ⟨"StatRowsModel", "countAt", "(II)I"⟩
def yM_countOf : MethodName := ⟨"StatRowsModel", "countOf", "(I)I"⟩
def yM_different : MethodName := ⟨"StatRowsModel", "different", "(IZ)I"⟩
def yM_distinct : MethodName := ⟨"StatRowsModel", "distinct", "(II)J"⟩
def yM_drop : MethodName := ⟨"StatRowsModel", "drop", "(III)I"⟩
def yM_estimate : MethodName := ⟨"StatRowsModel", "estimate", "(III)J"⟩
def yM_find : MethodName := ⟨"StatRowsModel", "find", "(III)I"⟩
def yM_fits : MethodName := ⟨"StatRowsModel", "fits", "(II)Z"⟩
def yM_forget : MethodName := ⟨"StatRowsModel", "forget", "(I)I"⟩
def yM_greatest : MethodName := ⟨"StatRowsModel", "greatest", "(II)I"⟩
def yM_hash : MethodName := ⟨"StatRowsModel", "hash", "(I)I"⟩
def yM_init : MethodName := ⟨"StatRowsModel", "<init>", "()V"⟩
def yM_isPredicate : MethodName := ⟨"StatRowsModel", "isPredicate", "(I)Z"⟩
def yM_isSampled : MethodName := ⟨"StatRowsModel", "isSampled", "(I)Z"⟩
def yM_isTerm : MethodName := ⟨"StatRowsModel", "isTerm", "(I)Z"⟩
def yM_matches : MethodName := ⟨"StatRowsModel", "matches", "(I)I"⟩
def yM_pairs : MethodName := ⟨"StatRowsModel", "pairs", "(IIZZ)J"⟩
def yM_pattern : MethodName := ⟨"StatRowsModel", "pattern", "(III)I"⟩
def yM_quantile : MethodName := ⟨"StatRowsModel", "quantile", "(II)I"⟩
def yM_range : MethodName := ⟨"StatRowsModel", "range", "(III)I"⟩
def yM_register : MethodName := ⟨"StatRowsModel", "register", "(II)I"⟩
def yM_registerOf : MethodName := ⟨"StatRowsModel", "registerOf", "(II)I"⟩
def yM_sample : MethodName := ⟨"StatRowsModel", "sample", "(II)I"⟩
def yM_star : MethodName := ⟨"StatRowsModel", "star", "(II)J"⟩
def yM_told : MethodName := ⟨"StatRowsModel", "told", "(I)I"⟩
def yM_triple : MethodName := ⟨"StatRowsModel", "triple", "(III)I"⟩
def yM_version : MethodName := ⟨"StatRowsModel", "version", "()I"⟩
def yP_allows : MethodName := ⟨"StatRows$PatternRow", "allows", "(II)Z"⟩
def yP_goesWith : MethodName := ⟨"StatRows$PatternRow", "goesWith", "(IIII)Z"⟩
def yP_has : MethodName := ⟨"StatRows$PatternRow", "has", "(I)Z"⟩
def yP_init : MethodName := ⟨"StatRows$PatternRow", "<init>", "()V"⟩
def yP_rowOf : MethodName := ⟨"StatRows$PatternRow", "rowOf", "(III)I"⟩
def yP_size : MethodName := ⟨"StatRows$PatternRow", "size", "()I"⟩
def yT_end : MethodName := ⟨"StatRows$TripleRow", "end", "(I)I"⟩
def yT_init : MethodName := ⟨"StatRows$TripleRow", "<init>", "()V"⟩
def yT_isAt : MethodName := ⟨"StatRows$TripleRow", "isAt", "(III)Z"⟩
def yT_isSampled : MethodName := ⟨"StatRows$TripleRow", "isSampled", "(I)Z"⟩
def yT_moveStartsAfter : MethodName := ⟨"StatRows$TripleRow", "moveStartsAfter", "(II)V"⟩
def yT_objectAt : MethodName := ⟨"StatRows$TripleRow", "objectAt", "(I)I"⟩
def yT_pairAt : MethodName := ⟨"StatRows$TripleRow", "pairAt", "(I)I"⟩
def yT_placeOf : MethodName := ⟨"StatRows$TripleRow", "placeOf", "(II)I"⟩
def yT_put : MethodName := ⟨"StatRows$TripleRow", "put", "(II)I"⟩
def yT_remove : MethodName := ⟨"StatRows$TripleRow", "remove", "(II)I"⟩
def yT_size : MethodName := ⟨"StatRows$TripleRow", "size", "()I"⟩
def yT_sizeOf : MethodName := ⟨"StatRows$TripleRow", "sizeOf", "(I)I"⟩
def yT_start : MethodName := ⟨"StatRows$TripleRow", "start", "(I)I"⟩
def yT_subjectAt : MethodName := ⟨"StatRows$TripleRow", "subjectAt", "(I)I"⟩
def yV_ended : MethodName := ⟨"StatRows$VersionRow", "ended", "()I"⟩
def yV_finish : MethodName := ⟨"StatRows$VersionRow", "finish", "(LStatRows$TripleRow;)I"⟩
def yV_forgetBelow : MethodName := ⟨"StatRows$VersionRow", "forgetBelow", "(I)I"⟩
def yV_hasEnded : MethodName := ⟨"StatRows$VersionRow", "hasEnded", "(I)Z"⟩
def yV_init : MethodName := ⟨"StatRows$VersionRow", "<init>", "()V"⟩
def yV_kept : MethodName := ⟨"StatRows$VersionRow", "kept", "()I"⟩
def yV_place : MethodName := ⟨"StatRows$VersionRow", "place", "(II)I"⟩
def yV_sizeAt : MethodName := ⟨"StatRows$VersionRow", "sizeAt", "(II)I"⟩
def yX_bucket : MethodName := ⟨"StatRows", "bucket", "(III)I"⟩
def yX_chain : MethodName := ⟨"StatRows", "chain", "(II)J"⟩
def yX_clearTally : MethodName := ⟨"StatRows", "clearTally", "()V"⟩
def yX_count : MethodName := ⟨"StatRows", "count", "(II)I"⟩
def yX_countAt : MethodName := ⟨"StatRows", "countAt", "(II)I"⟩
def yX_differentInTally : MethodName := ⟨"StatRows", "differentInTally", "()I"⟩
def yX_distinct : MethodName := ⟨"StatRows", "distinct", "(II)J"⟩
def yX_drop : MethodName := ⟨"StatRows", "drop", "(III)I"⟩
def yX_estimate : MethodName := ⟨"StatRows", "estimate", "(III)J"⟩
def yX_forget : MethodName := ⟨"StatRows", "forget", "(I)I"⟩
def yX_hash : MethodName := ⟨"StatRows", "hash", "(I)I"⟩
def yX_init : MethodName := ⟨"StatRows", "<init>", "()V"⟩
def yX_isNumber : MethodName := ⟨"StatRows", "isNumber", "(I)Z"⟩
def yX_isNumberOrAny : MethodName := ⟨"StatRows", "isNumberOrAny", "(I)Z"⟩
def yX_isPredicate : MethodName := ⟨"StatRows", "isPredicate", "(I)Z"⟩
def yX_isPredicateOrAny : MethodName := ⟨"StatRows", "isPredicateOrAny", "(I)Z"⟩
def yX_isPredicateSet : MethodName := ⟨"StatRows", "isPredicateSet", "(I)Z"⟩
def yX_isTriple : MethodName := ⟨"StatRows", "isTriple", "(III)Z"⟩
def yX_joinEstimate : MethodName := ⟨"StatRows", "joinEstimate", "(III)J"⟩
def yX_matches : MethodName := ⟨"StatRows", "matches", "(I)I"⟩
def yX_objectsOf : MethodName := ⟨"StatRows", "objectsOf", "(I)I"⟩
def yX_pair : MethodName := ⟨"StatRows", "pair", "(II)I"⟩
def yX_pattern : MethodName := ⟨"StatRows", "pattern", "(III)I"⟩
def yX_quantile : MethodName := ⟨"StatRows", "quantile", "(II)I"⟩
def yX_range : MethodName := ⟨"StatRows", "range", "(III)I"⟩
def yX_register : MethodName := ⟨"StatRows", "register", "(II)I"⟩
def yX_sample : MethodName := ⟨"StatRows", "sample", "(II)I"⟩
def yX_sampledChainEstimate : MethodName := ⟨"StatRows", "sampledChainEstimate", "(II)J"⟩
def yX_shared : MethodName := ⟨"StatRows", "shared", "(IIII)I"⟩
def yX_star : MethodName := ⟨"StatRows", "star", "(II)J"⟩
def yX_subjectsOf : MethodName := ⟨"StatRows", "subjectsOf", "(I)I"⟩
def yX_sumAtSubjects : MethodName := ⟨"StatRows", "sumAtSubjects", "(IZ)J"⟩
def yX_tallyObjects : MethodName := ⟨"StatRows", "tallyObjects", "(IZ)V"⟩
def yX_tallySubjects : MethodName := ⟨"StatRows", "tallySubjects", "(I)V"⟩
def yX_tallySubjectsOfAll : MethodName := ⟨"StatRows", "tallySubjectsOfAll", "(I)V"⟩
def yX_told : MethodName := ⟨"StatRows", "told", "(I)I"⟩
def yX_triple : MethodName := ⟨"StatRows", "triple", "(III)I"⟩
def yX_version : MethodName := ⟨"StatRows", "version", "()I"⟩
def yX_withObjectBetween : MethodName := ⟨"StatRows", "withObjectBetween", "(III)I"⟩
abbrev cX_init : ByteArray := prog_1_method_1_code
abbrev cT_init : ByteArray := prog_4_method_1_code
abbrev cP_init : ByteArray := prog_2_method_1_code
abbrev cV_init : ByteArray := prog_5_method_1_code
abbrev cG_init : ByteArray := prog_3_method_1_code
abbrev cX_triple : ByteArray := prog_1_method_2_code
abbrev cX_isTriple : ByteArray := prog_1_method_24_code
abbrev cX_isNumber : ByteArray := prog_1_method_20_code
abbrev cX_isPredicate : ByteArray := prog_1_method_22_code
abbrev cX_pair : ByteArray := prog_1_method_26_code
abbrev cT_put : ByteArray := prog_4_method_10_code
abbrev cT_placeOf : ByteArray := prog_4_method_12_code
abbrev cT_end : ByteArray := prog_4_method_3_code
abbrev cT_start : ByteArray := prog_4_method_2_code
abbrev cT_isAt : ByteArray := prog_4_method_13_code
abbrev cT_size : ByteArray := prog_4_method_5_code
abbrev cT_moveStartsAfter : ByteArray := prog_4_method_14_code
abbrev cX_drop : ByteArray := prog_1_method_3_code
abbrev cT_remove : ByteArray := prog_4_method_11_code
abbrev cX_count : ByteArray := prog_1_method_4_code
abbrev cT_sizeOf : ByteArray := prog_4_method_4_code
abbrev cX_subjectsOf : ByteArray := prog_1_method_35_code
abbrev cX_clearTally : ByteArray := prog_1_method_29_code
abbrev cJA_fill : ByteArray := prog_10_method_103_code
abbrev cX_tallySubjects : ByteArray := prog_1_method_30_code
abbrev cT_subjectAt : ByteArray := prog_4_method_7_code
abbrev cX_differentInTally : ByteArray := prog_1_method_33_code
abbrev cX_objectsOf : ByteArray := prog_1_method_36_code
abbrev cX_tallyObjects : ByteArray := prog_1_method_32_code
abbrev cT_isSampled : ByteArray := prog_4_method_9_code
abbrev cX_hash : ByteArray := prog_1_method_27_code
abbrev cT_objectAt : ByteArray := prog_4_method_8_code
abbrev cX_chain : ByteArray := prog_1_method_5_code
abbrev cX_sumAtSubjects : ByteArray := prog_1_method_34_code
abbrev cX_star : ByteArray := prog_1_method_6_code
abbrev cX_bucket : ByteArray := prog_1_method_7_code
abbrev cX_withObjectBetween : ByteArray := prog_1_method_37_code
abbrev cX_quantile : ByteArray := prog_1_method_8_code
abbrev cX_register : ByteArray := prog_1_method_9_code
abbrev cX_isPredicateSet : ByteArray := prog_1_method_25_code
abbrev cX_tallySubjectsOfAll : ByteArray := prog_1_method_31_code
abbrev cG_tellAll : ByteArray := prog_3_method_3_code
abbrev cG_tell : ByteArray := prog_3_method_5_code
abbrev cG_rankOf : ByteArray := prog_3_method_6_code
abbrev cJM_max : ByteArray := prog_8_method_65_code
abbrev cG_rank : ByteArray := prog_3_method_2_code
abbrev cX_distinct : ByteArray := prog_1_method_10_code
abbrev cG_about : ByteArray := prog_3_method_4_code
abbrev cX_estimate : ByteArray := prog_1_method_11_code
abbrev cX_joinEstimate : ByteArray := prog_1_method_38_code
abbrev cX_sampledChainEstimate : ByteArray := prog_1_method_39_code
abbrev cX_range : ByteArray := prog_1_method_12_code
abbrev cX_shared : ByteArray := prog_1_method_28_code
abbrev cJM_min : ByteArray := prog_8_method_69_code
abbrev cX_sample : ByteArray := prog_1_method_13_code
abbrev cT_pairAt : ByteArray := prog_4_method_6_code
abbrev cX_pattern : ByteArray := prog_1_method_14_code
abbrev cX_isNumberOrAny : ByteArray := prog_1_method_21_code
abbrev cX_isPredicateOrAny : ByteArray := prog_1_method_23_code
abbrev cP_rowOf : ByteArray := prog_2_method_4_code
abbrev cX_matches : ByteArray := prog_1_method_15_code
abbrev cP_has : ByteArray := prog_2_method_3_code
abbrev cP_goesWith : ByteArray := prog_2_method_5_code
abbrev cP_allows : ByteArray := prog_2_method_6_code
abbrev cX_version : ByteArray := prog_1_method_16_code
abbrev cV_finish : ByteArray := prog_5_method_4_code
abbrev cV_kept : ByteArray := prog_5_method_3_code
abbrev cV_place : ByteArray := prog_5_method_8_code
abbrev cX_countAt : ByteArray := prog_1_method_17_code
abbrev cV_sizeAt : ByteArray := prog_5_method_5_code
abbrev cV_hasEnded : ByteArray := prog_5_method_7_code
abbrev cX_forget : ByteArray := prog_1_method_18_code
abbrev cV_forgetBelow : ByteArray := prog_5_method_6_code
abbrev cX_told : ByteArray := prog_1_method_19_code
abbrev cP_size : ByteArray := prog_2_method_2_code
abbrev cV_ended : ByteArray := prog_5_method_2_code
abbrev cM_init : ByteArray := prog_7_method_1_code
abbrev cM_triple : ByteArray := prog_7_method_5_code
abbrev cM_isTerm : ByteArray := prog_7_method_2_code
abbrev cM_isPredicate : ByteArray := prog_7_method_3_code
abbrev cM_find : ByteArray := prog_7_method_4_code
abbrev cM_drop : ByteArray := prog_7_method_6_code
abbrev cM_count : ByteArray := prog_7_method_9_code
abbrev cM_countOf : ByteArray := prog_7_method_7_code
abbrev cM_different : ByteArray := prog_7_method_8_code
abbrev cM_chain : ByteArray := prog_7_method_13_code
abbrev cM_pairs : ByteArray := prog_7_method_12_code
abbrev cM_isSampled : ByteArray := prog_7_method_11_code
abbrev cM_hash : ByteArray := prog_7_method_10_code
abbrev cM_star : ByteArray := prog_7_method_14_code
abbrev cM_bucket : ByteArray := prog_7_method_16_code
abbrev cM_between : ByteArray := prog_7_method_15_code
abbrev cM_quantile : ByteArray := prog_7_method_17_code
abbrev cM_register : ByteArray := prog_7_method_20_code
abbrev cM_areBits : ByteArray := prog_7_method_19_code
abbrev cM_registerOf : ByteArray := prog_7_method_18_code
abbrev cM_distinct : ByteArray := prog_7_method_22_code
abbrev cM_aboutFew : ByteArray := prog_7_method_21_code
abbrev cM_estimate : ByteArray := prog_7_method_24_code
abbrev cM_greatest : ByteArray := prog_7_method_23_code
abbrev cM_range : ByteArray := prog_7_method_25_code
abbrev cM_sample : ByteArray := prog_7_method_26_code
abbrev cM_pattern : ByteArray := prog_7_method_27_code
abbrev cM_matches : ByteArray := prog_7_method_29_code
abbrev cM_fits : ByteArray := prog_7_method_28_code
abbrev cM_version : ByteArray := prog_7_method_30_code
abbrev cM_countAt : ByteArray := prog_7_method_31_code
abbrev cM_forget : ByteArray := prog_7_method_32_code
abbrev cM_told : ByteArray := prog_7_method_33_code
def TT : u_T := fun k => match k with
  | 0 => ("StatRows$TripleRow", "pairs", "[I", true)
  | _ => ("StatRows$TripleRow", "starts", "[I", true)
def tyT : Nat → FieldType := fun k => match k with
  | 0 => .array .int
  | _ => .array .int
theorem nmT : ∀ a, a < 2 → ∀ b, b < 2 → a ≠ b → (TT a).2.1 ≠ (TT b).2.1 := by decide +kernel
theorem okT : ∀ k, k < 2 → parseFieldDescriptor (TT k).2.2.1 = some (tyT k) := by decide +kernel
def TP : u_T := fun k => match k with
  | 0 => ("StatRows$PatternRow", "subjects", "[I", true)
  | 1 => ("StatRows$PatternRow", "predicates", "[I", true)
  | 2 => ("StatRows$PatternRow", "objects", "[I", true)
  | _ => ("StatRows$PatternRow", "used", "I", false)
def tyP : Nat → FieldType := fun k => match k with
  | 0 => .array .int
  | 1 => .array .int
  | 2 => .array .int
  | _ => .int
theorem nmP : ∀ a, a < 4 → ∀ b, b < 4 → a ≠ b → (TP a).2.1 ≠ (TP b).2.1 := by decide +kernel
theorem okP : ∀ k, k < 4 → parseFieldDescriptor (TP k).2.2.1 = some (tyP k) := by decide +kernel
def TV : u_T := fun k => match k with
  | 0 => ("StatRows$VersionRow", "sizes", "[I", true)
  | 1 => ("StatRows$VersionRow", "oldest", "I", false)
  | _ => ("StatRows$VersionRow", "next", "I", false)
def tyV : Nat → FieldType := fun k => match k with
  | 0 => .array .int
  | 1 => .int
  | _ => .int
theorem nmV : ∀ a, a < 3 → ∀ b, b < 3 → a ≠ b → (TV a).2.1 ≠ (TV b).2.1 := by decide +kernel
theorem okV : ∀ k, k < 3 → parseFieldDescriptor (TV k).2.2.1 = some (tyV k) := by decide +kernel
def TG : u_T := fun k => match k with
  | _ => ("StatRows$RegisterRow", "ranks", "[I", true)
def tyG : Nat → FieldType := fun k => match k with
  | _ => .array .int
theorem nmG : ∀ a, a < 1 → ∀ b, b < 1 → a ≠ b → (TG a).2.1 ≠ (TG b).2.1 := by decide +kernel
theorem okG : ∀ k, k < 1 → parseFieldDescriptor (TG k).2.2.1 = some (tyG k) := by decide +kernel
def TX : u_T := fun k => match k with
  | 0 => ("StatRows", "triples", "LStatRows$TripleRow;", true)
  | 1 => ("StatRows", "patterns", "LStatRows$PatternRow;", true)
  | 2 => ("StatRows", "versions", "LStatRows$VersionRow;", true)
  | 3 => ("StatRows", "registers", "LStatRows$RegisterRow;", true)
  | _ => ("StatRows", "tally", "[I", true)
def tyX : Nat → FieldType := fun k => match k with
  | 0 => .object "StatRows$TripleRow"
  | 1 => .object "StatRows$PatternRow"
  | 2 => .object "StatRows$VersionRow"
  | 3 => .object "StatRows$RegisterRow"
  | _ => .array .int
theorem nmX : ∀ a, a < 5 → ∀ b, b < 5 → a ≠ b → (TX a).2.1 ≠ (TX b).2.1 := by decide +kernel
theorem okX : ∀ k, k < 5 → parseFieldDescriptor (TX k).2.2.1 = some (tyX k) := by decide +kernel
def TM : u_T := fun k => match k with
  | 0 => ("StatRowsModel", "triples", "I", false)
  | 1 => ("StatRowsModel", "subjects", "[I", true)
  | 2 => ("StatRowsModel", "predicates", "[I", true)
  | 3 => ("StatRowsModel", "objects", "[I", true)
  | 4 => ("StatRowsModel", "patterns", "I", false)
  | 5 => ("StatRowsModel", "asked", "[I", true)
  | 6 => ("StatRowsModel", "ended", "I", false)
  | 7 => ("StatRowsModel", "firstKept", "I", false)
  | 8 => ("StatRowsModel", "counts", "[I", true)
  | _ => ("StatRowsModel", "seen", "[Z", true)
def tyM : Nat → FieldType := fun k => match k with
  | 0 => .int
  | 1 => .array .int
  | 2 => .array .int
  | 3 => .array .int
  | 4 => .int
  | 5 => .array .int
  | 6 => .int
  | 7 => .int
  | 8 => .array .int
  | _ => .array .boolean
theorem nmM : ∀ a, a < 10 → ∀ b, b < 10 → a ≠ b → (TM a).2.1 ≠ (TM b).2.1 := by decide +kernel
theorem okM : ∀ k, k < 10 → parseFieldDescriptor (TM k).2.2.1 = some (tyM k) := by decide +kernel
abbrev vwCl : List vw_C := [("StatRows$TripleRow", TT, 2), ("StatRows$PatternRow", TP, 4), ("StatRows$VersionRow", TV, 3), ("StatRows$RegisterRow", TG, 1), ("StatRows", TX, 5), ("StatRowsModel", TM, 10)]
def W0 : List Cond := lw_tbl.filter goodWord
theorem w0_tbl : ∀ w ∈ W0, w ∈ lw_tbl := fun w h => (List.mem_filter.mp h).1
theorem w0_good {w : Cond} (h : w ∈ W0) : (w.onTables && w.keeps) = true ∨ ∃ ty, w = .arrayClass ty := good_of_word (List.mem_filter.mp h).2
theorem w0_in {w : Cond} (i : Nat) (h : tables_1[i]? = some w) (hg : goodWord w = true) : w ∈ W0 := List.mem_filter.mpr ⟨List.mem_append_right _ (List.mem_of_getElem? h), hg⟩
theorem w0_sel {w : Cond} (i : Nat) (h : (k2_sels lw_privs)[i]? = some w) (hg : goodWord w = true) : w ∈ W0 := List.mem_filter.mpr ⟨List.mem_append_left _ (List.mem_of_getElem? h), hg⟩
theorem wd0 : Cond.initialized "StatRowsLaw" ∈ W0 := w0_in 0 (by decide +kernel) rfl
theorem wd1 : Cond.initialized "StatRows" ∈ W0 := w0_in 1 (by decide +kernel) rfl
theorem wd2 : Cond.initialized "StatRows$TripleRow" ∈ W0 := w0_in 2 (by decide +kernel) rfl
theorem wd3 : Cond.initialized "StatRows$PatternRow" ∈ W0 := w0_in 3 (by decide +kernel) rfl
theorem wd4 : Cond.initialized "StatRows$VersionRow" ∈ W0 := w0_in 4 (by decide +kernel) rfl
theorem wd5 : Cond.initialized "StatRows$RegisterRow" ∈ W0 := w0_in 5 (by decide +kernel) rfl
theorem wd6 : Cond.initialized "StatRowsModel" ∈ W0 := w0_in 6 (by decide +kernel) rfl
theorem wd7 : Cond.initialized "java/lang/System" ∈ W0 := w0_in 7 (by decide +kernel) rfl
theorem wd8 : Cond.initialized "java/util/Arrays" ∈ W0 := w0_in 8 (by decide +kernel) rfl
theorem wd9 : Cond.initialized "java/lang/Math" ∈ W0 := w0_in 9 (by decide +kernel) rfl
theorem wd10 : Cond.classLink "StatRowsLaw" 7 "StatRows" ∈ W0 := w0_in 10 (by decide +kernel) rfl
theorem wd11 : Cond.instantiable "StatRows" 5 ∈ W0 := w0_in 11 (by decide +kernel) rfl
theorem wd12 : Cond.methodLink "StatRowsLaw" 9 yX_init ∈ W0 := w0_in 12 (by decide +kernel) rfl
theorem wd13 : Cond.instanceMethod yX_init ∈ W0 := w0_in 13 (by decide +kernel) rfl
set_option maxRecDepth 20000 in
theorem wd14 : Cond.code yX_init cX_init 1 none ∈ W0 := w0_in 14 rfl rfl
theorem wd15 : Cond.methodLink "StatRows" 1 objectInit ∈ W0 := w0_in 15 (by decide +kernel) rfl
theorem wd16 : Cond.instanceMethod objectInit ∈ W0 := w0_in 16 (by decide +kernel) rfl
set_option maxRecDepth 20000 in
theorem wd17 : Cond.code objectInit ⟨#[0xb1]⟩ 1 none ∈ W0 := w0_in 17 rfl rfl
theorem wd18 : Cond.classLink "StatRows" 7 "StatRows$TripleRow" ∈ W0 := w0_in 18 (by decide +kernel) rfl
theorem wd19 : Cond.instantiable "StatRows$TripleRow" 2 ∈ W0 := w0_in 19 (by decide +kernel) rfl
theorem wd20 : Cond.methodLink "StatRows" 9 yT_init ∈ W0 := w0_in 20 (by decide +kernel) rfl
theorem wd21 : Cond.instanceMethod yT_init ∈ W0 := w0_in 21 (by decide +kernel) rfl
set_option maxRecDepth 20000 in
theorem wd22 : Cond.code yT_init cT_init 1 none ∈ W0 := w0_in 22 rfl rfl
theorem wd23 : Cond.methodLink "StatRows$TripleRow" 3 objectInit ∈ W0 := w0_in 23 (by decide +kernel) rfl
theorem wd24 : Cond.fieldLink "StatRows$TripleRow" 11 "StatRows$TripleRow" "pairs" "[I" ∈ W0 := w0_in 24 (by decide +kernel) rfl
theorem wd25 : Cond.fieldLink "StatRows$TripleRow" 15 "StatRows$TripleRow" "starts" "[I" ∈ W0 := w0_in 25 (by decide +kernel) rfl
theorem wd26 : Cond.laysFinal "StatRows$TripleRow" "StatRows$TripleRow" "pairs" "[I" ∈ W0 := w0_in 26 (by decide +kernel) rfl
theorem wd28 : Cond.laysFinal "StatRows$TripleRow" "StatRows$TripleRow" "starts" "[I" ∈ W0 := w0_in 28 (by decide +kernel) rfl
theorem wd31 : Cond.arrayClass .int ∈ W0 := w0_in 31 (by decide +kernel) rfl
theorem wd32 : Cond.classLink "StatRows" 16 "StatRows$PatternRow" ∈ W0 := w0_in 32 (by decide +kernel) rfl
theorem wd33 : Cond.instantiable "StatRows$PatternRow" 4 ∈ W0 := w0_in 33 (by decide +kernel) rfl
theorem wd34 : Cond.methodLink "StatRows" 18 yP_init ∈ W0 := w0_in 34 (by decide +kernel) rfl
theorem wd35 : Cond.instanceMethod yP_init ∈ W0 := w0_in 35 (by decide +kernel) rfl
set_option maxRecDepth 20000 in
theorem wd36 : Cond.code yP_init cP_init 1 none ∈ W0 := w0_in 36 rfl rfl
theorem wd37 : Cond.methodLink "StatRows$PatternRow" 3 objectInit ∈ W0 := w0_in 37 (by decide +kernel) rfl
theorem wd38 : Cond.fieldLink "StatRows$PatternRow" 11 "StatRows$PatternRow" "subjects" "[I" ∈ W0 := w0_in 38 (by decide +kernel) rfl
theorem wd39 : Cond.fieldLink "StatRows$PatternRow" 15 "StatRows$PatternRow" "predicates" "[I" ∈ W0 := w0_in 39 (by decide +kernel) rfl
theorem wd40 : Cond.fieldLink "StatRows$PatternRow" 18 "StatRows$PatternRow" "objects" "[I" ∈ W0 := w0_in 40 (by decide +kernel) rfl
theorem wd41 : Cond.fieldLink "StatRows$PatternRow" 21 "StatRows$PatternRow" "used" "I" ∈ W0 := w0_in 41 (by decide +kernel) rfl
theorem wd42 : Cond.laysFinal "StatRows$PatternRow" "StatRows$PatternRow" "subjects" "[I" ∈ W0 := w0_in 42 (by decide +kernel) rfl
theorem wd44 : Cond.laysFinal "StatRows$PatternRow" "StatRows$PatternRow" "predicates" "[I" ∈ W0 := w0_in 44 (by decide +kernel) rfl
theorem wd46 : Cond.laysFinal "StatRows$PatternRow" "StatRows$PatternRow" "objects" "[I" ∈ W0 := w0_in 46 (by decide +kernel) rfl
theorem wd48 : Cond.lays "StatRows$PatternRow" "StatRows$PatternRow" "used" "I" ∈ W0 := w0_in 48 (by decide +kernel) rfl
theorem wd51 : Cond.classLink "StatRows" 23 "StatRows$VersionRow" ∈ W0 := w0_in 51 (by decide +kernel) rfl
theorem wd52 : Cond.instantiable "StatRows$VersionRow" 3 ∈ W0 := w0_in 52 (by decide +kernel) rfl
theorem wd53 : Cond.methodLink "StatRows" 25 yV_init ∈ W0 := w0_in 53 (by decide +kernel) rfl
theorem wd54 : Cond.instanceMethod yV_init ∈ W0 := w0_in 54 (by decide +kernel) rfl
set_option maxRecDepth 20000 in
theorem wd55 : Cond.code yV_init cV_init 1 none ∈ W0 := w0_in 55 rfl rfl
theorem wd56 : Cond.methodLink "StatRows$VersionRow" 3 objectInit ∈ W0 := w0_in 56 (by decide +kernel) rfl
theorem wd57 : Cond.fieldLink "StatRows$VersionRow" 11 "StatRows$VersionRow" "sizes" "[I" ∈ W0 := w0_in 57 (by decide +kernel) rfl
theorem wd58 : Cond.fieldLink "StatRows$VersionRow" 15 "StatRows$VersionRow" "oldest" "I" ∈ W0 := w0_in 58 (by decide +kernel) rfl
theorem wd59 : Cond.fieldLink "StatRows$VersionRow" 19 "StatRows$VersionRow" "next" "I" ∈ W0 := w0_in 59 (by decide +kernel) rfl
theorem wd60 : Cond.laysFinal "StatRows$VersionRow" "StatRows$VersionRow" "sizes" "[I" ∈ W0 := w0_in 60 (by decide +kernel) rfl
theorem wd62 : Cond.lays "StatRows$VersionRow" "StatRows$VersionRow" "oldest" "I" ∈ W0 := w0_in 62 (by decide +kernel) rfl
theorem wd64 : Cond.lays "StatRows$VersionRow" "StatRows$VersionRow" "next" "I" ∈ W0 := w0_in 64 (by decide +kernel) rfl
theorem wd67 : Cond.classLink "StatRows" 30 "StatRows$RegisterRow" ∈ W0 := w0_in 67 (by decide +kernel) rfl
theorem wd68 : Cond.instantiable "StatRows$RegisterRow" 1 ∈ W0 := w0_in 68 (by decide +kernel) rfl
theorem wd69 : Cond.methodLink "StatRows" 32 yG_init ∈ W0 := w0_in 69 (by decide +kernel) rfl
theorem wd70 : Cond.instanceMethod yG_init ∈ W0 := w0_in 70 (by decide +kernel) rfl
set_option maxRecDepth 20000 in
theorem wd71 : Cond.code yG_init cG_init 1 none ∈ W0 := w0_in 71 rfl rfl
theorem wd72 : Cond.methodLink "StatRows$RegisterRow" 1 objectInit ∈ W0 := w0_in 72 (by decide +kernel) rfl
theorem wd73 : Cond.fieldLink "StatRows$RegisterRow" 9 "StatRows$RegisterRow" "ranks" "[I" ∈ W0 := w0_in 73 (by decide +kernel) rfl
theorem wd74 : Cond.laysFinal "StatRows$RegisterRow" "StatRows$RegisterRow" "ranks" "[I" ∈ W0 := w0_in 74 (by decide +kernel) rfl
theorem wd77 : Cond.fieldLink "StatRows" 10 "StatRows" "triples" "LStatRows$TripleRow;" ∈ W0 := w0_in 77 (by decide +kernel) rfl
theorem wd78 : Cond.fieldLink "StatRows" 19 "StatRows" "patterns" "LStatRows$PatternRow;" ∈ W0 := w0_in 78 (by decide +kernel) rfl
theorem wd79 : Cond.fieldLink "StatRows" 26 "StatRows" "versions" "LStatRows$VersionRow;" ∈ W0 := w0_in 79 (by decide +kernel) rfl
theorem wd80 : Cond.fieldLink "StatRows" 33 "StatRows" "registers" "LStatRows$RegisterRow;" ∈ W0 := w0_in 80 (by decide +kernel) rfl
theorem wd81 : Cond.fieldLink "StatRows" 37 "StatRows" "tally" "[I" ∈ W0 := w0_in 81 (by decide +kernel) rfl
theorem wd82 : Cond.laysFinal "StatRows" "StatRows" "triples" "LStatRows$TripleRow;" ∈ W0 := w0_in 82 (by decide +kernel) rfl
theorem wd84 : Cond.laysFinal "StatRows" "StatRows" "patterns" "LStatRows$PatternRow;" ∈ W0 := w0_in 84 (by decide +kernel) rfl
theorem wd86 : Cond.laysFinal "StatRows" "StatRows" "versions" "LStatRows$VersionRow;" ∈ W0 := w0_in 86 (by decide +kernel) rfl
theorem wd88 : Cond.laysFinal "StatRows" "StatRows" "registers" "LStatRows$RegisterRow;" ∈ W0 := w0_in 88 (by decide +kernel) rfl
theorem wd90 : Cond.laysFinal "StatRows" "StatRows" "tally" "[I" ∈ W0 := w0_in 90 (by decide +kernel) rfl
theorem wd93 : Cond.methodLink "StatRowsLaw" 13 yX_triple ∈ W0 := w0_in 93 (by decide +kernel) rfl
theorem wd94 : Cond.instanceMethod yX_triple ∈ W0 := w0_in 94 (by decide +kernel) rfl
theorem wd95 : Cond.selects "StatRows" yX_triple yX_triple ∈ W0 := w0_in 95 (by decide +kernel) rfl
set_option maxRecDepth 20000 in
theorem wd96 : Cond.code yX_triple cX_triple 4 (some .int) ∈ W0 := w0_in 96 rfl rfl
theorem wd97 : Cond.methodLink "StatRows" 41 yX_isTriple ∈ W0 := w0_in 97 (by decide +kernel) rfl
theorem wd98 : Cond.static yX_isTriple ∈ W0 := w0_in 98 (by decide +kernel) rfl
set_option maxRecDepth 20000 in
theorem wd99 : Cond.code yX_isTriple cX_isTriple 3 (some .boolean) ∈ W0 := w0_in 99 rfl rfl
theorem wd100 : Cond.methodLink "StatRows" 177 yX_isNumber ∈ W0 := w0_in 100 (by decide +kernel) rfl
theorem wd101 : Cond.static yX_isNumber ∈ W0 := w0_in 101 (by decide +kernel) rfl
set_option maxRecDepth 20000 in
theorem wd102 : Cond.code yX_isNumber cX_isNumber 1 (some .boolean) ∈ W0 := w0_in 102 rfl rfl
theorem wd103 : Cond.methodLink "StatRows" 55 yX_isPredicate ∈ W0 := w0_in 103 (by decide +kernel) rfl
theorem wd104 : Cond.static yX_isPredicate ∈ W0 := w0_in 104 (by decide +kernel) rfl
set_option maxRecDepth 20000 in
theorem wd105 : Cond.code yX_isPredicate cX_isPredicate 1 (some .boolean) ∈ W0 := w0_in 105 rfl rfl
theorem wd106 : Cond.methodLink "StatRows" 45 yX_pair ∈ W0 := w0_in 106 (by decide +kernel) rfl
theorem wd107 : Cond.static yX_pair ∈ W0 := w0_in 107 (by decide +kernel) rfl
set_option maxRecDepth 20000 in
theorem wd108 : Cond.code yX_pair cX_pair 2 (some .int) ∈ W0 := w0_in 108 rfl rfl
theorem wd109 : Cond.methodLink "StatRows" 49 yT_put ∈ W0 := w0_in 109 (by decide +kernel) rfl
theorem wd110 : Cond.instanceMethod yT_put ∈ W0 := w0_in 110 (by decide +kernel) rfl
theorem wd111 : Cond.selects "StatRows$TripleRow" yT_put yT_put ∈ W0 := w0_in 111 (by decide +kernel) rfl
set_option maxRecDepth 20000 in
theorem wd112 : Cond.code yT_put cT_put 4 (some .int) ∈ W0 := w0_in 112 rfl rfl
theorem wd113 : Cond.methodLink "StatRows$TripleRow" 28 yT_placeOf ∈ W0 := w0_in 113 (by decide +kernel) rfl
theorem wd115 : Cond.instanceMethod yT_placeOf ∈ W0 := w0_in 115 (by decide +kernel) rfl
set_option maxRecDepth 20000 in
theorem wd116 : Cond.code yT_placeOf cT_placeOf 5 (some .int) ∈ W0 := w0_in 116 rfl rfl
theorem wd117 : Cond.methodLink "StatRows$TripleRow" 18 yT_end ∈ W0 := w0_in 117 (by decide +kernel) rfl
theorem wd118 : Cond.instanceMethod yT_end ∈ W0 := w0_in 118 (by decide +kernel) rfl
theorem wd119 : Cond.selects "StatRows$TripleRow" yT_end yT_end ∈ W0 := w0_in 119 (by decide +kernel) rfl
set_option maxRecDepth 20000 in
theorem wd120 : Cond.code yT_end cT_end 2 (some .int) ∈ W0 := w0_in 120 rfl rfl
theorem wd121 : Cond.methodLink "StatRows$TripleRow" 22 yT_start ∈ W0 := w0_in 121 (by decide +kernel) rfl
theorem wd122 : Cond.instanceMethod yT_start ∈ W0 := w0_in 122 (by decide +kernel) rfl
theorem wd123 : Cond.selects "StatRows$TripleRow" yT_start yT_start ∈ W0 := w0_in 123 (by decide +kernel) rfl
set_option maxRecDepth 20000 in
theorem wd124 : Cond.code yT_start cT_start 2 (some .int) ∈ W0 := w0_in 124 rfl rfl
theorem wd125 : Cond.methodLink "StatRows$TripleRow" 32 yT_isAt ∈ W0 := w0_in 125 (by decide +kernel) rfl
theorem wd127 : Cond.instanceMethod yT_isAt ∈ W0 := w0_in 127 (by decide +kernel) rfl
set_option maxRecDepth 20000 in
theorem wd128 : Cond.code yT_isAt cT_isAt 4 (some .boolean) ∈ W0 := w0_in 128 rfl rfl
theorem wd129 : Cond.methodLink "StatRows$TripleRow" 36 yT_size ∈ W0 := w0_in 129 (by decide +kernel) rfl
theorem wd130 : Cond.instanceMethod yT_size ∈ W0 := w0_in 130 (by decide +kernel) rfl
theorem wd131 : Cond.selects "StatRows$TripleRow" yT_size yT_size ∈ W0 := w0_in 131 (by decide +kernel) rfl
set_option maxRecDepth 20000 in
theorem wd132 : Cond.code yT_size cT_size 1 (some .int) ∈ W0 := w0_in 132 rfl rfl
theorem wd133 : Cond.methodLink "StatRows$TripleRow" 40 arraycopyName ∈ W0 := w0_in 133 (by decide +kernel) rfl
theorem wd134 : Cond.static arraycopyName ∈ W0 := w0_in 134 (by decide +kernel) rfl
theorem wd135 : Cond.native arraycopyName ∈ W0 := w0_in 135 (by decide +kernel) rfl
theorem wd136 : Cond.methodLink "StatRows$TripleRow" 46 yT_moveStartsAfter ∈ W0 := w0_in 136 (by decide +kernel) rfl
theorem wd138 : Cond.instanceMethod yT_moveStartsAfter ∈ W0 := w0_in 138 (by decide +kernel) rfl
set_option maxRecDepth 20000 in
theorem wd139 : Cond.code yT_moveStartsAfter cT_moveStartsAfter 4 none ∈ W0 := w0_in 139 rfl rfl
theorem wd140 : Cond.methodLink "StatRowsLaw" 18 yX_drop ∈ W0 := w0_in 140 (by decide +kernel) rfl
theorem wd141 : Cond.instanceMethod yX_drop ∈ W0 := w0_in 141 (by decide +kernel) rfl
theorem wd142 : Cond.selects "StatRows" yX_drop yX_drop ∈ W0 := w0_in 142 (by decide +kernel) rfl
set_option maxRecDepth 20000 in
theorem wd143 : Cond.code yX_drop cX_drop 4 (some .int) ∈ W0 := w0_in 143 rfl rfl
theorem wd144 : Cond.methodLink "StatRows" 52 yT_remove ∈ W0 := w0_in 144 (by decide +kernel) rfl
theorem wd145 : Cond.instanceMethod yT_remove ∈ W0 := w0_in 145 (by decide +kernel) rfl
theorem wd146 : Cond.selects "StatRows$TripleRow" yT_remove yT_remove ∈ W0 := w0_in 146 (by decide +kernel) rfl
set_option maxRecDepth 20000 in
theorem wd147 : Cond.code yT_remove cT_remove 4 (some .int) ∈ W0 := w0_in 147 rfl rfl
theorem wd148 : Cond.methodLink "StatRowsLaw" 22 yX_count ∈ W0 := w0_in 148 (by decide +kernel) rfl
theorem wd149 : Cond.instanceMethod yX_count ∈ W0 := w0_in 149 (by decide +kernel) rfl
theorem wd150 : Cond.selects "StatRows" yX_count yX_count ∈ W0 := w0_in 150 (by decide +kernel) rfl
set_option maxRecDepth 20000 in
theorem wd151 : Cond.code yX_count cX_count 3 (some .int) ∈ W0 := w0_in 151 rfl rfl
theorem wd152 : Cond.methodLink "StatRows" 59 yT_sizeOf ∈ W0 := w0_in 152 (by decide +kernel) rfl
theorem wd153 : Cond.instanceMethod yT_sizeOf ∈ W0 := w0_in 153 (by decide +kernel) rfl
theorem wd154 : Cond.selects "StatRows$TripleRow" yT_sizeOf yT_sizeOf ∈ W0 := w0_in 154 (by decide +kernel) rfl
set_option maxRecDepth 20000 in
theorem wd155 : Cond.code yT_sizeOf cT_sizeOf 2 (some .int) ∈ W0 := w0_in 155 rfl rfl
theorem wd156 : Cond.methodLink "StatRows" 63 yX_subjectsOf ∈ W0 := w0_in 156 (by decide +kernel) rfl
theorem wd158 : Cond.instanceMethod yX_subjectsOf ∈ W0 := w0_in 158 (by decide +kernel) rfl
set_option maxRecDepth 20000 in
theorem wd159 : Cond.code yX_subjectsOf cX_subjectsOf 2 (some .int) ∈ W0 := w0_in 159 rfl rfl
theorem wd160 : Cond.methodLink "StatRows" 79 yX_clearTally ∈ W0 := w0_in 160 (by decide +kernel) rfl
theorem wd162 : Cond.instanceMethod yX_clearTally ∈ W0 := w0_in 162 (by decide +kernel) rfl
set_option maxRecDepth 20000 in
theorem wd163 : Cond.code yX_clearTally cX_clearTally 1 none ∈ W0 := w0_in 163 rfl rfl
theorem wd164 : Cond.methodLink "StatRows" 190 yJA_fill ∈ W0 := w0_in 164 (by decide +kernel) rfl
theorem wd165 : Cond.static yJA_fill ∈ W0 := w0_in 165 (by decide +kernel) rfl
set_option maxRecDepth 20000 in
theorem wd166 : Cond.code yJA_fill cJA_fill 4 none ∈ W0 := w0_in 166 rfl rfl
theorem wd167 : Cond.methodLink "StatRows" 82 yX_tallySubjects ∈ W0 := w0_in 167 (by decide +kernel) rfl
theorem wd169 : Cond.instanceMethod yX_tallySubjects ∈ W0 := w0_in 169 (by decide +kernel) rfl
set_option maxRecDepth 20000 in
theorem wd170 : Cond.code yX_tallySubjects cX_tallySubjects 4 none ∈ W0 := w0_in 170 rfl rfl
theorem wd171 : Cond.methodLink "StatRows" 123 yT_end ∈ W0 := w0_in 171 (by decide +kernel) rfl
theorem wd172 : Cond.methodLink "StatRows" 126 yT_start ∈ W0 := w0_in 172 (by decide +kernel) rfl
theorem wd173 : Cond.methodLink "StatRows" 147 yT_subjectAt ∈ W0 := w0_in 173 (by decide +kernel) rfl
theorem wd174 : Cond.instanceMethod yT_subjectAt ∈ W0 := w0_in 174 (by decide +kernel) rfl
theorem wd175 : Cond.selects "StatRows$TripleRow" yT_subjectAt yT_subjectAt ∈ W0 := w0_in 175 (by decide +kernel) rfl
set_option maxRecDepth 20000 in
theorem wd176 : Cond.code yT_subjectAt cT_subjectAt 2 (some .int) ∈ W0 := w0_in 176 rfl rfl
theorem wd177 : Cond.methodLink "StatRows" 103 yX_differentInTally ∈ W0 := w0_in 177 (by decide +kernel) rfl
theorem wd179 : Cond.instanceMethod yX_differentInTally ∈ W0 := w0_in 179 (by decide +kernel) rfl
set_option maxRecDepth 20000 in
theorem wd180 : Cond.code yX_differentInTally cX_differentInTally 3 (some .int) ∈ W0 := w0_in 180 rfl rfl
theorem wd181 : Cond.methodLink "StatRows" 66 yX_objectsOf ∈ W0 := w0_in 181 (by decide +kernel) rfl
theorem wd183 : Cond.instanceMethod yX_objectsOf ∈ W0 := w0_in 183 (by decide +kernel) rfl
set_option maxRecDepth 20000 in
theorem wd184 : Cond.code yX_objectsOf cX_objectsOf 2 (some .int) ∈ W0 := w0_in 184 rfl rfl
theorem wd185 : Cond.methodLink "StatRows" 71 yX_tallyObjects ∈ W0 := w0_in 185 (by decide +kernel) rfl
theorem wd187 : Cond.instanceMethod yX_tallyObjects ∈ W0 := w0_in 187 (by decide +kernel) rfl
set_option maxRecDepth 20000 in
theorem wd188 : Cond.code yX_tallyObjects cX_tallyObjects 5 none ∈ W0 := w0_in 188 rfl rfl
theorem wd189 : Cond.methodLink "StatRows" 129 yT_isSampled ∈ W0 := w0_in 189 (by decide +kernel) rfl
theorem wd190 : Cond.instanceMethod yT_isSampled ∈ W0 := w0_in 190 (by decide +kernel) rfl
theorem wd191 : Cond.selects "StatRows$TripleRow" yT_isSampled yT_isSampled ∈ W0 := w0_in 191 (by decide +kernel) rfl
set_option maxRecDepth 20000 in
theorem wd192 : Cond.code yT_isSampled cT_isSampled 2 (some .boolean) ∈ W0 := w0_in 192 rfl rfl
theorem wd194 : Cond.static yX_hash ∈ W0 := w0_in 194 (by decide +kernel) rfl
set_option maxRecDepth 20000 in
theorem wd195 : Cond.code yX_hash cX_hash 2 (some .int) ∈ W0 := w0_in 195 rfl rfl
theorem wd196 : Cond.constant "StatRows" 180 (-1640531535) ∈ W0 := w0_in 196 (by decide +kernel) rfl
theorem wd197 : Cond.constant "StatRows" 181 (-2048144777) ∈ W0 := w0_in 197 (by decide +kernel) rfl
theorem wd198 : Cond.methodLink "StatRows" 150 yT_objectAt ∈ W0 := w0_in 198 (by decide +kernel) rfl
theorem wd199 : Cond.instanceMethod yT_objectAt ∈ W0 := w0_in 199 (by decide +kernel) rfl
theorem wd200 : Cond.selects "StatRows$TripleRow" yT_objectAt yT_objectAt ∈ W0 := w0_in 200 (by decide +kernel) rfl
set_option maxRecDepth 20000 in
theorem wd201 : Cond.code yT_objectAt cT_objectAt 2 (some .int) ∈ W0 := w0_in 201 rfl rfl
theorem wd202 : Cond.methodLink "StatRowsLaw" 27 yX_chain ∈ W0 := w0_in 202 (by decide +kernel) rfl
theorem wd203 : Cond.instanceMethod yX_chain ∈ W0 := w0_in 203 (by decide +kernel) rfl
theorem wd204 : Cond.selects "StatRows" yX_chain yX_chain ∈ W0 := w0_in 204 (by decide +kernel) rfl
set_option maxRecDepth 20000 in
theorem wd205 : Cond.code yX_chain cX_chain 3 (some .long) ∈ W0 := w0_in 205 rfl rfl
theorem wd206 : Cond.constantLong "StatRows" 69 (-1) ∈ W0 := w0_in 206 (by decide +kernel) rfl
theorem wd207 : Cond.methodLink "StatRows" 75 yX_sumAtSubjects ∈ W0 := w0_in 207 (by decide +kernel) rfl
theorem wd209 : Cond.instanceMethod yX_sumAtSubjects ∈ W0 := w0_in 209 (by decide +kernel) rfl
set_option maxRecDepth 20000 in
theorem wd210 : Cond.code yX_sumAtSubjects cX_sumAtSubjects 7 (some .long) ∈ W0 := w0_in 210 rfl rfl
theorem wd211 : Cond.methodLink "StatRowsLaw" 32 yX_star ∈ W0 := w0_in 211 (by decide +kernel) rfl
theorem wd212 : Cond.instanceMethod yX_star ∈ W0 := w0_in 212 (by decide +kernel) rfl
theorem wd213 : Cond.selects "StatRows" yX_star yX_star ∈ W0 := w0_in 213 (by decide +kernel) rfl
set_option maxRecDepth 20000 in
theorem wd214 : Cond.code yX_star cX_star 3 (some .long) ∈ W0 := w0_in 214 rfl rfl
theorem wd215 : Cond.methodLink "StatRowsLaw" 36 yX_bucket ∈ W0 := w0_in 215 (by decide +kernel) rfl
theorem wd216 : Cond.instanceMethod yX_bucket ∈ W0 := w0_in 216 (by decide +kernel) rfl
theorem wd217 : Cond.selects "StatRows" yX_bucket yX_bucket ∈ W0 := w0_in 217 (by decide +kernel) rfl
set_option maxRecDepth 20000 in
theorem wd218 : Cond.code yX_bucket cX_bucket 4 (some .int) ∈ W0 := w0_in 218 rfl rfl
theorem wd219 : Cond.methodLink "StatRows" 86 yX_withObjectBetween ∈ W0 := w0_in 219 (by decide +kernel) rfl
theorem wd221 : Cond.instanceMethod yX_withObjectBetween ∈ W0 := w0_in 221 (by decide +kernel) rfl
set_option maxRecDepth 20000 in
theorem wd222 : Cond.code yX_withObjectBetween cX_withObjectBetween 8 (some .int) ∈ W0 := w0_in 222 rfl rfl
theorem wd223 : Cond.methodLink "StatRowsLaw" 40 yX_quantile ∈ W0 := w0_in 223 (by decide +kernel) rfl
theorem wd224 : Cond.instanceMethod yX_quantile ∈ W0 := w0_in 224 (by decide +kernel) rfl
theorem wd225 : Cond.selects "StatRows" yX_quantile yX_quantile ∈ W0 := w0_in 225 (by decide +kernel) rfl
set_option maxRecDepth 20000 in
theorem wd226 : Cond.code yX_quantile cX_quantile 6 (some .int) ∈ W0 := w0_in 226 rfl rfl
theorem wd227 : Cond.methodLink "StatRowsLaw" 44 yX_register ∈ W0 := w0_in 227 (by decide +kernel) rfl
theorem wd228 : Cond.instanceMethod yX_register ∈ W0 := w0_in 228 (by decide +kernel) rfl
theorem wd229 : Cond.selects "StatRows" yX_register yX_register ∈ W0 := w0_in 229 (by decide +kernel) rfl
set_option maxRecDepth 20000 in
theorem wd230 : Cond.code yX_register cX_register 3 (some .int) ∈ W0 := w0_in 230 rfl rfl
theorem wd231 : Cond.methodLink "StatRows" 90 yX_isPredicateSet ∈ W0 := w0_in 231 (by decide +kernel) rfl
theorem wd232 : Cond.static yX_isPredicateSet ∈ W0 := w0_in 232 (by decide +kernel) rfl
set_option maxRecDepth 20000 in
theorem wd233 : Cond.code yX_isPredicateSet cX_isPredicateSet 1 (some .boolean) ∈ W0 := w0_in 233 rfl rfl
theorem wd234 : Cond.methodLink "StatRows" 93 yX_tallySubjectsOfAll ∈ W0 := w0_in 234 (by decide +kernel) rfl
theorem wd236 : Cond.instanceMethod yX_tallySubjectsOfAll ∈ W0 := w0_in 236 (by decide +kernel) rfl
set_option maxRecDepth 20000 in
theorem wd237 : Cond.code yX_tallySubjectsOfAll cX_tallySubjectsOfAll 3 none ∈ W0 := w0_in 237 rfl rfl
theorem wd238 : Cond.methodLink "StatRows" 96 yG_tellAll ∈ W0 := w0_in 238 (by decide +kernel) rfl
theorem wd239 : Cond.instanceMethod yG_tellAll ∈ W0 := w0_in 239 (by decide +kernel) rfl
theorem wd240 : Cond.selects "StatRows$RegisterRow" yG_tellAll yG_tellAll ∈ W0 := w0_in 240 (by decide +kernel) rfl
set_option maxRecDepth 20000 in
theorem wd241 : Cond.code yG_tellAll cG_tellAll 3 none ∈ W0 := w0_in 241 rfl rfl
theorem wd242 : Cond.methodLink "StatRows$RegisterRow" 13 yJA_fill ∈ W0 := w0_in 242 (by decide +kernel) rfl
theorem wd244 : Cond.methodLink "StatRows$RegisterRow" 25 yG_tell ∈ W0 := w0_in 244 (by decide +kernel) rfl
theorem wd246 : Cond.instanceMethod yG_tell ∈ W0 := w0_in 246 (by decide +kernel) rfl
set_option maxRecDepth 20000 in
theorem wd247 : Cond.code yG_tell cG_tell 3 none ∈ W0 := w0_in 247 rfl rfl
theorem wd248 : Cond.methodLink "StatRows$RegisterRow" 36 yG_rankOf ∈ W0 := w0_in 248 (by decide +kernel) rfl
theorem wd249 : Cond.static yG_rankOf ∈ W0 := w0_in 249 (by decide +kernel) rfl
set_option maxRecDepth 20000 in
theorem wd250 : Cond.code yG_rankOf cG_rankOf 2 (some .int) ∈ W0 := w0_in 250 rfl rfl
theorem wd251 : Cond.methodLink "StatRows$RegisterRow" 39 yJM_max ∈ W0 := w0_in 251 (by decide +kernel) rfl
theorem wd252 : Cond.static yJM_max ∈ W0 := w0_in 252 (by decide +kernel) rfl
set_option maxRecDepth 20000 in
theorem wd253 : Cond.code yJM_max cJM_max 2 (some .int) ∈ W0 := w0_in 253 rfl rfl
theorem wd254 : Cond.methodLink "StatRows" 100 yG_rank ∈ W0 := w0_in 254 (by decide +kernel) rfl
theorem wd255 : Cond.instanceMethod yG_rank ∈ W0 := w0_in 255 (by decide +kernel) rfl
theorem wd256 : Cond.selects "StatRows$RegisterRow" yG_rank yG_rank ∈ W0 := w0_in 256 (by decide +kernel) rfl
set_option maxRecDepth 20000 in
theorem wd257 : Cond.code yG_rank cG_rank 2 (some .int) ∈ W0 := w0_in 257 rfl rfl
theorem wd258 : Cond.methodLink "StatRowsLaw" 48 yX_distinct ∈ W0 := w0_in 258 (by decide +kernel) rfl
theorem wd259 : Cond.instanceMethod yX_distinct ∈ W0 := w0_in 259 (by decide +kernel) rfl
theorem wd260 : Cond.selects "StatRows" yX_distinct yX_distinct ∈ W0 := w0_in 260 (by decide +kernel) rfl
set_option maxRecDepth 20000 in
theorem wd261 : Cond.code yX_distinct cX_distinct 4 (some .long) ∈ W0 := w0_in 261 rfl rfl
theorem wd262 : Cond.methodLink "StatRows" 107 yG_about ∈ W0 := w0_in 262 (by decide +kernel) rfl
theorem wd263 : Cond.instanceMethod yG_about ∈ W0 := w0_in 263 (by decide +kernel) rfl
theorem wd264 : Cond.selects "StatRows$RegisterRow" yG_about yG_about ∈ W0 := w0_in 264 (by decide +kernel) rfl
set_option maxRecDepth 20000 in
theorem wd265 : Cond.code yG_about cG_about 5 (some .long) ∈ W0 := w0_in 265 rfl rfl
theorem wd266 : Cond.fieldLink "StatRows$RegisterRow" 29 "StatRows$RegisterRow" "ABOUT_BY_ZEROS" "[I" ∈ W0 := w0_in 266 (by decide +kernel) rfl
theorem wd268 : Cond.constantLong "StatRows$RegisterRow" 32 184992831373312 ∈ W0 := w0_in 268 (by decide +kernel) rfl
theorem wd269 : Cond.constantLong "StatRows$RegisterRow" 34 1000 ∈ W0 := w0_in 269 (by decide +kernel) rfl
theorem wd270 : Cond.methodLink "StatRowsLaw" 52 yX_estimate ∈ W0 := w0_in 270 (by decide +kernel) rfl
theorem wd271 : Cond.instanceMethod yX_estimate ∈ W0 := w0_in 271 (by decide +kernel) rfl
theorem wd272 : Cond.selects "StatRows" yX_estimate yX_estimate ∈ W0 := w0_in 272 (by decide +kernel) rfl
set_option maxRecDepth 20000 in
theorem wd273 : Cond.code yX_estimate cX_estimate 4 (some .long) ∈ W0 := w0_in 273 rfl rfl
theorem wd274 : Cond.methodLink "StatRows" 111 yX_joinEstimate ∈ W0 := w0_in 274 (by decide +kernel) rfl
theorem wd276 : Cond.instanceMethod yX_joinEstimate ∈ W0 := w0_in 276 (by decide +kernel) rfl
set_option maxRecDepth 20000 in
theorem wd277 : Cond.code yX_joinEstimate cX_joinEstimate 5 (some .long) ∈ W0 := w0_in 277 rfl rfl
theorem wd278 : Cond.methodLink "StatRows" 182 yJM_max ∈ W0 := w0_in 278 (by decide +kernel) rfl
theorem wd279 : Cond.methodLink "StatRows" 115 yX_sampledChainEstimate ∈ W0 := w0_in 279 (by decide +kernel) rfl
theorem wd281 : Cond.instanceMethod yX_sampledChainEstimate ∈ W0 := w0_in 281 (by decide +kernel) rfl
set_option maxRecDepth 20000 in
theorem wd282 : Cond.code yX_sampledChainEstimate cX_sampledChainEstimate 3 (some .long) ∈ W0 := w0_in 282 rfl rfl
theorem wd283 : Cond.constantLong "StatRows" 196 16 ∈ W0 := w0_in 283 (by decide +kernel) rfl
theorem wd284 : Cond.methodLink "StatRowsLaw" 57 yX_range ∈ W0 := w0_in 284 (by decide +kernel) rfl
theorem wd285 : Cond.instanceMethod yX_range ∈ W0 := w0_in 285 (by decide +kernel) rfl
theorem wd286 : Cond.selects "StatRows" yX_range yX_range ∈ W0 := w0_in 286 (by decide +kernel) rfl
set_option maxRecDepth 20000 in
theorem wd287 : Cond.code yX_range cX_range 9 (some .int) ∈ W0 := w0_in 287 rfl rfl
theorem wd288 : Cond.methodLink "StatRows" 119 yX_shared ∈ W0 := w0_in 288 (by decide +kernel) rfl
theorem wd289 : Cond.static yX_shared ∈ W0 := w0_in 289 (by decide +kernel) rfl
set_option maxRecDepth 20000 in
theorem wd290 : Cond.code yX_shared cX_shared 6 (some .int) ∈ W0 := w0_in 290 rfl rfl
theorem wd291 : Cond.methodLink "StatRows" 187 yJM_min ∈ W0 := w0_in 291 (by decide +kernel) rfl
theorem wd292 : Cond.static yJM_min ∈ W0 := w0_in 292 (by decide +kernel) rfl
set_option maxRecDepth 20000 in
theorem wd293 : Cond.code yJM_min cJM_min 2 (some .int) ∈ W0 := w0_in 293 rfl rfl
theorem wd294 : Cond.methodLink "StatRowsLaw" 61 yX_sample ∈ W0 := w0_in 294 (by decide +kernel) rfl
theorem wd295 : Cond.instanceMethod yX_sample ∈ W0 := w0_in 295 (by decide +kernel) rfl
theorem wd296 : Cond.selects "StatRows" yX_sample yX_sample ∈ W0 := w0_in 296 (by decide +kernel) rfl
set_option maxRecDepth 20000 in
theorem wd297 : Cond.code yX_sample cX_sample 6 (some .int) ∈ W0 := w0_in 297 rfl rfl
theorem wd298 : Cond.methodLink "StatRows" 132 yT_pairAt ∈ W0 := w0_in 298 (by decide +kernel) rfl
theorem wd299 : Cond.instanceMethod yT_pairAt ∈ W0 := w0_in 299 (by decide +kernel) rfl
theorem wd300 : Cond.selects "StatRows$TripleRow" yT_pairAt yT_pairAt ∈ W0 := w0_in 300 (by decide +kernel) rfl
set_option maxRecDepth 20000 in
theorem wd301 : Cond.code yT_pairAt cT_pairAt 2 (some .int) ∈ W0 := w0_in 301 rfl rfl
theorem wd302 : Cond.methodLink "StatRowsLaw" 65 yX_pattern ∈ W0 := w0_in 302 (by decide +kernel) rfl
theorem wd303 : Cond.instanceMethod yX_pattern ∈ W0 := w0_in 303 (by decide +kernel) rfl
theorem wd304 : Cond.selects "StatRows" yX_pattern yX_pattern ∈ W0 := w0_in 304 (by decide +kernel) rfl
set_option maxRecDepth 20000 in
theorem wd305 : Cond.code yX_pattern cX_pattern 4 (some .int) ∈ W0 := w0_in 305 rfl rfl
theorem wd306 : Cond.methodLink "StatRows" 135 yX_isNumberOrAny ∈ W0 := w0_in 306 (by decide +kernel) rfl
theorem wd307 : Cond.static yX_isNumberOrAny ∈ W0 := w0_in 307 (by decide +kernel) rfl
set_option maxRecDepth 20000 in
theorem wd308 : Cond.code yX_isNumberOrAny cX_isNumberOrAny 1 (some .boolean) ∈ W0 := w0_in 308 rfl rfl
theorem wd309 : Cond.methodLink "StatRows" 138 yX_isPredicateOrAny ∈ W0 := w0_in 309 (by decide +kernel) rfl
theorem wd310 : Cond.static yX_isPredicateOrAny ∈ W0 := w0_in 310 (by decide +kernel) rfl
set_option maxRecDepth 20000 in
theorem wd311 : Cond.code yX_isPredicateOrAny cX_isPredicateOrAny 1 (some .boolean) ∈ W0 := w0_in 311 rfl rfl
theorem wd312 : Cond.methodLink "StatRows" 141 yP_rowOf ∈ W0 := w0_in 312 (by decide +kernel) rfl
theorem wd313 : Cond.instanceMethod yP_rowOf ∈ W0 := w0_in 313 (by decide +kernel) rfl
theorem wd314 : Cond.selects "StatRows$PatternRow" yP_rowOf yP_rowOf ∈ W0 := w0_in 314 (by decide +kernel) rfl
set_option maxRecDepth 20000 in
theorem wd315 : Cond.code yP_rowOf cP_rowOf 5 (some .int) ∈ W0 := w0_in 315 rfl rfl
theorem wd316 : Cond.methodLink "StatRowsLaw" 69 yX_matches ∈ W0 := w0_in 316 (by decide +kernel) rfl
theorem wd317 : Cond.instanceMethod yX_matches ∈ W0 := w0_in 317 (by decide +kernel) rfl
theorem wd318 : Cond.selects "StatRows" yX_matches yX_matches ∈ W0 := w0_in 318 (by decide +kernel) rfl
set_option maxRecDepth 20000 in
theorem wd319 : Cond.code yX_matches cX_matches 6 (some .int) ∈ W0 := w0_in 319 rfl rfl
theorem wd320 : Cond.methodLink "StatRows" 144 yP_has ∈ W0 := w0_in 320 (by decide +kernel) rfl
theorem wd321 : Cond.instanceMethod yP_has ∈ W0 := w0_in 321 (by decide +kernel) rfl
theorem wd322 : Cond.selects "StatRows$PatternRow" yP_has yP_has ∈ W0 := w0_in 322 (by decide +kernel) rfl
set_option maxRecDepth 20000 in
theorem wd323 : Cond.code yP_has cP_has 2 (some .boolean) ∈ W0 := w0_in 323 rfl rfl
theorem wd324 : Cond.methodLink "StatRows" 153 yP_goesWith ∈ W0 := w0_in 324 (by decide +kernel) rfl
theorem wd325 : Cond.instanceMethod yP_goesWith ∈ W0 := w0_in 325 (by decide +kernel) rfl
theorem wd326 : Cond.selects "StatRows$PatternRow" yP_goesWith yP_goesWith ∈ W0 := w0_in 326 (by decide +kernel) rfl
set_option maxRecDepth 20000 in
theorem wd327 : Cond.code yP_goesWith cP_goesWith 5 (some .boolean) ∈ W0 := w0_in 327 rfl rfl
theorem wd328 : Cond.methodLink "StatRows$PatternRow" 25 yP_allows ∈ W0 := w0_in 328 (by decide +kernel) rfl
theorem wd329 : Cond.static yP_allows ∈ W0 := w0_in 329 (by decide +kernel) rfl
set_option maxRecDepth 20000 in
theorem wd330 : Cond.code yP_allows cP_allows 2 (some .boolean) ∈ W0 := w0_in 330 rfl rfl
theorem wd331 : Cond.methodLink "StatRowsLaw" 74 yX_version ∈ W0 := w0_in 331 (by decide +kernel) rfl
theorem wd332 : Cond.instanceMethod yX_version ∈ W0 := w0_in 332 (by decide +kernel) rfl
theorem wd333 : Cond.selects "StatRows" yX_version yX_version ∈ W0 := w0_in 333 (by decide +kernel) rfl
set_option maxRecDepth 20000 in
theorem wd334 : Cond.code yX_version cX_version 1 (some .int) ∈ W0 := w0_in 334 rfl rfl
theorem wd335 : Cond.methodLink "StatRows" 157 yV_finish ∈ W0 := w0_in 335 (by decide +kernel) rfl
theorem wd336 : Cond.instanceMethod yV_finish ∈ W0 := w0_in 336 (by decide +kernel) rfl
theorem wd337 : Cond.selects "StatRows$VersionRow" yV_finish yV_finish ∈ W0 := w0_in 337 (by decide +kernel) rfl
set_option maxRecDepth 20000 in
theorem wd338 : Cond.code yV_finish cV_finish 3 (some .int) ∈ W0 := w0_in 338 rfl rfl
theorem wd339 : Cond.methodLink "StatRows$VersionRow" 22 yV_kept ∈ W0 := w0_in 339 (by decide +kernel) rfl
theorem wd340 : Cond.instanceMethod yV_kept ∈ W0 := w0_in 340 (by decide +kernel) rfl
theorem wd341 : Cond.selects "StatRows$VersionRow" yV_kept yV_kept ∈ W0 := w0_in 341 (by decide +kernel) rfl
set_option maxRecDepth 20000 in
theorem wd342 : Cond.code yV_kept cV_kept 1 (some .int) ∈ W0 := w0_in 342 rfl rfl
theorem wd343 : Cond.constant "StatRows$VersionRow" 28 2147483647 ∈ W0 := w0_in 343 (by decide +kernel) rfl
theorem wd344 : Cond.methodLink "StatRows$VersionRow" 29 yV_place ∈ W0 := w0_in 344 (by decide +kernel) rfl
theorem wd345 : Cond.static yV_place ∈ W0 := w0_in 345 (by decide +kernel) rfl
set_option maxRecDepth 20000 in
theorem wd346 : Cond.code yV_place cV_place 2 (some .int) ∈ W0 := w0_in 346 rfl rfl
theorem wd347 : Cond.methodLink "StatRows$VersionRow" 33 yT_sizeOf ∈ W0 := w0_in 347 (by decide +kernel) rfl
theorem wd348 : Cond.methodLink "StatRowsLaw" 79 yX_countAt ∈ W0 := w0_in 348 (by decide +kernel) rfl
theorem wd349 : Cond.instanceMethod yX_countAt ∈ W0 := w0_in 349 (by decide +kernel) rfl
theorem wd350 : Cond.selects "StatRows" yX_countAt yX_countAt ∈ W0 := w0_in 350 (by decide +kernel) rfl
set_option maxRecDepth 20000 in
theorem wd351 : Cond.code yX_countAt cX_countAt 3 (some .int) ∈ W0 := w0_in 351 rfl rfl
theorem wd352 : Cond.methodLink "StatRows" 161 yV_sizeAt ∈ W0 := w0_in 352 (by decide +kernel) rfl
theorem wd353 : Cond.instanceMethod yV_sizeAt ∈ W0 := w0_in 353 (by decide +kernel) rfl
theorem wd354 : Cond.selects "StatRows$VersionRow" yV_sizeAt yV_sizeAt ∈ W0 := w0_in 354 (by decide +kernel) rfl
set_option maxRecDepth 20000 in
theorem wd355 : Cond.code yV_sizeAt cV_sizeAt 3 (some .int) ∈ W0 := w0_in 355 rfl rfl
theorem wd356 : Cond.methodLink "StatRows$VersionRow" 39 yV_hasEnded ∈ W0 := w0_in 356 (by decide +kernel) rfl
theorem wd358 : Cond.instanceMethod yV_hasEnded ∈ W0 := w0_in 358 (by decide +kernel) rfl
set_option maxRecDepth 20000 in
theorem wd359 : Cond.code yV_hasEnded cV_hasEnded 2 (some .boolean) ∈ W0 := w0_in 359 rfl rfl
theorem wd360 : Cond.methodLink "StatRowsLaw" 83 yX_forget ∈ W0 := w0_in 360 (by decide +kernel) rfl
theorem wd361 : Cond.instanceMethod yX_forget ∈ W0 := w0_in 361 (by decide +kernel) rfl
theorem wd362 : Cond.selects "StatRows" yX_forget yX_forget ∈ W0 := w0_in 362 (by decide +kernel) rfl
set_option maxRecDepth 20000 in
theorem wd363 : Cond.code yX_forget cX_forget 2 (some .int) ∈ W0 := w0_in 363 rfl rfl
theorem wd364 : Cond.methodLink "StatRows" 164 yV_forgetBelow ∈ W0 := w0_in 364 (by decide +kernel) rfl
theorem wd365 : Cond.instanceMethod yV_forgetBelow ∈ W0 := w0_in 365 (by decide +kernel) rfl
theorem wd366 : Cond.selects "StatRows$VersionRow" yV_forgetBelow yV_forgetBelow ∈ W0 := w0_in 366 (by decide +kernel) rfl
set_option maxRecDepth 20000 in
theorem wd367 : Cond.code yV_forgetBelow cV_forgetBelow 3 (some .int) ∈ W0 := w0_in 367 rfl rfl
theorem wd368 : Cond.methodLink "StatRows$VersionRow" 43 yJM_max ∈ W0 := w0_in 368 (by decide +kernel) rfl
theorem wd369 : Cond.methodLink "StatRowsLaw" 87 yX_told ∈ W0 := w0_in 369 (by decide +kernel) rfl
theorem wd370 : Cond.instanceMethod yX_told ∈ W0 := w0_in 370 (by decide +kernel) rfl
theorem wd371 : Cond.selects "StatRows" yX_told yX_told ∈ W0 := w0_in 371 (by decide +kernel) rfl
set_option maxRecDepth 20000 in
theorem wd372 : Cond.code yX_told cX_told 2 (some .int) ∈ W0 := w0_in 372 rfl rfl
theorem wd373 : Cond.methodLink "StatRows" 167 yT_size ∈ W0 := w0_in 373 (by decide +kernel) rfl
theorem wd374 : Cond.methodLink "StatRows" 170 yP_size ∈ W0 := w0_in 374 (by decide +kernel) rfl
theorem wd375 : Cond.instanceMethod yP_size ∈ W0 := w0_in 375 (by decide +kernel) rfl
theorem wd376 : Cond.selects "StatRows$PatternRow" yP_size yP_size ∈ W0 := w0_in 376 (by decide +kernel) rfl
set_option maxRecDepth 20000 in
theorem wd377 : Cond.code yP_size cP_size 1 (some .int) ∈ W0 := w0_in 377 rfl rfl
theorem wd378 : Cond.methodLink "StatRows" 171 yV_ended ∈ W0 := w0_in 378 (by decide +kernel) rfl
theorem wd379 : Cond.instanceMethod yV_ended ∈ W0 := w0_in 379 (by decide +kernel) rfl
theorem wd380 : Cond.selects "StatRows$VersionRow" yV_ended yV_ended ∈ W0 := w0_in 380 (by decide +kernel) rfl
set_option maxRecDepth 20000 in
theorem wd381 : Cond.code yV_ended cV_ended 1 (some .int) ∈ W0 := w0_in 381 rfl rfl
theorem wd382 : Cond.methodLink "StatRows" 174 yV_kept ∈ W0 := w0_in 382 (by decide +kernel) rfl
theorem wd383 : Cond.classLink "StatRowsLaw" 10 "StatRowsModel" ∈ W0 := w0_in 383 (by decide +kernel) rfl
theorem wd384 : Cond.instantiable "StatRowsModel" 10 ∈ W0 := w0_in 384 (by decide +kernel) rfl
theorem wd385 : Cond.methodLink "StatRowsLaw" 12 yM_init ∈ W0 := w0_in 385 (by decide +kernel) rfl
theorem wd386 : Cond.instanceMethod yM_init ∈ W0 := w0_in 386 (by decide +kernel) rfl
set_option maxRecDepth 20000 in
theorem wd387 : Cond.code yM_init cM_init 1 none ∈ W0 := w0_in 387 rfl rfl
theorem wd388 : Cond.methodLink "StatRowsModel" 1 objectInit ∈ W0 := w0_in 388 (by decide +kernel) rfl
theorem wd389 : Cond.fieldLink "StatRowsModel" 29 "StatRowsModel" "triples" "I" ∈ W0 := w0_in 389 (by decide +kernel) rfl
theorem wd390 : Cond.fieldLink "StatRowsModel" 7 "StatRowsModel" "subjects" "[I" ∈ W0 := w0_in 390 (by decide +kernel) rfl
theorem wd391 : Cond.fieldLink "StatRowsModel" 13 "StatRowsModel" "predicates" "[I" ∈ W0 := w0_in 391 (by decide +kernel) rfl
theorem wd392 : Cond.fieldLink "StatRowsModel" 16 "StatRowsModel" "objects" "[I" ∈ W0 := w0_in 392 (by decide +kernel) rfl
theorem wd393 : Cond.fieldLink "StatRowsModel" 89 "StatRowsModel" "patterns" "I" ∈ W0 := w0_in 393 (by decide +kernel) rfl
theorem wd394 : Cond.fieldLink "StatRowsModel" 19 "StatRowsModel" "asked" "[I" ∈ W0 := w0_in 394 (by decide +kernel) rfl
theorem wd395 : Cond.fieldLink "StatRowsModel" 96 "StatRowsModel" "ended" "I" ∈ W0 := w0_in 395 (by decide +kernel) rfl
theorem wd396 : Cond.fieldLink "StatRowsModel" 99 "StatRowsModel" "firstKept" "I" ∈ W0 := w0_in 396 (by decide +kernel) rfl
theorem wd397 : Cond.fieldLink "StatRowsModel" 22 "StatRowsModel" "counts" "[I" ∈ W0 := w0_in 397 (by decide +kernel) rfl
theorem wd398 : Cond.fieldLink "StatRowsModel" 25 "StatRowsModel" "seen" "[Z" ∈ W0 := w0_in 398 (by decide +kernel) rfl
theorem wd399 : Cond.lays "StatRowsModel" "StatRowsModel" "triples" "I" ∈ W0 := w0_in 399 (by decide +kernel) rfl
theorem wd401 : Cond.laysFinal "StatRowsModel" "StatRowsModel" "subjects" "[I" ∈ W0 := w0_in 401 (by decide +kernel) rfl
theorem wd403 : Cond.laysFinal "StatRowsModel" "StatRowsModel" "predicates" "[I" ∈ W0 := w0_in 403 (by decide +kernel) rfl
theorem wd405 : Cond.laysFinal "StatRowsModel" "StatRowsModel" "objects" "[I" ∈ W0 := w0_in 405 (by decide +kernel) rfl
theorem wd407 : Cond.lays "StatRowsModel" "StatRowsModel" "patterns" "I" ∈ W0 := w0_in 407 (by decide +kernel) rfl
theorem wd409 : Cond.laysFinal "StatRowsModel" "StatRowsModel" "asked" "[I" ∈ W0 := w0_in 409 (by decide +kernel) rfl
theorem wd411 : Cond.lays "StatRowsModel" "StatRowsModel" "ended" "I" ∈ W0 := w0_in 411 (by decide +kernel) rfl
theorem wd413 : Cond.lays "StatRowsModel" "StatRowsModel" "firstKept" "I" ∈ W0 := w0_in 413 (by decide +kernel) rfl
theorem wd415 : Cond.laysFinal "StatRowsModel" "StatRowsModel" "counts" "[I" ∈ W0 := w0_in 415 (by decide +kernel) rfl
theorem wd417 : Cond.laysFinal "StatRowsModel" "StatRowsModel" "seen" "[Z" ∈ W0 := w0_in 417 (by decide +kernel) rfl
theorem wd420 : Cond.arrayClass .boolean ∈ W0 := w0_in 420 (by decide +kernel) rfl
theorem wd421 : Cond.methodLink "StatRowsLaw" 17 yM_triple ∈ W0 := w0_in 421 (by decide +kernel) rfl
theorem wd422 : Cond.instanceMethod yM_triple ∈ W0 := w0_in 422 (by decide +kernel) rfl
theorem wd423 : Cond.selects "StatRowsModel" yM_triple yM_triple ∈ W0 := w0_in 423 (by decide +kernel) rfl
set_option maxRecDepth 20000 in
theorem wd424 : Cond.code yM_triple cM_triple 4 (some .int) ∈ W0 := w0_in 424 rfl rfl
theorem wd425 : Cond.methodLink "StatRowsModel" 33 yM_isTerm ∈ W0 := w0_in 425 (by decide +kernel) rfl
theorem wd426 : Cond.static yM_isTerm ∈ W0 := w0_in 426 (by decide +kernel) rfl
set_option maxRecDepth 20000 in
theorem wd427 : Cond.code yM_isTerm cM_isTerm 1 (some .boolean) ∈ W0 := w0_in 427 rfl rfl
theorem wd428 : Cond.methodLink "StatRowsModel" 37 yM_isPredicate ∈ W0 := w0_in 428 (by decide +kernel) rfl
theorem wd429 : Cond.static yM_isPredicate ∈ W0 := w0_in 429 (by decide +kernel) rfl
set_option maxRecDepth 20000 in
theorem wd430 : Cond.code yM_isPredicate cM_isPredicate 1 (some .boolean) ∈ W0 := w0_in 430 rfl rfl
theorem wd431 : Cond.methodLink "StatRowsModel" 40 yM_find ∈ W0 := w0_in 431 (by decide +kernel) rfl
theorem wd433 : Cond.instanceMethod yM_find ∈ W0 := w0_in 433 (by decide +kernel) rfl
set_option maxRecDepth 20000 in
theorem wd434 : Cond.code yM_find cM_find 6 (some .int) ∈ W0 := w0_in 434 rfl rfl
theorem wd435 : Cond.methodLink "StatRowsLaw" 21 yM_drop ∈ W0 := w0_in 435 (by decide +kernel) rfl
theorem wd436 : Cond.instanceMethod yM_drop ∈ W0 := w0_in 436 (by decide +kernel) rfl
theorem wd437 : Cond.selects "StatRowsModel" yM_drop yM_drop ∈ W0 := w0_in 437 (by decide +kernel) rfl
set_option maxRecDepth 20000 in
theorem wd438 : Cond.code yM_drop cM_drop 5 (some .int) ∈ W0 := w0_in 438 rfl rfl
theorem wd439 : Cond.methodLink "StatRowsLaw" 26 yM_count ∈ W0 := w0_in 439 (by decide +kernel) rfl
theorem wd440 : Cond.instanceMethod yM_count ∈ W0 := w0_in 440 (by decide +kernel) rfl
theorem wd441 : Cond.selects "StatRowsModel" yM_count yM_count ∈ W0 := w0_in 441 (by decide +kernel) rfl
set_option maxRecDepth 20000 in
theorem wd442 : Cond.code yM_count cM_count 3 (some .int) ∈ W0 := w0_in 442 rfl rfl
theorem wd443 : Cond.methodLink "StatRowsModel" 44 yM_countOf ∈ W0 := w0_in 443 (by decide +kernel) rfl
theorem wd445 : Cond.instanceMethod yM_countOf ∈ W0 := w0_in 445 (by decide +kernel) rfl
set_option maxRecDepth 20000 in
theorem wd446 : Cond.code yM_countOf cM_countOf 4 (some .int) ∈ W0 := w0_in 446 rfl rfl
theorem wd447 : Cond.methodLink "StatRowsModel" 48 yM_different ∈ W0 := w0_in 447 (by decide +kernel) rfl
theorem wd449 : Cond.instanceMethod yM_different ∈ W0 := w0_in 449 (by decide +kernel) rfl
set_option maxRecDepth 20000 in
theorem wd450 : Cond.code yM_different cM_different 6 (some .int) ∈ W0 := w0_in 450 rfl rfl
theorem wd451 : Cond.methodLink "StatRowsLaw" 31 yM_chain ∈ W0 := w0_in 451 (by decide +kernel) rfl
theorem wd452 : Cond.instanceMethod yM_chain ∈ W0 := w0_in 452 (by decide +kernel) rfl
theorem wd453 : Cond.selects "StatRowsModel" yM_chain yM_chain ∈ W0 := w0_in 453 (by decide +kernel) rfl
set_option maxRecDepth 20000 in
theorem wd454 : Cond.code yM_chain cM_chain 3 (some .long) ∈ W0 := w0_in 454 rfl rfl
theorem wd455 : Cond.methodLink "StatRowsModel" 60 yM_pairs ∈ W0 := w0_in 455 (by decide +kernel) rfl
theorem wd457 : Cond.instanceMethod yM_pairs ∈ W0 := w0_in 457 (by decide +kernel) rfl
set_option maxRecDepth 20000 in
theorem wd458 : Cond.code yM_pairs cM_pairs 11 (some .long) ∈ W0 := w0_in 458 rfl rfl
theorem wd459 : Cond.methodLink "StatRowsModel" 57 yM_isSampled ∈ W0 := w0_in 459 (by decide +kernel) rfl
theorem wd461 : Cond.instanceMethod yM_isSampled ∈ W0 := w0_in 461 (by decide +kernel) rfl
set_option maxRecDepth 20000 in
theorem wd462 : Cond.code yM_isSampled cM_isSampled 2 (some .boolean) ∈ W0 := w0_in 462 rfl rfl
theorem wd463 : Cond.methodLink "StatRowsModel" 54 yM_hash ∈ W0 := w0_in 463 (by decide +kernel) rfl
theorem wd464 : Cond.static yM_hash ∈ W0 := w0_in 464 (by decide +kernel) rfl
set_option maxRecDepth 20000 in
theorem wd465 : Cond.code yM_hash cM_hash 2 (some .int) ∈ W0 := w0_in 465 rfl rfl
theorem wd466 : Cond.constant "StatRowsModel" 52 (-1640531535) ∈ W0 := w0_in 466 (by decide +kernel) rfl
theorem wd467 : Cond.constant "StatRowsModel" 53 (-2048144777) ∈ W0 := w0_in 467 (by decide +kernel) rfl
theorem wd468 : Cond.constantLong "StatRowsModel" 64 (-1) ∈ W0 := w0_in 468 (by decide +kernel) rfl
theorem wd469 : Cond.methodLink "StatRowsLaw" 35 yM_star ∈ W0 := w0_in 469 (by decide +kernel) rfl
theorem wd470 : Cond.instanceMethod yM_star ∈ W0 := w0_in 470 (by decide +kernel) rfl
theorem wd471 : Cond.selects "StatRowsModel" yM_star yM_star ∈ W0 := w0_in 471 (by decide +kernel) rfl
set_option maxRecDepth 20000 in
theorem wd472 : Cond.code yM_star cM_star 3 (some .long) ∈ W0 := w0_in 472 rfl rfl
theorem wd473 : Cond.methodLink "StatRowsLaw" 39 yM_bucket ∈ W0 := w0_in 473 (by decide +kernel) rfl
theorem wd474 : Cond.instanceMethod yM_bucket ∈ W0 := w0_in 474 (by decide +kernel) rfl
theorem wd475 : Cond.selects "StatRowsModel" yM_bucket yM_bucket ∈ W0 := w0_in 475 (by decide +kernel) rfl
set_option maxRecDepth 20000 in
theorem wd476 : Cond.code yM_bucket cM_bucket 4 (some .int) ∈ W0 := w0_in 476 rfl rfl
theorem wd477 : Cond.methodLink "StatRowsModel" 66 yM_between ∈ W0 := w0_in 477 (by decide +kernel) rfl
theorem wd479 : Cond.instanceMethod yM_between ∈ W0 := w0_in 479 (by decide +kernel) rfl
set_option maxRecDepth 20000 in
theorem wd480 : Cond.code yM_between cM_between 6 (some .int) ∈ W0 := w0_in 480 rfl rfl
theorem wd481 : Cond.methodLink "StatRowsLaw" 43 yM_quantile ∈ W0 := w0_in 481 (by decide +kernel) rfl
theorem wd482 : Cond.instanceMethod yM_quantile ∈ W0 := w0_in 482 (by decide +kernel) rfl
theorem wd483 : Cond.selects "StatRowsModel" yM_quantile yM_quantile ∈ W0 := w0_in 483 (by decide +kernel) rfl
set_option maxRecDepth 20000 in
theorem wd484 : Cond.code yM_quantile cM_quantile 5 (some .int) ∈ W0 := w0_in 484 rfl rfl
theorem wd485 : Cond.methodLink "StatRowsLaw" 47 yM_register ∈ W0 := w0_in 485 (by decide +kernel) rfl
theorem wd486 : Cond.instanceMethod yM_register ∈ W0 := w0_in 486 (by decide +kernel) rfl
theorem wd487 : Cond.selects "StatRowsModel" yM_register yM_register ∈ W0 := w0_in 487 (by decide +kernel) rfl
set_option maxRecDepth 20000 in
theorem wd488 : Cond.code yM_register cM_register 3 (some .int) ∈ W0 := w0_in 488 rfl rfl
theorem wd489 : Cond.methodLink "StatRowsModel" 69 yM_areBits ∈ W0 := w0_in 489 (by decide +kernel) rfl
theorem wd490 : Cond.static yM_areBits ∈ W0 := w0_in 490 (by decide +kernel) rfl
set_option maxRecDepth 20000 in
theorem wd491 : Cond.code yM_areBits cM_areBits 1 (some .boolean) ∈ W0 := w0_in 491 rfl rfl
theorem wd492 : Cond.methodLink "StatRowsModel" 72 yM_registerOf ∈ W0 := w0_in 492 (by decide +kernel) rfl
theorem wd494 : Cond.instanceMethod yM_registerOf ∈ W0 := w0_in 494 (by decide +kernel) rfl
set_option maxRecDepth 20000 in
theorem wd495 : Cond.code yM_registerOf cM_registerOf 7 (some .int) ∈ W0 := w0_in 495 rfl rfl
theorem wd496 : Cond.methodLink "StatRowsLaw" 51 yM_distinct ∈ W0 := w0_in 496 (by decide +kernel) rfl
theorem wd497 : Cond.instanceMethod yM_distinct ∈ W0 := w0_in 497 (by decide +kernel) rfl
theorem wd498 : Cond.selects "StatRowsModel" yM_distinct yM_distinct ∈ W0 := w0_in 498 (by decide +kernel) rfl
set_option maxRecDepth 20000 in
theorem wd499 : Cond.code yM_distinct cM_distinct 9 (some .long) ∈ W0 := w0_in 499 rfl rfl
theorem wd500 : Cond.methodLink "StatRowsModel" 76 yM_aboutFew ∈ W0 := w0_in 500 (by decide +kernel) rfl
theorem wd501 : Cond.static yM_aboutFew ∈ W0 := w0_in 501 (by decide +kernel) rfl
set_option maxRecDepth 20000 in
theorem wd502 : Cond.code yM_aboutFew cM_aboutFew 1 (some .int) ∈ W0 := w0_in 502 rfl rfl
theorem wd503 : Cond.constantLong "StatRowsModel" 79 184992831373312 ∈ W0 := w0_in 503 (by decide +kernel) rfl
theorem wd504 : Cond.constantLong "StatRowsModel" 81 1000 ∈ W0 := w0_in 504 (by decide +kernel) rfl
theorem wd505 : Cond.methodLink "StatRowsLaw" 56 yM_estimate ∈ W0 := w0_in 505 (by decide +kernel) rfl
theorem wd506 : Cond.instanceMethod yM_estimate ∈ W0 := w0_in 506 (by decide +kernel) rfl
theorem wd507 : Cond.selects "StatRowsModel" yM_estimate yM_estimate ∈ W0 := w0_in 507 (by decide +kernel) rfl
set_option maxRecDepth 20000 in
theorem wd508 : Cond.code yM_estimate cM_estimate 10 (some .long) ∈ W0 := w0_in 508 rfl rfl
theorem wd509 : Cond.constantLong "StatRowsModel" 83 16 ∈ W0 := w0_in 509 (by decide +kernel) rfl
theorem wd510 : Cond.methodLink "StatRowsModel" 85 yM_greatest ∈ W0 := w0_in 510 (by decide +kernel) rfl
theorem wd511 : Cond.static yM_greatest ∈ W0 := w0_in 511 (by decide +kernel) rfl
set_option maxRecDepth 20000 in
theorem wd512 : Cond.code yM_greatest cM_greatest 3 (some .int) ∈ W0 := w0_in 512 rfl rfl
theorem wd513 : Cond.methodLink "StatRowsLaw" 60 yM_range ∈ W0 := w0_in 513 (by decide +kernel) rfl
theorem wd514 : Cond.instanceMethod yM_range ∈ W0 := w0_in 514 (by decide +kernel) rfl
theorem wd515 : Cond.selects "StatRowsModel" yM_range yM_range ∈ W0 := w0_in 515 (by decide +kernel) rfl
set_option maxRecDepth 20000 in
theorem wd516 : Cond.code yM_range cM_range 8 (some .int) ∈ W0 := w0_in 516 rfl rfl
theorem wd517 : Cond.methodLink "StatRowsLaw" 64 yM_sample ∈ W0 := w0_in 517 (by decide +kernel) rfl
theorem wd518 : Cond.instanceMethod yM_sample ∈ W0 := w0_in 518 (by decide +kernel) rfl
theorem wd519 : Cond.selects "StatRowsModel" yM_sample yM_sample ∈ W0 := w0_in 519 (by decide +kernel) rfl
set_option maxRecDepth 20000 in
theorem wd520 : Cond.code yM_sample cM_sample 8 (some .int) ∈ W0 := w0_in 520 rfl rfl
theorem wd521 : Cond.constant "StatRowsModel" 88 65536 ∈ W0 := w0_in 521 (by decide +kernel) rfl
theorem wd522 : Cond.methodLink "StatRowsLaw" 68 yM_pattern ∈ W0 := w0_in 522 (by decide +kernel) rfl
theorem wd523 : Cond.instanceMethod yM_pattern ∈ W0 := w0_in 523 (by decide +kernel) rfl
theorem wd524 : Cond.selects "StatRowsModel" yM_pattern yM_pattern ∈ W0 := w0_in 524 (by decide +kernel) rfl
set_option maxRecDepth 20000 in
theorem wd525 : Cond.code yM_pattern cM_pattern 5 (some .int) ∈ W0 := w0_in 525 rfl rfl
theorem wd526 : Cond.methodLink "StatRowsLaw" 73 yM_matches ∈ W0 := w0_in 526 (by decide +kernel) rfl
theorem wd527 : Cond.instanceMethod yM_matches ∈ W0 := w0_in 527 (by decide +kernel) rfl
theorem wd528 : Cond.selects "StatRowsModel" yM_matches yM_matches ∈ W0 := w0_in 528 (by decide +kernel) rfl
set_option maxRecDepth 20000 in
theorem wd529 : Cond.code yM_matches cM_matches 4 (some .int) ∈ W0 := w0_in 529 rfl rfl
theorem wd530 : Cond.methodLink "StatRowsModel" 92 yM_fits ∈ W0 := w0_in 530 (by decide +kernel) rfl
theorem wd531 : Cond.static yM_fits ∈ W0 := w0_in 531 (by decide +kernel) rfl
set_option maxRecDepth 20000 in
theorem wd532 : Cond.code yM_fits cM_fits 2 (some .boolean) ∈ W0 := w0_in 532 rfl rfl
theorem wd533 : Cond.methodLink "StatRowsLaw" 78 yM_version ∈ W0 := w0_in 533 (by decide +kernel) rfl
theorem wd534 : Cond.instanceMethod yM_version ∈ W0 := w0_in 534 (by decide +kernel) rfl
theorem wd535 : Cond.selects "StatRowsModel" yM_version yM_version ∈ W0 := w0_in 535 (by decide +kernel) rfl
set_option maxRecDepth 20000 in
theorem wd536 : Cond.code yM_version cM_version 2 (some .int) ∈ W0 := w0_in 536 rfl rfl
theorem wd537 : Cond.methodLink "StatRowsLaw" 82 yM_countAt ∈ W0 := w0_in 537 (by decide +kernel) rfl
theorem wd538 : Cond.instanceMethod yM_countAt ∈ W0 := w0_in 538 (by decide +kernel) rfl
theorem wd539 : Cond.selects "StatRowsModel" yM_countAt yM_countAt ∈ W0 := w0_in 539 (by decide +kernel) rfl
set_option maxRecDepth 20000 in
theorem wd540 : Cond.code yM_countAt cM_countAt 3 (some .int) ∈ W0 := w0_in 540 rfl rfl
theorem wd541 : Cond.methodLink "StatRowsLaw" 86 yM_forget ∈ W0 := w0_in 541 (by decide +kernel) rfl
theorem wd542 : Cond.instanceMethod yM_forget ∈ W0 := w0_in 542 (by decide +kernel) rfl
theorem wd543 : Cond.selects "StatRowsModel" yM_forget yM_forget ∈ W0 := w0_in 543 (by decide +kernel) rfl
set_option maxRecDepth 20000 in
theorem wd544 : Cond.code yM_forget cM_forget 3 (some .int) ∈ W0 := w0_in 544 rfl rfl
theorem wd545 : Cond.methodLink "StatRowsLaw" 90 yM_told ∈ W0 := w0_in 545 (by decide +kernel) rfl
theorem wd546 : Cond.instanceMethod yM_told ∈ W0 := w0_in 546 (by decide +kernel) rfl
theorem wd547 : Cond.selects "StatRowsModel" yM_told yM_told ∈ W0 := w0_in 547 (by decide +kernel) rfl
set_option maxRecDepth 20000 in
theorem wd548 : Cond.code yM_told cM_told 2 (some .int) ∈ W0 := w0_in 548 rfl rfl
theorem wp0 : Cond.selects "StatRows$TripleRow" yT_placeOf yT_placeOf ∈ W0 := w0_sel 0 (by decide +kernel) rfl
theorem wp1 : Cond.selects "StatRows$TripleRow" yT_isAt yT_isAt ∈ W0 := w0_sel 1 (by decide +kernel) rfl
theorem wp2 : Cond.selects "StatRows$TripleRow" yT_moveStartsAfter yT_moveStartsAfter ∈ W0 := w0_sel 2 (by decide +kernel) rfl
theorem wp3 : Cond.selects "StatRows" yX_subjectsOf yX_subjectsOf ∈ W0 := w0_sel 3 (by decide +kernel) rfl
theorem wp4 : Cond.selects "StatRows" yX_clearTally yX_clearTally ∈ W0 := w0_sel 4 (by decide +kernel) rfl
theorem wp5 : Cond.selects "StatRows" yX_tallySubjects yX_tallySubjects ∈ W0 := w0_sel 5 (by decide +kernel) rfl
theorem wp6 : Cond.selects "StatRows" yX_differentInTally yX_differentInTally ∈ W0 := w0_sel 6 (by decide +kernel) rfl
theorem wp7 : Cond.selects "StatRows" yX_objectsOf yX_objectsOf ∈ W0 := w0_sel 7 (by decide +kernel) rfl
theorem wp8 : Cond.selects "StatRows" yX_tallyObjects yX_tallyObjects ∈ W0 := w0_sel 8 (by decide +kernel) rfl
theorem wp9 : Cond.selects "StatRows" yX_sumAtSubjects yX_sumAtSubjects ∈ W0 := w0_sel 9 (by decide +kernel) rfl
theorem wp10 : Cond.selects "StatRows" yX_withObjectBetween yX_withObjectBetween ∈ W0 := w0_sel 10 (by decide +kernel) rfl
theorem wp11 : Cond.selects "StatRows" yX_tallySubjectsOfAll yX_tallySubjectsOfAll ∈ W0 := w0_sel 11 (by decide +kernel) rfl
theorem wp12 : Cond.selects "StatRows$RegisterRow" yG_tell yG_tell ∈ W0 := w0_sel 12 (by decide +kernel) rfl
theorem wp13 : Cond.selects "StatRows" yX_joinEstimate yX_joinEstimate ∈ W0 := w0_sel 13 (by decide +kernel) rfl
theorem wp14 : Cond.selects "StatRows" yX_sampledChainEstimate yX_sampledChainEstimate ∈ W0 := w0_sel 14 (by decide +kernel) rfl
theorem wp15 : Cond.selects "StatRows$VersionRow" yV_hasEnded yV_hasEnded ∈ W0 := w0_sel 15 (by decide +kernel) rfl
theorem wp16 : Cond.selects "StatRowsModel" yM_find yM_find ∈ W0 := w0_sel 16 (by decide +kernel) rfl
theorem wp17 : Cond.selects "StatRowsModel" yM_countOf yM_countOf ∈ W0 := w0_sel 17 (by decide +kernel) rfl
theorem wp18 : Cond.selects "StatRowsModel" yM_different yM_different ∈ W0 := w0_sel 18 (by decide +kernel) rfl
theorem wp19 : Cond.selects "StatRowsModel" yM_pairs yM_pairs ∈ W0 := w0_sel 19 (by decide +kernel) rfl
theorem wp20 : Cond.selects "StatRowsModel" yM_isSampled yM_isSampled ∈ W0 := w0_sel 20 (by decide +kernel) rfl
theorem wp21 : Cond.selects "StatRowsModel" yM_between yM_between ∈ W0 := w0_sel 21 (by decide +kernel) rfl
theorem wp22 : Cond.selects "StatRowsModel" yM_registerOf yM_registerOf ∈ W0 := w0_sel 22 (by decide +kernel) rfl
theorem inT : ∀ w ∈ u_ws "StatRows$TripleRow" TT 2, w ∈ W0 := List.forall_mem_cons.mpr ⟨wd26, List.forall_mem_cons.mpr ⟨wd28, fun _ h => absurd h List.not_mem_nil⟩⟩
theorem inP : ∀ w ∈ u_ws "StatRows$PatternRow" TP 4, w ∈ W0 := List.forall_mem_cons.mpr ⟨wd42, List.forall_mem_cons.mpr ⟨wd44, List.forall_mem_cons.mpr ⟨wd46, List.forall_mem_cons.mpr ⟨wd48, fun _ h => absurd h List.not_mem_nil⟩⟩⟩⟩
theorem inV : ∀ w ∈ u_ws "StatRows$VersionRow" TV 3, w ∈ W0 := List.forall_mem_cons.mpr ⟨wd60, List.forall_mem_cons.mpr ⟨wd62, List.forall_mem_cons.mpr ⟨wd64, fun _ h => absurd h List.not_mem_nil⟩⟩⟩
theorem inG : ∀ w ∈ u_ws "StatRows$RegisterRow" TG 1, w ∈ W0 := List.forall_mem_cons.mpr ⟨wd74, fun _ h => absurd h List.not_mem_nil⟩
theorem inX : ∀ w ∈ u_ws "StatRows" TX 5, w ∈ W0 := List.forall_mem_cons.mpr ⟨wd82, List.forall_mem_cons.mpr ⟨wd84, List.forall_mem_cons.mpr ⟨wd86, List.forall_mem_cons.mpr ⟨wd88, List.forall_mem_cons.mpr ⟨wd90, fun _ h => absurd h List.not_mem_nil⟩⟩⟩⟩⟩
theorem inM : ∀ w ∈ u_ws "StatRowsModel" TM 10, w ∈ W0 := List.forall_mem_cons.mpr ⟨wd399, List.forall_mem_cons.mpr ⟨wd401, List.forall_mem_cons.mpr ⟨wd403, List.forall_mem_cons.mpr ⟨wd405, List.forall_mem_cons.mpr ⟨wd407, List.forall_mem_cons.mpr ⟨wd409, List.forall_mem_cons.mpr ⟨wd411, List.forall_mem_cons.mpr ⟨wd413, List.forall_mem_cons.mpr ⟨wd415, List.forall_mem_cons.mpr ⟨wd417, fun _ h => absurd h List.not_mem_nil⟩⟩⟩⟩⟩⟩⟩⟩⟩⟩
def wX_init : List Cond := .code yX_init cX_init 1 none :: W0
def wT_init : List Cond := .code yT_init cT_init 1 none :: W0
def wP_init : List Cond := .code yP_init cP_init 1 none :: W0
def wV_init : List Cond := .code yV_init cV_init 1 none :: W0
def wG_init : List Cond := .code yG_init cG_init 1 none :: W0
def wX_triple : List Cond := .code yX_triple cX_triple 4 (some .int) :: W0
def wX_isTriple : List Cond := .code yX_isTriple cX_isTriple 3 (some .boolean) :: W0
def wX_isNumber : List Cond := .code yX_isNumber cX_isNumber 1 (some .boolean) :: W0
def wX_isPredicate : List Cond := .code yX_isPredicate cX_isPredicate 1 (some .boolean) :: W0
def wX_pair : List Cond := .code yX_pair cX_pair 2 (some .int) :: W0
def wT_put : List Cond := .code yT_put cT_put 4 (some .int) :: W0
def wT_placeOf : List Cond := .code yT_placeOf cT_placeOf 5 (some .int) :: W0
def wT_end : List Cond := .code yT_end cT_end 2 (some .int) :: W0
def wT_start : List Cond := .code yT_start cT_start 2 (some .int) :: W0
def wT_isAt : List Cond := .code yT_isAt cT_isAt 4 (some .boolean) :: W0
def wT_size : List Cond := .code yT_size cT_size 1 (some .int) :: W0
def wT_moveStartsAfter : List Cond := .code yT_moveStartsAfter cT_moveStartsAfter 4 none :: W0
def wX_drop : List Cond := .code yX_drop cX_drop 4 (some .int) :: W0
def wT_remove : List Cond := .code yT_remove cT_remove 4 (some .int) :: W0
def wX_count : List Cond := .code yX_count cX_count 3 (some .int) :: W0
def wT_sizeOf : List Cond := .code yT_sizeOf cT_sizeOf 2 (some .int) :: W0
def wX_subjectsOf : List Cond := .code yX_subjectsOf cX_subjectsOf 2 (some .int) :: W0
def wX_clearTally : List Cond := .code yX_clearTally cX_clearTally 1 none :: W0
def wJA_fill : List Cond := .code yJA_fill cJA_fill 4 none :: W0
def wX_tallySubjects : List Cond := .code yX_tallySubjects cX_tallySubjects 4 none :: W0
def wT_subjectAt : List Cond := .code yT_subjectAt cT_subjectAt 2 (some .int) :: W0
def wX_differentInTally : List Cond := .code yX_differentInTally cX_differentInTally 3 (some .int) :: W0
def wX_objectsOf : List Cond := .code yX_objectsOf cX_objectsOf 2 (some .int) :: W0
def wX_tallyObjects : List Cond := .code yX_tallyObjects cX_tallyObjects 5 none :: W0
def wT_isSampled : List Cond := .code yT_isSampled cT_isSampled 2 (some .boolean) :: W0
def wX_hash : List Cond := .code yX_hash cX_hash 2 (some .int) :: W0
def wT_objectAt : List Cond := .code yT_objectAt cT_objectAt 2 (some .int) :: W0
def wX_chain : List Cond := .code yX_chain cX_chain 3 (some .long) :: W0
def wX_sumAtSubjects : List Cond := .code yX_sumAtSubjects cX_sumAtSubjects 7 (some .long) :: W0
def wX_star : List Cond := .code yX_star cX_star 3 (some .long) :: W0
def wX_bucket : List Cond := .code yX_bucket cX_bucket 4 (some .int) :: W0
def wX_withObjectBetween : List Cond := .code yX_withObjectBetween cX_withObjectBetween 8 (some .int) :: W0
def wX_quantile : List Cond := .code yX_quantile cX_quantile 6 (some .int) :: W0
def wX_register : List Cond := .code yX_register cX_register 3 (some .int) :: W0
def wX_isPredicateSet : List Cond := .code yX_isPredicateSet cX_isPredicateSet 1 (some .boolean) :: W0
def wX_tallySubjectsOfAll : List Cond := .code yX_tallySubjectsOfAll cX_tallySubjectsOfAll 3 none :: W0
def wG_tellAll : List Cond := .code yG_tellAll cG_tellAll 3 none :: W0
def wG_tell : List Cond := .code yG_tell cG_tell 3 none :: W0
def wG_rankOf : List Cond := .code yG_rankOf cG_rankOf 2 (some .int) :: W0
def wJM_max : List Cond := .code yJM_max cJM_max 2 (some .int) :: W0
def wG_rank : List Cond := .code yG_rank cG_rank 2 (some .int) :: W0
def wX_distinct : List Cond := .code yX_distinct cX_distinct 4 (some .long) :: W0
def wG_about : List Cond := .code yG_about cG_about 5 (some .long) :: W0
def wX_estimate : List Cond := .code yX_estimate cX_estimate 4 (some .long) :: W0
def wX_joinEstimate : List Cond := .code yX_joinEstimate cX_joinEstimate 5 (some .long) :: W0
def wX_sampledChainEstimate : List Cond := .code yX_sampledChainEstimate cX_sampledChainEstimate 3 (some .long) :: W0
def wX_range : List Cond := .code yX_range cX_range 9 (some .int) :: W0
def wX_shared : List Cond := .code yX_shared cX_shared 6 (some .int) :: W0
def wJM_min : List Cond := .code yJM_min cJM_min 2 (some .int) :: W0
def wX_sample : List Cond := .code yX_sample cX_sample 6 (some .int) :: W0
def wT_pairAt : List Cond := .code yT_pairAt cT_pairAt 2 (some .int) :: W0
def wX_pattern : List Cond := .code yX_pattern cX_pattern 4 (some .int) :: W0
def wX_isNumberOrAny : List Cond := .code yX_isNumberOrAny cX_isNumberOrAny 1 (some .boolean) :: W0
def wX_isPredicateOrAny : List Cond := .code yX_isPredicateOrAny cX_isPredicateOrAny 1 (some .boolean) :: W0
def wP_rowOf : List Cond := .code yP_rowOf cP_rowOf 5 (some .int) :: W0
def wX_matches : List Cond := .code yX_matches cX_matches 6 (some .int) :: W0
def wP_has : List Cond := .code yP_has cP_has 2 (some .boolean) :: W0
def wP_goesWith : List Cond := .code yP_goesWith cP_goesWith 5 (some .boolean) :: W0
def wP_allows : List Cond := .code yP_allows cP_allows 2 (some .boolean) :: W0
def wX_version : List Cond := .code yX_version cX_version 1 (some .int) :: W0
def wV_finish : List Cond := .code yV_finish cV_finish 3 (some .int) :: W0
def wV_kept : List Cond := .code yV_kept cV_kept 1 (some .int) :: W0
def wV_place : List Cond := .code yV_place cV_place 2 (some .int) :: W0
def wX_countAt : List Cond := .code yX_countAt cX_countAt 3 (some .int) :: W0
def wV_sizeAt : List Cond := .code yV_sizeAt cV_sizeAt 3 (some .int) :: W0
def wV_hasEnded : List Cond := .code yV_hasEnded cV_hasEnded 2 (some .boolean) :: W0
def wX_forget : List Cond := .code yX_forget cX_forget 2 (some .int) :: W0
def wV_forgetBelow : List Cond := .code yV_forgetBelow cV_forgetBelow 3 (some .int) :: W0
def wX_told : List Cond := .code yX_told cX_told 2 (some .int) :: W0
def wP_size : List Cond := .code yP_size cP_size 1 (some .int) :: W0
def wV_ended : List Cond := .code yV_ended cV_ended 1 (some .int) :: W0
def wM_init : List Cond := .code yM_init cM_init 1 none :: W0
def wM_triple : List Cond := .code yM_triple cM_triple 4 (some .int) :: W0
def wM_isTerm : List Cond := .code yM_isTerm cM_isTerm 1 (some .boolean) :: W0
def wM_isPredicate : List Cond := .code yM_isPredicate cM_isPredicate 1 (some .boolean) :: W0
def wM_find : List Cond := .code yM_find cM_find 6 (some .int) :: W0
def wM_drop : List Cond := .code yM_drop cM_drop 5 (some .int) :: W0
def wM_count : List Cond := .code yM_count cM_count 3 (some .int) :: W0
def wM_countOf : List Cond := .code yM_countOf cM_countOf 4 (some .int) :: W0
def wM_different : List Cond := .code yM_different cM_different 6 (some .int) :: W0
def wM_chain : List Cond := .code yM_chain cM_chain 3 (some .long) :: W0
def wM_pairs : List Cond := .code yM_pairs cM_pairs 11 (some .long) :: W0
def wM_isSampled : List Cond := .code yM_isSampled cM_isSampled 2 (some .boolean) :: W0
def wM_hash : List Cond := .code yM_hash cM_hash 2 (some .int) :: W0
def wM_star : List Cond := .code yM_star cM_star 3 (some .long) :: W0
def wM_bucket : List Cond := .code yM_bucket cM_bucket 4 (some .int) :: W0
def wM_between : List Cond := .code yM_between cM_between 6 (some .int) :: W0
def wM_quantile : List Cond := .code yM_quantile cM_quantile 5 (some .int) :: W0
def wM_register : List Cond := .code yM_register cM_register 3 (some .int) :: W0
def wM_areBits : List Cond := .code yM_areBits cM_areBits 1 (some .boolean) :: W0
def wM_registerOf : List Cond := .code yM_registerOf cM_registerOf 7 (some .int) :: W0
def wM_distinct : List Cond := .code yM_distinct cM_distinct 9 (some .long) :: W0
def wM_aboutFew : List Cond := .code yM_aboutFew cM_aboutFew 1 (some .int) :: W0
def wM_estimate : List Cond := .code yM_estimate cM_estimate 10 (some .long) :: W0
def wM_greatest : List Cond := .code yM_greatest cM_greatest 3 (some .int) :: W0
def wM_range : List Cond := .code yM_range cM_range 8 (some .int) :: W0
def wM_sample : List Cond := .code yM_sample cM_sample 8 (some .int) :: W0
def wM_pattern : List Cond := .code yM_pattern cM_pattern 5 (some .int) :: W0
def wM_matches : List Cond := .code yM_matches cM_matches 4 (some .int) :: W0
def wM_fits : List Cond := .code yM_fits cM_fits 2 (some .boolean) :: W0
def wM_version : List Cond := .code yM_version cM_version 2 (some .int) :: W0
def wM_countAt : List Cond := .code yM_countAt cM_countAt 3 (some .int) :: W0
def wM_forget : List Cond := .code yM_forget cM_forget 3 (some .int) :: W0
def wM_told : List Cond := .code yM_told cM_told 2 (some .int) :: W0
theorem gd_1 {c1 : Cond} (h : c1 ∈ W0) : GoodIn W0 (c1 :: W0) := fun w hw => (List.mem_cons.mp hw).elim (fun e => by rw [e]; exact ⟨h, w0_good h⟩) (fun h => ⟨h, w0_good h⟩)
theorem gd_V {c1 : Cond} {own C : String} {idx : Nat} {y : MethodName} (h1 : .methodLink own idx y ∈ W0) (h2 : .instanceMethod y ∈ W0) (h3 : .selects C y y ∈ W0) (h4 : .initialized C ∈ W0) (h : c1 ∈ W0) : GoodIn W0 (wsV own idx C y (c1 :: W0)) := fun w hw => by
  rcases List.mem_append.mp hw with hw | hw
  · simp only [List.mem_cons, List.not_mem_nil, or_false] at hw
    rcases hw with rfl | rfl | rfl | rfl
    · exact ⟨h1, w0_good h1⟩
    · exact ⟨h2, w0_good h2⟩
    · exact ⟨h3, w0_good h3⟩
    · exact ⟨h4, w0_good h4⟩
  · exact gd_1 h w hw
theorem gd_S {c1 : Cond} {own : String} {idx : Nat} {y : MethodName} (h1 : .methodLink own idx y ∈ W0) (h2 : .static y ∈ W0) (h4 : .initialized y.cls ∈ W0) (h : c1 ∈ W0) : GoodIn W0 (va_wsS own idx y (c1 :: W0)) := fun w hw => by
  rcases List.mem_append.mp hw with hw | hw
  · simp only [List.mem_cons, List.not_mem_nil, or_false] at hw
    rcases hw with rfl | rfl | rfl
    · exact ⟨h1, w0_good h1⟩
    · exact ⟨h2, w0_good h2⟩
    · exact ⟨h4, w0_good h4⟩
  · exact gd_1 h w hw
end
section
theorem dP_init_0 : decode cP_init 0 = .ok (.aload_n 0, 1) := by decide +kernel
theorem dP_init_1 : decode cP_init 1 = .ok (.invokespecial 3, 3) := by decide +kernel
theorem dP_init_4 : decode cP_init 4 = .ok (.aload_n 0, 1) := by decide +kernel
theorem dP_init_5 : decode cP_init 5 = .ok (.bipush 30, 2) := by decide +kernel
theorem dP_init_7 : decode cP_init 7 = .ok (.newarray .int, 2) := by decide +kernel
theorem dP_init_9 : decode cP_init 9 = .ok (.putfield 11, 3) := by decide +kernel
theorem dP_init_12 : decode cP_init 12 = .ok (.aload_n 0, 1) := by decide +kernel
theorem dP_init_13 : decode cP_init 13 = .ok (.bipush 30, 2) := by decide +kernel
theorem dP_init_15 : decode cP_init 15 = .ok (.newarray .int, 2) := by decide +kernel
theorem dP_init_17 : decode cP_init 17 = .ok (.putfield 15, 3) := by decide +kernel
theorem dP_init_20 : decode cP_init 20 = .ok (.aload_n 0, 1) := by decide +kernel
theorem dP_init_21 : decode cP_init 21 = .ok (.bipush 30, 2) := by decide +kernel
theorem dP_init_23 : decode cP_init 23 = .ok (.newarray .int, 2) := by decide +kernel
theorem dP_init_25 : decode cP_init 25 = .ok (.putfield 18, 3) := by decide +kernel
theorem dP_init_28 : decode cP_init 28 = .ok (.aload_n 0, 1) := by decide +kernel
theorem dP_init_29 : decode cP_init 29 = .ok (.iconst 0, 1) := by decide +kernel
theorem dP_init_30 : decode cP_init 30 = .ok (.putfield 21, 3) := by decide +kernel
theorem dP_init_33 : decode cP_init 33 = .ok (.return_, 1) := by decide +kernel
theorem dP_size_0 : decode cP_size 0 = .ok (.aload_n 0, 1) := by decide +kernel
theorem dP_size_1 : decode cP_size 1 = .ok (.getfield 21, 3) := by decide +kernel
theorem dP_size_4 : decode cP_size 4 = .ok (.ireturn, 1) := by decide +kernel
theorem dP_has_0 : decode cP_has 0 = .ok (.iload_n 1, 1) := by decide +kernel
theorem dP_has_1 : decode cP_has 1 = .ok (.ifCond .lt 15, 3) := by decide +kernel
theorem dP_has_4 : decode cP_has 4 = .ok (.iload_n 1, 1) := by decide +kernel
theorem dP_has_5 : decode cP_has 5 = .ok (.aload_n 0, 1) := by decide +kernel
theorem dP_has_6 : decode cP_has 6 = .ok (.getfield 21, 3) := by decide +kernel
theorem dP_has_9 : decode cP_has 9 = .ok (.if_icmp .ge 7, 3) := by decide +kernel
theorem dP_has_12 : decode cP_has 12 = .ok (.iconst 1, 1) := by decide +kernel
theorem dP_has_13 : decode cP_has 13 = .ok (.goto 4, 3) := by decide +kernel
theorem dP_has_16 : decode cP_has 16 = .ok (.iconst 0, 1) := by decide +kernel
theorem dP_has_17 : decode cP_has 17 = .ok (.ireturn, 1) := by decide +kernel
theorem dP_rowOf_0 : decode cP_rowOf 0 = .ok (.iconst 0, 1) := by decide +kernel
theorem dP_rowOf_1 : decode cP_rowOf 1 = .ok (.istore 4, 2) := by decide +kernel
theorem dP_rowOf_3 : decode cP_rowOf 3 = .ok (.iload 4, 2) := by decide +kernel
theorem dP_rowOf_5 : decode cP_rowOf 5 = .ok (.aload_n 0, 1) := by decide +kernel
theorem dP_rowOf_6 : decode cP_rowOf 6 = .ok (.getfield 21, 3) := by decide +kernel
theorem dP_rowOf_9 : decode cP_rowOf 9 = .ok (.if_icmp .ge 45, 3) := by decide +kernel
theorem dP_rowOf_12 : decode cP_rowOf 12 = .ok (.aload_n 0, 1) := by decide +kernel
theorem dP_rowOf_13 : decode cP_rowOf 13 = .ok (.getfield 11, 3) := by decide +kernel
theorem dP_rowOf_16 : decode cP_rowOf 16 = .ok (.iload 4, 2) := by decide +kernel
theorem dP_rowOf_18 : decode cP_rowOf 18 = .ok (.iaload, 1) := by decide +kernel
theorem dP_rowOf_19 : decode cP_rowOf 19 = .ok (.iload_n 1, 1) := by decide +kernel
theorem dP_rowOf_20 : decode cP_rowOf 20 = .ok (.if_icmp .ne 28, 3) := by decide +kernel
theorem dP_rowOf_23 : decode cP_rowOf 23 = .ok (.aload_n 0, 1) := by decide +kernel
theorem dP_rowOf_24 : decode cP_rowOf 24 = .ok (.getfield 15, 3) := by decide +kernel
theorem dP_rowOf_27 : decode cP_rowOf 27 = .ok (.iload 4, 2) := by decide +kernel
theorem dP_rowOf_29 : decode cP_rowOf 29 = .ok (.iaload, 1) := by decide +kernel
theorem dP_rowOf_30 : decode cP_rowOf 30 = .ok (.iload_n 2, 1) := by decide +kernel
theorem dP_rowOf_31 : decode cP_rowOf 31 = .ok (.if_icmp .ne 17, 3) := by decide +kernel
theorem dP_rowOf_34 : decode cP_rowOf 34 = .ok (.aload_n 0, 1) := by decide +kernel
theorem dP_rowOf_35 : decode cP_rowOf 35 = .ok (.getfield 18, 3) := by decide +kernel
theorem dP_rowOf_38 : decode cP_rowOf 38 = .ok (.iload 4, 2) := by decide +kernel
theorem dP_rowOf_40 : decode cP_rowOf 40 = .ok (.iaload, 1) := by decide +kernel
theorem dP_rowOf_41 : decode cP_rowOf 41 = .ok (.iload_n 3, 1) := by decide +kernel
theorem dP_rowOf_42 : decode cP_rowOf 42 = .ok (.if_icmp .ne 6, 3) := by decide +kernel
theorem dP_rowOf_45 : decode cP_rowOf 45 = .ok (.iload 4, 2) := by decide +kernel
theorem dP_rowOf_47 : decode cP_rowOf 47 = .ok (.ireturn, 1) := by decide +kernel
theorem dP_rowOf_48 : decode cP_rowOf 48 = .ok (.iinc 4 1, 3) := by decide +kernel
theorem dP_rowOf_51 : decode cP_rowOf 51 = .ok (.goto (-48), 3) := by decide +kernel
theorem dP_rowOf_54 : decode cP_rowOf 54 = .ok (.aload_n 0, 1) := by decide +kernel
theorem dP_rowOf_55 : decode cP_rowOf 55 = .ok (.getfield 21, 3) := by decide +kernel
theorem dP_rowOf_58 : decode cP_rowOf 58 = .ok (.bipush 30, 2) := by decide +kernel
theorem dP_rowOf_60 : decode cP_rowOf 60 = .ok (.if_icmp .lt 6, 3) := by decide +kernel
theorem dP_rowOf_63 : decode cP_rowOf 63 = .ok (.bipush (-3), 2) := by decide +kernel
theorem dP_rowOf_65 : decode cP_rowOf 65 = .ok (.ireturn, 1) := by decide +kernel
theorem dP_rowOf_66 : decode cP_rowOf 66 = .ok (.aload_n 0, 1) := by decide +kernel
theorem dP_rowOf_67 : decode cP_rowOf 67 = .ok (.getfield 11, 3) := by decide +kernel
theorem dP_rowOf_70 : decode cP_rowOf 70 = .ok (.aload_n 0, 1) := by decide +kernel
theorem dP_rowOf_71 : decode cP_rowOf 71 = .ok (.getfield 21, 3) := by decide +kernel
theorem dP_rowOf_74 : decode cP_rowOf 74 = .ok (.iload_n 1, 1) := by decide +kernel
theorem dP_rowOf_75 : decode cP_rowOf 75 = .ok (.iastore, 1) := by decide +kernel
theorem dP_rowOf_76 : decode cP_rowOf 76 = .ok (.aload_n 0, 1) := by decide +kernel
theorem dP_rowOf_77 : decode cP_rowOf 77 = .ok (.getfield 15, 3) := by decide +kernel
theorem dP_rowOf_80 : decode cP_rowOf 80 = .ok (.aload_n 0, 1) := by decide +kernel
theorem dP_rowOf_81 : decode cP_rowOf 81 = .ok (.getfield 21, 3) := by decide +kernel
theorem dP_rowOf_84 : decode cP_rowOf 84 = .ok (.iload_n 2, 1) := by decide +kernel
theorem dP_rowOf_85 : decode cP_rowOf 85 = .ok (.iastore, 1) := by decide +kernel
theorem dP_rowOf_86 : decode cP_rowOf 86 = .ok (.aload_n 0, 1) := by decide +kernel
theorem dP_rowOf_87 : decode cP_rowOf 87 = .ok (.getfield 18, 3) := by decide +kernel
theorem dP_rowOf_90 : decode cP_rowOf 90 = .ok (.aload_n 0, 1) := by decide +kernel
theorem dP_rowOf_91 : decode cP_rowOf 91 = .ok (.getfield 21, 3) := by decide +kernel
theorem dP_rowOf_94 : decode cP_rowOf 94 = .ok (.iload_n 3, 1) := by decide +kernel
theorem dP_rowOf_95 : decode cP_rowOf 95 = .ok (.iastore, 1) := by decide +kernel
theorem dP_rowOf_96 : decode cP_rowOf 96 = .ok (.aload_n 0, 1) := by decide +kernel
theorem dP_rowOf_97 : decode cP_rowOf 97 = .ok (.dup, 1) := by decide +kernel
theorem dP_rowOf_98 : decode cP_rowOf 98 = .ok (.getfield 21, 3) := by decide +kernel
theorem dP_rowOf_101 : decode cP_rowOf 101 = .ok (.iconst 1, 1) := by decide +kernel
theorem dP_rowOf_102 : decode cP_rowOf 102 = .ok (.iadd, 1) := by decide +kernel
theorem dP_rowOf_103 : decode cP_rowOf 103 = .ok (.putfield 21, 3) := by decide +kernel
theorem dP_rowOf_106 : decode cP_rowOf 106 = .ok (.aload_n 0, 1) := by decide +kernel
theorem dP_rowOf_107 : decode cP_rowOf 107 = .ok (.getfield 21, 3) := by decide +kernel
theorem dP_rowOf_110 : decode cP_rowOf 110 = .ok (.iconst 1, 1) := by decide +kernel
theorem dP_rowOf_111 : decode cP_rowOf 111 = .ok (.isub, 1) := by decide +kernel
theorem dP_rowOf_112 : decode cP_rowOf 112 = .ok (.ireturn, 1) := by decide +kernel
theorem dP_goesWith_0 : decode cP_goesWith 0 = .ok (.aload_n 0, 1) := by decide +kernel
theorem dP_goesWith_1 : decode cP_goesWith 1 = .ok (.getfield 11, 3) := by decide +kernel
theorem dP_goesWith_4 : decode cP_goesWith 4 = .ok (.iload_n 1, 1) := by decide +kernel
theorem dP_goesWith_5 : decode cP_goesWith 5 = .ok (.iaload, 1) := by decide +kernel
theorem dP_goesWith_6 : decode cP_goesWith 6 = .ok (.iload_n 2, 1) := by decide +kernel
theorem dP_goesWith_7 : decode cP_goesWith 7 = .ok (.invokestatic 25, 3) := by decide +kernel
theorem dP_goesWith_10 : decode cP_goesWith 10 = .ok (.ifCond .eq 34, 3) := by decide +kernel
theorem dP_goesWith_13 : decode cP_goesWith 13 = .ok (.aload_n 0, 1) := by decide +kernel
theorem dP_goesWith_14 : decode cP_goesWith 14 = .ok (.getfield 15, 3) := by decide +kernel
theorem dP_goesWith_17 : decode cP_goesWith 17 = .ok (.iload_n 1, 1) := by decide +kernel
theorem dP_goesWith_18 : decode cP_goesWith 18 = .ok (.iaload, 1) := by decide +kernel
theorem dP_goesWith_19 : decode cP_goesWith 19 = .ok (.iload_n 3, 1) := by decide +kernel
theorem dP_goesWith_20 : decode cP_goesWith 20 = .ok (.invokestatic 25, 3) := by decide +kernel
theorem dP_goesWith_23 : decode cP_goesWith 23 = .ok (.ifCond .eq 21, 3) := by decide +kernel
theorem dP_goesWith_26 : decode cP_goesWith 26 = .ok (.aload_n 0, 1) := by decide +kernel
theorem dP_goesWith_27 : decode cP_goesWith 27 = .ok (.getfield 18, 3) := by decide +kernel
theorem dP_goesWith_30 : decode cP_goesWith 30 = .ok (.iload_n 1, 1) := by decide +kernel
theorem dP_goesWith_31 : decode cP_goesWith 31 = .ok (.iaload, 1) := by decide +kernel
theorem dP_goesWith_32 : decode cP_goesWith 32 = .ok (.iload 4, 2) := by decide +kernel
theorem dP_goesWith_34 : decode cP_goesWith 34 = .ok (.invokestatic 25, 3) := by decide +kernel
theorem dP_goesWith_37 : decode cP_goesWith 37 = .ok (.ifCond .eq 7, 3) := by decide +kernel
theorem dP_goesWith_40 : decode cP_goesWith 40 = .ok (.iconst 1, 1) := by decide +kernel
theorem dP_goesWith_41 : decode cP_goesWith 41 = .ok (.goto 4, 3) := by decide +kernel
theorem dP_goesWith_44 : decode cP_goesWith 44 = .ok (.iconst 0, 1) := by decide +kernel
theorem dP_goesWith_45 : decode cP_goesWith 45 = .ok (.ireturn, 1) := by decide +kernel
theorem dP_allows_0 : decode cP_allows 0 = .ok (.iload_n 0, 1) := by decide +kernel
theorem dP_allows_1 : decode cP_allows 1 = .ok (.iconst (-1), 1) := by decide +kernel
theorem dP_allows_2 : decode cP_allows 2 = .ok (.if_icmp .eq 8, 3) := by decide +kernel
theorem dP_allows_5 : decode cP_allows 5 = .ok (.iload_n 0, 1) := by decide +kernel
theorem dP_allows_6 : decode cP_allows 6 = .ok (.iload_n 1, 1) := by decide +kernel
theorem dP_allows_7 : decode cP_allows 7 = .ok (.if_icmp .ne 7, 3) := by decide +kernel
theorem dP_allows_10 : decode cP_allows 10 = .ok (.iconst 1, 1) := by decide +kernel
theorem dP_allows_11 : decode cP_allows 11 = .ok (.goto 4, 3) := by decide +kernel
theorem dP_allows_14 : decode cP_allows 14 = .ok (.iconst 0, 1) := by decide +kernel
theorem dP_allows_15 : decode cP_allows 15 = .ok (.ireturn, 1) := by decide +kernel
theorem dG_init_0 : decode cG_init 0 = .ok (.aload_n 0, 1) := by decide +kernel
theorem dG_init_1 : decode cG_init 1 = .ok (.invokespecial 1, 3) := by decide +kernel
theorem dG_init_4 : decode cG_init 4 = .ok (.aload_n 0, 1) := by decide +kernel
theorem dG_init_5 : decode cG_init 5 = .ok (.bipush 16, 2) := by decide +kernel
theorem dG_init_7 : decode cG_init 7 = .ok (.newarray .int, 2) := by decide +kernel
theorem dG_init_9 : decode cG_init 9 = .ok (.putfield 9, 3) := by decide +kernel
theorem dG_init_12 : decode cG_init 12 = .ok (.return_, 1) := by decide +kernel
theorem dG_rank_0 : decode cG_rank 0 = .ok (.aload_n 0, 1) := by decide +kernel
theorem dG_rank_1 : decode cG_rank 1 = .ok (.getfield 9, 3) := by decide +kernel
theorem dG_rank_4 : decode cG_rank 4 = .ok (.iload_n 1, 1) := by decide +kernel
theorem dG_rank_5 : decode cG_rank 5 = .ok (.iaload, 1) := by decide +kernel
theorem dG_rank_6 : decode cG_rank 6 = .ok (.ireturn, 1) := by decide +kernel
theorem dG_tellAll_0 : decode cG_tellAll 0 = .ok (.aload_n 0, 1) := by decide +kernel
theorem dG_tellAll_1 : decode cG_tellAll 1 = .ok (.getfield 9, 3) := by decide +kernel
theorem dG_tellAll_4 : decode cG_tellAll 4 = .ok (.iconst 0, 1) := by decide +kernel
theorem dG_tellAll_5 : decode cG_tellAll 5 = .ok (.invokestatic 13, 3) := by decide +kernel
theorem dG_tellAll_8 : decode cG_tellAll 8 = .ok (.iconst 0, 1) := by decide +kernel
theorem dG_tellAll_9 : decode cG_tellAll 9 = .ok (.istore_n 2, 1) := by decide +kernel
theorem dG_tellAll_10 : decode cG_tellAll 10 = .ok (.iload_n 2, 1) := by decide +kernel
theorem dG_tellAll_11 : decode cG_tellAll 11 = .ok (.aload_n 1, 1) := by decide +kernel
theorem dG_tellAll_12 : decode cG_tellAll 12 = .ok (.arraylength, 1) := by decide +kernel
theorem dG_tellAll_13 : decode cG_tellAll 13 = .ok (.if_icmp .ge 23, 3) := by decide +kernel
theorem dG_tellAll_16 : decode cG_tellAll 16 = .ok (.aload_n 1, 1) := by decide +kernel
theorem dG_tellAll_17 : decode cG_tellAll 17 = .ok (.iload_n 2, 1) := by decide +kernel
theorem dG_tellAll_18 : decode cG_tellAll 18 = .ok (.iaload, 1) := by decide +kernel
theorem dG_tellAll_19 : decode cG_tellAll 19 = .ok (.ifCond .le 11, 3) := by decide +kernel
theorem dG_tellAll_22 : decode cG_tellAll 22 = .ok (.aload_n 0, 1) := by decide +kernel
theorem dG_tellAll_23 : decode cG_tellAll 23 = .ok (.iload_n 2, 1) := by decide +kernel
theorem dG_tellAll_24 : decode cG_tellAll 24 = .ok (.invokestatic 19, 3) := by decide +kernel
theorem dG_tellAll_27 : decode cG_tellAll 27 = .ok (.invokevirtual 25, 3) := by decide +kernel
theorem dG_tellAll_30 : decode cG_tellAll 30 = .ok (.iinc 2 1, 3) := by decide +kernel
theorem dG_tellAll_33 : decode cG_tellAll 33 = .ok (.goto (-23), 3) := by decide +kernel
theorem dG_tellAll_36 : decode cG_tellAll 36 = .ok (.return_, 1) := by decide +kernel
theorem dG_about_0 : decode cG_about 0 = .ok (.iconst 0, 1) := by decide +kernel
theorem dG_about_1 : decode cG_about 1 = .ok (.istore_n 1, 1) := by decide +kernel
theorem dG_about_2 : decode cG_about 2 = .ok (.lconst 0, 1) := by decide +kernel
theorem dG_about_3 : decode cG_about 3 = .ok (.lstore_n 2, 1) := by decide +kernel
theorem dG_about_4 : decode cG_about 4 = .ok (.iconst 0, 1) := by decide +kernel
theorem dG_about_5 : decode cG_about 5 = .ok (.istore 4, 2) := by decide +kernel
theorem dG_about_7 : decode cG_about 7 = .ok (.iload 4, 2) := by decide +kernel
theorem dG_about_9 : decode cG_about 9 = .ok (.bipush 16, 2) := by decide +kernel
theorem dG_about_11 : decode cG_about 11 = .ok (.if_icmp .ge 37, 3) := by decide +kernel
theorem dG_about_14 : decode cG_about 14 = .ok (.aload_n 0, 1) := by decide +kernel
theorem dG_about_15 : decode cG_about 15 = .ok (.getfield 9, 3) := by decide +kernel
theorem dG_about_18 : decode cG_about 18 = .ok (.iload 4, 2) := by decide +kernel
theorem dG_about_20 : decode cG_about 20 = .ok (.iaload, 1) := by decide +kernel
theorem dG_about_21 : decode cG_about 21 = .ok (.ifCond .ne 6, 3) := by decide +kernel
theorem dG_about_24 : decode cG_about 24 = .ok (.iinc 1 1, 3) := by decide +kernel
theorem dG_about_27 : decode cG_about 27 = .ok (.lload_n 2, 1) := by decide +kernel
theorem dG_about_28 : decode cG_about 28 = .ok (.lconst 1, 1) := by decide +kernel
theorem dG_about_29 : decode cG_about 29 = .ok (.bipush 30, 2) := by decide +kernel
theorem dG_about_31 : decode cG_about 31 = .ok (.aload_n 0, 1) := by decide +kernel
theorem dG_about_32 : decode cG_about 32 = .ok (.getfield 9, 3) := by decide +kernel
theorem dG_about_35 : decode cG_about 35 = .ok (.iload 4, 2) := by decide +kernel
theorem dG_about_37 : decode cG_about 37 = .ok (.iaload, 1) := by decide +kernel
theorem dG_about_38 : decode cG_about 38 = .ok (.isub, 1) := by decide +kernel
theorem dG_about_39 : decode cG_about 39 = .ok (.lshl, 1) := by decide +kernel
theorem dG_about_40 : decode cG_about 40 = .ok (.ladd, 1) := by decide +kernel
theorem dG_about_41 : decode cG_about 41 = .ok (.lstore_n 2, 1) := by decide +kernel
theorem dG_about_42 : decode cG_about 42 = .ok (.iinc 4 1, 3) := by decide +kernel
theorem dG_about_45 : decode cG_about 45 = .ok (.goto (-38), 3) := by decide +kernel
theorem dG_about_48 : decode cG_about 48 = .ok (.iload_n 1, 1) := by decide +kernel
theorem dG_about_49 : decode cG_about 49 = .ok (.ifCond .le 10, 3) := by decide +kernel
theorem dG_about_52 : decode cG_about 52 = .ok (.getstatic 29, 3) := by decide +kernel
theorem dG_about_55 : decode cG_about 55 = .ok (.iload_n 1, 1) := by decide +kernel
theorem dG_about_56 : decode cG_about 56 = .ok (.iaload, 1) := by decide +kernel
theorem dG_about_57 : decode cG_about 57 = .ok (.i2l, 1) := by decide +kernel
theorem dG_about_58 : decode cG_about 58 = .ok (.lreturn, 1) := by decide +kernel
theorem dG_about_59 : decode cG_about 59 = .ok (.ldc2_w 32, 3) := by decide +kernel
theorem dG_about_62 : decode cG_about 62 = .ok (.ldc2_w 34, 3) := by decide +kernel
theorem dG_about_65 : decode cG_about 65 = .ok (.lload_n 2, 1) := by decide +kernel
theorem dG_about_66 : decode cG_about 66 = .ok (.lmul, 1) := by decide +kernel
theorem dG_about_67 : decode cG_about 67 = .ok (.ldiv, 1) := by decide +kernel
theorem dG_about_68 : decode cG_about 68 = .ok (.lreturn, 1) := by decide +kernel
theorem dG_tell_0 : decode cG_tell 0 = .ok (.iload_n 1, 1) := by decide +kernel
theorem dG_tell_1 : decode cG_tell 1 = .ok (.bipush 15, 2) := by decide +kernel
theorem dG_tell_3 : decode cG_tell 3 = .ok (.iand, 1) := by decide +kernel
theorem dG_tell_4 : decode cG_tell 4 = .ok (.istore_n 2, 1) := by decide +kernel
theorem dG_tell_5 : decode cG_tell 5 = .ok (.aload_n 0, 1) := by decide +kernel
theorem dG_tell_6 : decode cG_tell 6 = .ok (.getfield 9, 3) := by decide +kernel
theorem dG_tell_9 : decode cG_tell 9 = .ok (.iload_n 2, 1) := by decide +kernel
theorem dG_tell_10 : decode cG_tell 10 = .ok (.aload_n 0, 1) := by decide +kernel
theorem dG_tell_11 : decode cG_tell 11 = .ok (.getfield 9, 3) := by decide +kernel
theorem dG_tell_14 : decode cG_tell 14 = .ok (.iload_n 2, 1) := by decide +kernel
theorem dG_tell_15 : decode cG_tell 15 = .ok (.iaload, 1) := by decide +kernel
theorem dG_tell_16 : decode cG_tell 16 = .ok (.iload_n 1, 1) := by decide +kernel
theorem dG_tell_17 : decode cG_tell 17 = .ok (.iconst 4, 1) := by decide +kernel
theorem dG_tell_18 : decode cG_tell 18 = .ok (.iushr, 1) := by decide +kernel
theorem dG_tell_19 : decode cG_tell 19 = .ok (.invokestatic 36, 3) := by decide +kernel
theorem dG_tell_22 : decode cG_tell 22 = .ok (.invokestatic 39, 3) := by decide +kernel
theorem dG_tell_25 : decode cG_tell 25 = .ok (.iastore, 1) := by decide +kernel
theorem dG_tell_26 : decode cG_tell 26 = .ok (.return_, 1) := by decide +kernel
theorem dG_rankOf_0 : decode cG_rankOf 0 = .ok (.iconst 0, 1) := by decide +kernel
theorem dG_rankOf_1 : decode cG_rankOf 1 = .ok (.istore_n 1, 1) := by decide +kernel
theorem dG_rankOf_2 : decode cG_rankOf 2 = .ok (.iload_n 1, 1) := by decide +kernel
theorem dG_rankOf_3 : decode cG_rankOf 3 = .ok (.bipush 28, 2) := by decide +kernel
theorem dG_rankOf_5 : decode cG_rankOf 5 = .ok (.if_icmp .ge 17, 3) := by decide +kernel
theorem dG_rankOf_8 : decode cG_rankOf 8 = .ok (.iload_n 0, 1) := by decide +kernel
theorem dG_rankOf_9 : decode cG_rankOf 9 = .ok (.iload_n 1, 1) := by decide +kernel
theorem dG_rankOf_10 : decode cG_rankOf 10 = .ok (.iushr, 1) := by decide +kernel
theorem dG_rankOf_11 : decode cG_rankOf 11 = .ok (.iconst 1, 1) := by decide +kernel
theorem dG_rankOf_12 : decode cG_rankOf 12 = .ok (.iand, 1) := by decide +kernel
theorem dG_rankOf_13 : decode cG_rankOf 13 = .ok (.ifCond .ne 9, 3) := by decide +kernel
theorem dG_rankOf_16 : decode cG_rankOf 16 = .ok (.iinc 1 1, 3) := by decide +kernel
theorem dG_rankOf_19 : decode cG_rankOf 19 = .ok (.goto (-17), 3) := by decide +kernel
theorem dG_rankOf_22 : decode cG_rankOf 22 = .ok (.iload_n 1, 1) := by decide +kernel
theorem dG_rankOf_23 : decode cG_rankOf 23 = .ok (.iconst 1, 1) := by decide +kernel
theorem dG_rankOf_24 : decode cG_rankOf 24 = .ok (.iadd, 1) := by decide +kernel
theorem dG_rankOf_25 : decode cG_rankOf 25 = .ok (.ireturn, 1) := by decide +kernel
theorem dT_init_0 : decode cT_init 0 = .ok (.aload_n 0, 1) := by decide +kernel
theorem dT_init_1 : decode cT_init 1 = .ok (.invokespecial 3, 3) := by decide +kernel
theorem dT_init_4 : decode cT_init 4 = .ok (.aload_n 0, 1) := by decide +kernel
theorem dT_init_5 : decode cT_init 5 = .ok (.sipush 400, 3) := by decide +kernel
theorem dT_init_8 : decode cT_init 8 = .ok (.newarray .int, 2) := by decide +kernel
theorem dT_init_10 : decode cT_init 10 = .ok (.putfield 11, 3) := by decide +kernel
theorem dT_init_13 : decode cT_init 13 = .ok (.aload_n 0, 1) := by decide +kernel
theorem dT_init_14 : decode cT_init 14 = .ok (.bipush 9, 2) := by decide +kernel
theorem dT_init_16 : decode cT_init 16 = .ok (.newarray .int, 2) := by decide +kernel
theorem dT_init_18 : decode cT_init 18 = .ok (.putfield 15, 3) := by decide +kernel
theorem dT_init_21 : decode cT_init 21 = .ok (.return_, 1) := by decide +kernel
theorem dT_start_0 : decode cT_start 0 = .ok (.aload_n 0, 1) := by decide +kernel
theorem dT_start_1 : decode cT_start 1 = .ok (.getfield 15, 3) := by decide +kernel
theorem dT_start_4 : decode cT_start 4 = .ok (.iload_n 1, 1) := by decide +kernel
theorem dT_start_5 : decode cT_start 5 = .ok (.iaload, 1) := by decide +kernel
theorem dT_start_6 : decode cT_start 6 = .ok (.ireturn, 1) := by decide +kernel
theorem dT_end_0 : decode cT_end 0 = .ok (.aload_n 0, 1) := by decide +kernel
theorem dT_end_1 : decode cT_end 1 = .ok (.getfield 15, 3) := by decide +kernel
theorem dT_end_4 : decode cT_end 4 = .ok (.iload_n 1, 1) := by decide +kernel
theorem dT_end_5 : decode cT_end 5 = .ok (.iconst 1, 1) := by decide +kernel
theorem dT_end_6 : decode cT_end 6 = .ok (.iadd, 1) := by decide +kernel
theorem dT_end_7 : decode cT_end 7 = .ok (.iaload, 1) := by decide +kernel
theorem dT_end_8 : decode cT_end 8 = .ok (.ireturn, 1) := by decide +kernel
theorem dT_sizeOf_0 : decode cT_sizeOf 0 = .ok (.aload_n 0, 1) := by decide +kernel
theorem dT_sizeOf_1 : decode cT_sizeOf 1 = .ok (.iload_n 1, 1) := by decide +kernel
theorem dT_sizeOf_2 : decode cT_sizeOf 2 = .ok (.invokevirtual 18, 3) := by decide +kernel
theorem dT_sizeOf_5 : decode cT_sizeOf 5 = .ok (.aload_n 0, 1) := by decide +kernel
theorem dT_sizeOf_6 : decode cT_sizeOf 6 = .ok (.iload_n 1, 1) := by decide +kernel
theorem dT_sizeOf_7 : decode cT_sizeOf 7 = .ok (.invokevirtual 22, 3) := by decide +kernel
theorem dT_sizeOf_10 : decode cT_sizeOf 10 = .ok (.isub, 1) := by decide +kernel
theorem dT_sizeOf_11 : decode cT_sizeOf 11 = .ok (.ireturn, 1) := by decide +kernel
theorem dT_size_0 : decode cT_size 0 = .ok (.aload_n 0, 1) := by decide +kernel
theorem dT_size_1 : decode cT_size 1 = .ok (.getfield 15, 3) := by decide +kernel
theorem dT_size_4 : decode cT_size 4 = .ok (.bipush 8, 2) := by decide +kernel
theorem dT_size_6 : decode cT_size 6 = .ok (.iaload, 1) := by decide +kernel
theorem dT_size_7 : decode cT_size 7 = .ok (.ireturn, 1) := by decide +kernel
theorem dT_pairAt_0 : decode cT_pairAt 0 = .ok (.aload_n 0, 1) := by decide +kernel
theorem dT_pairAt_1 : decode cT_pairAt 1 = .ok (.getfield 11, 3) := by decide +kernel
theorem dT_pairAt_4 : decode cT_pairAt 4 = .ok (.iload_n 1, 1) := by decide +kernel
theorem dT_pairAt_5 : decode cT_pairAt 5 = .ok (.iaload, 1) := by decide +kernel
theorem dT_pairAt_6 : decode cT_pairAt 6 = .ok (.ireturn, 1) := by decide +kernel
theorem dT_subjectAt_0 : decode cT_subjectAt 0 = .ok (.aload_n 0, 1) := by decide +kernel
theorem dT_subjectAt_1 : decode cT_subjectAt 1 = .ok (.getfield 11, 3) := by decide +kernel
theorem dT_subjectAt_4 : decode cT_subjectAt 4 = .ok (.iload_n 1, 1) := by decide +kernel
theorem dT_subjectAt_5 : decode cT_subjectAt 5 = .ok (.iaload, 1) := by decide +kernel
theorem dT_subjectAt_6 : decode cT_subjectAt 6 = .ok (.bipush 8, 2) := by decide +kernel
theorem dT_subjectAt_8 : decode cT_subjectAt 8 = .ok (.ishr, 1) := by decide +kernel
theorem dT_subjectAt_9 : decode cT_subjectAt 9 = .ok (.sipush 255, 3) := by decide +kernel
theorem dT_subjectAt_12 : decode cT_subjectAt 12 = .ok (.iand, 1) := by decide +kernel
theorem dT_subjectAt_13 : decode cT_subjectAt 13 = .ok (.ireturn, 1) := by decide +kernel
theorem dT_objectAt_0 : decode cT_objectAt 0 = .ok (.aload_n 0, 1) := by decide +kernel
theorem dT_objectAt_1 : decode cT_objectAt 1 = .ok (.getfield 11, 3) := by decide +kernel
theorem dT_objectAt_4 : decode cT_objectAt 4 = .ok (.iload_n 1, 1) := by decide +kernel
theorem dT_objectAt_5 : decode cT_objectAt 5 = .ok (.iaload, 1) := by decide +kernel
theorem dT_objectAt_6 : decode cT_objectAt 6 = .ok (.sipush 255, 3) := by decide +kernel
theorem dT_objectAt_9 : decode cT_objectAt 9 = .ok (.iand, 1) := by decide +kernel
theorem dT_objectAt_10 : decode cT_objectAt 10 = .ok (.ireturn, 1) := by decide +kernel
theorem dT_isSampled_0 : decode cT_isSampled 0 = .ok (.aload_n 0, 1) := by decide +kernel
theorem dT_isSampled_1 : decode cT_isSampled 1 = .ok (.getfield 11, 3) := by decide +kernel
theorem dT_isSampled_4 : decode cT_isSampled 4 = .ok (.iload_n 1, 1) := by decide +kernel
theorem dT_isSampled_5 : decode cT_isSampled 5 = .ok (.iaload, 1) := by decide +kernel
theorem dT_isSampled_6 : decode cT_isSampled 6 = .ok (.invokestatic 25, 3) := by decide +kernel
theorem dT_isSampled_9 : decode cT_isSampled 9 = .ok (.iconst 3, 1) := by decide +kernel
theorem dT_isSampled_10 : decode cT_isSampled 10 = .ok (.iand, 1) := by decide +kernel
theorem dT_isSampled_11 : decode cT_isSampled 11 = .ok (.ifCond .ne 7, 3) := by decide +kernel
theorem dT_isSampled_14 : decode cT_isSampled 14 = .ok (.iconst 1, 1) := by decide +kernel
theorem dT_isSampled_15 : decode cT_isSampled 15 = .ok (.goto 4, 3) := by decide +kernel
theorem dT_isSampled_18 : decode cT_isSampled 18 = .ok (.iconst 0, 1) := by decide +kernel
theorem dT_isSampled_19 : decode cT_isSampled 19 = .ok (.ireturn, 1) := by decide +kernel
theorem dT_put_0 : decode cT_put 0 = .ok (.aload_n 0, 1) := by decide +kernel
theorem dT_put_1 : decode cT_put 1 = .ok (.iload_n 1, 1) := by decide +kernel
theorem dT_put_2 : decode cT_put 2 = .ok (.iload_n 2, 1) := by decide +kernel
theorem dT_put_3 : decode cT_put 3 = .ok (.invokevirtual 28, 3) := by decide +kernel
theorem dT_put_6 : decode cT_put 6 = .ok (.istore_n 3, 1) := by decide +kernel
theorem dT_put_7 : decode cT_put 7 = .ok (.aload_n 0, 1) := by decide +kernel
theorem dT_put_8 : decode cT_put 8 = .ok (.iload_n 3, 1) := by decide +kernel
theorem dT_put_9 : decode cT_put 9 = .ok (.iload_n 1, 1) := by decide +kernel
theorem dT_put_10 : decode cT_put 10 = .ok (.iload_n 2, 1) := by decide +kernel
theorem dT_put_11 : decode cT_put 11 = .ok (.invokevirtual 32, 3) := by decide +kernel
theorem dT_put_14 : decode cT_put 14 = .ok (.ifCond .eq 5, 3) := by decide +kernel
theorem dT_put_17 : decode cT_put 17 = .ok (.iconst 0, 1) := by decide +kernel
theorem dT_put_18 : decode cT_put 18 = .ok (.ireturn, 1) := by decide +kernel
theorem dT_put_19 : decode cT_put 19 = .ok (.aload_n 0, 1) := by decide +kernel
theorem dT_put_20 : decode cT_put 20 = .ok (.invokevirtual 36, 3) := by decide +kernel
theorem dT_put_23 : decode cT_put 23 = .ok (.sipush 400, 3) := by decide +kernel
theorem dT_put_26 : decode cT_put 26 = .ok (.if_icmp .lt 6, 3) := by decide +kernel
theorem dT_put_29 : decode cT_put 29 = .ok (.bipush (-3), 2) := by decide +kernel
theorem dT_put_31 : decode cT_put 31 = .ok (.ireturn, 1) := by decide +kernel
theorem dT_put_32 : decode cT_put 32 = .ok (.aload_n 0, 1) := by decide +kernel
theorem dT_put_33 : decode cT_put 33 = .ok (.getfield 11, 3) := by decide +kernel
theorem dT_put_36 : decode cT_put 36 = .ok (.iload_n 3, 1) := by decide +kernel
theorem dT_put_37 : decode cT_put 37 = .ok (.aload_n 0, 1) := by decide +kernel
theorem dT_put_38 : decode cT_put 38 = .ok (.getfield 11, 3) := by decide +kernel
theorem dT_put_41 : decode cT_put 41 = .ok (.iload_n 3, 1) := by decide +kernel
theorem dT_put_42 : decode cT_put 42 = .ok (.iconst 1, 1) := by decide +kernel
theorem dT_put_43 : decode cT_put 43 = .ok (.iadd, 1) := by decide +kernel
theorem dT_put_44 : decode cT_put 44 = .ok (.aload_n 0, 1) := by decide +kernel
theorem dT_put_45 : decode cT_put 45 = .ok (.invokevirtual 36, 3) := by decide +kernel
theorem dT_put_48 : decode cT_put 48 = .ok (.iload_n 3, 1) := by decide +kernel
theorem dT_put_49 : decode cT_put 49 = .ok (.isub, 1) := by decide +kernel
theorem dT_put_50 : decode cT_put 50 = .ok (.invokestatic 40, 3) := by decide +kernel
theorem dT_put_53 : decode cT_put 53 = .ok (.aload_n 0, 1) := by decide +kernel
theorem dT_put_54 : decode cT_put 54 = .ok (.getfield 11, 3) := by decide +kernel
theorem dT_put_57 : decode cT_put 57 = .ok (.iload_n 3, 1) := by decide +kernel
theorem dT_put_58 : decode cT_put 58 = .ok (.iload_n 2, 1) := by decide +kernel
theorem dT_put_59 : decode cT_put 59 = .ok (.iastore, 1) := by decide +kernel
theorem dT_put_60 : decode cT_put 60 = .ok (.aload_n 0, 1) := by decide +kernel
theorem dT_put_61 : decode cT_put 61 = .ok (.iload_n 1, 1) := by decide +kernel
theorem dT_put_62 : decode cT_put 62 = .ok (.iconst 1, 1) := by decide +kernel
theorem dT_put_63 : decode cT_put 63 = .ok (.invokevirtual 46, 3) := by decide +kernel
theorem dT_put_66 : decode cT_put 66 = .ok (.iconst 1, 1) := by decide +kernel
theorem dT_put_67 : decode cT_put 67 = .ok (.ireturn, 1) := by decide +kernel
theorem dT_remove_0 : decode cT_remove 0 = .ok (.aload_n 0, 1) := by decide +kernel
theorem dT_remove_1 : decode cT_remove 1 = .ok (.iload_n 1, 1) := by decide +kernel
theorem dT_remove_2 : decode cT_remove 2 = .ok (.iload_n 2, 1) := by decide +kernel
theorem dT_remove_3 : decode cT_remove 3 = .ok (.invokevirtual 28, 3) := by decide +kernel
theorem dT_remove_6 : decode cT_remove 6 = .ok (.istore_n 3, 1) := by decide +kernel
theorem dT_remove_7 : decode cT_remove 7 = .ok (.aload_n 0, 1) := by decide +kernel
theorem dT_remove_8 : decode cT_remove 8 = .ok (.iload_n 3, 1) := by decide +kernel
theorem dT_remove_9 : decode cT_remove 9 = .ok (.iload_n 1, 1) := by decide +kernel
theorem dT_remove_10 : decode cT_remove 10 = .ok (.iload_n 2, 1) := by decide +kernel
theorem dT_remove_11 : decode cT_remove 11 = .ok (.invokevirtual 32, 3) := by decide +kernel
theorem dT_remove_14 : decode cT_remove 14 = .ok (.ifCond .ne 5, 3) := by decide +kernel
theorem dT_remove_17 : decode cT_remove 17 = .ok (.iconst 0, 1) := by decide +kernel
theorem dT_remove_18 : decode cT_remove 18 = .ok (.ireturn, 1) := by decide +kernel
theorem dT_remove_19 : decode cT_remove 19 = .ok (.aload_n 0, 1) := by decide +kernel
theorem dT_remove_20 : decode cT_remove 20 = .ok (.getfield 11, 3) := by decide +kernel
theorem dT_remove_23 : decode cT_remove 23 = .ok (.iload_n 3, 1) := by decide +kernel
theorem dT_remove_24 : decode cT_remove 24 = .ok (.iconst 1, 1) := by decide +kernel
theorem dT_remove_25 : decode cT_remove 25 = .ok (.iadd, 1) := by decide +kernel
theorem dT_remove_26 : decode cT_remove 26 = .ok (.aload_n 0, 1) := by decide +kernel
theorem dT_remove_27 : decode cT_remove 27 = .ok (.getfield 11, 3) := by decide +kernel
theorem dT_remove_30 : decode cT_remove 30 = .ok (.iload_n 3, 1) := by decide +kernel
theorem dT_remove_31 : decode cT_remove 31 = .ok (.aload_n 0, 1) := by decide +kernel
theorem dT_remove_32 : decode cT_remove 32 = .ok (.invokevirtual 36, 3) := by decide +kernel
theorem dT_remove_35 : decode cT_remove 35 = .ok (.iload_n 3, 1) := by decide +kernel
theorem dT_remove_36 : decode cT_remove 36 = .ok (.isub, 1) := by decide +kernel
theorem dT_remove_37 : decode cT_remove 37 = .ok (.iconst 1, 1) := by decide +kernel
theorem dT_remove_38 : decode cT_remove 38 = .ok (.isub, 1) := by decide +kernel
theorem dT_remove_39 : decode cT_remove 39 = .ok (.invokestatic 40, 3) := by decide +kernel
theorem dT_remove_42 : decode cT_remove 42 = .ok (.aload_n 0, 1) := by decide +kernel
theorem dT_remove_43 : decode cT_remove 43 = .ok (.iload_n 1, 1) := by decide +kernel
theorem dT_remove_44 : decode cT_remove 44 = .ok (.iconst (-1), 1) := by decide +kernel
theorem dT_remove_45 : decode cT_remove 45 = .ok (.invokevirtual 46, 3) := by decide +kernel
theorem dT_remove_48 : decode cT_remove 48 = .ok (.iconst 1, 1) := by decide +kernel
theorem dT_remove_49 : decode cT_remove 49 = .ok (.ireturn, 1) := by decide +kernel
theorem dT_placeOf_0 : decode cT_placeOf 0 = .ok (.aload_n 0, 1) := by decide +kernel
theorem dT_placeOf_1 : decode cT_placeOf 1 = .ok (.iload_n 1, 1) := by decide +kernel
theorem dT_placeOf_2 : decode cT_placeOf 2 = .ok (.invokevirtual 18, 3) := by decide +kernel
theorem dT_placeOf_5 : decode cT_placeOf 5 = .ok (.istore_n 3, 1) := by decide +kernel
theorem dT_placeOf_6 : decode cT_placeOf 6 = .ok (.aload_n 0, 1) := by decide +kernel
theorem dT_placeOf_7 : decode cT_placeOf 7 = .ok (.iload_n 1, 1) := by decide +kernel
theorem dT_placeOf_8 : decode cT_placeOf 8 = .ok (.invokevirtual 22, 3) := by decide +kernel
theorem dT_placeOf_11 : decode cT_placeOf 11 = .ok (.istore 4, 2) := by decide +kernel
theorem dT_placeOf_13 : decode cT_placeOf 13 = .ok (.iload 4, 2) := by decide +kernel
theorem dT_placeOf_15 : decode cT_placeOf 15 = .ok (.iload_n 3, 1) := by decide +kernel
theorem dT_placeOf_16 : decode cT_placeOf 16 = .ok (.if_icmp .ge 23, 3) := by decide +kernel
theorem dT_placeOf_19 : decode cT_placeOf 19 = .ok (.aload_n 0, 1) := by decide +kernel
theorem dT_placeOf_20 : decode cT_placeOf 20 = .ok (.getfield 11, 3) := by decide +kernel
theorem dT_placeOf_23 : decode cT_placeOf 23 = .ok (.iload 4, 2) := by decide +kernel
theorem dT_placeOf_25 : decode cT_placeOf 25 = .ok (.iaload, 1) := by decide +kernel
theorem dT_placeOf_26 : decode cT_placeOf 26 = .ok (.iload_n 2, 1) := by decide +kernel
theorem dT_placeOf_27 : decode cT_placeOf 27 = .ok (.if_icmp .lt 6, 3) := by decide +kernel
theorem dT_placeOf_30 : decode cT_placeOf 30 = .ok (.iload 4, 2) := by decide +kernel
theorem dT_placeOf_32 : decode cT_placeOf 32 = .ok (.ireturn, 1) := by decide +kernel
theorem dT_placeOf_33 : decode cT_placeOf 33 = .ok (.iinc 4 1, 3) := by decide +kernel
theorem dT_placeOf_36 : decode cT_placeOf 36 = .ok (.goto (-23), 3) := by decide +kernel
theorem dT_placeOf_39 : decode cT_placeOf 39 = .ok (.iload_n 3, 1) := by decide +kernel
theorem dT_placeOf_40 : decode cT_placeOf 40 = .ok (.ireturn, 1) := by decide +kernel
theorem dT_isAt_0 : decode cT_isAt 0 = .ok (.iload_n 1, 1) := by decide +kernel
theorem dT_isAt_1 : decode cT_isAt 1 = .ok (.aload_n 0, 1) := by decide +kernel
theorem dT_isAt_2 : decode cT_isAt 2 = .ok (.iload_n 2, 1) := by decide +kernel
theorem dT_isAt_3 : decode cT_isAt 3 = .ok (.invokevirtual 18, 3) := by decide +kernel
theorem dT_isAt_6 : decode cT_isAt 6 = .ok (.if_icmp .ge 17, 3) := by decide +kernel
theorem dT_isAt_9 : decode cT_isAt 9 = .ok (.aload_n 0, 1) := by decide +kernel
theorem dT_isAt_10 : decode cT_isAt 10 = .ok (.getfield 11, 3) := by decide +kernel
theorem dT_isAt_13 : decode cT_isAt 13 = .ok (.iload_n 1, 1) := by decide +kernel
theorem dT_isAt_14 : decode cT_isAt 14 = .ok (.iaload, 1) := by decide +kernel
theorem dT_isAt_15 : decode cT_isAt 15 = .ok (.iload_n 3, 1) := by decide +kernel
theorem dT_isAt_16 : decode cT_isAt 16 = .ok (.if_icmp .ne 7, 3) := by decide +kernel
theorem dT_isAt_19 : decode cT_isAt 19 = .ok (.iconst 1, 1) := by decide +kernel
theorem dT_isAt_20 : decode cT_isAt 20 = .ok (.goto 4, 3) := by decide +kernel
theorem dT_isAt_23 : decode cT_isAt 23 = .ok (.iconst 0, 1) := by decide +kernel
theorem dT_isAt_24 : decode cT_isAt 24 = .ok (.ireturn, 1) := by decide +kernel
theorem dT_moveStartsAfter_0 : decode cT_moveStartsAfter 0 = .ok (.iload_n 1, 1) := by decide +kernel
theorem dT_moveStartsAfter_1 : decode cT_moveStartsAfter 1 = .ok (.iconst 1, 1) := by decide +kernel
theorem dT_moveStartsAfter_2 : decode cT_moveStartsAfter 2 = .ok (.iadd, 1) := by decide +kernel
theorem dT_moveStartsAfter_3 : decode cT_moveStartsAfter 3 = .ok (.istore_n 3, 1) := by decide +kernel
theorem dT_moveStartsAfter_4 : decode cT_moveStartsAfter 4 = .ok (.iload_n 3, 1) := by decide +kernel
theorem dT_moveStartsAfter_5 : decode cT_moveStartsAfter 5 = .ok (.bipush 8, 2) := by decide +kernel
theorem dT_moveStartsAfter_7 : decode cT_moveStartsAfter 7 = .ok (.if_icmp .gt 19, 3) := by decide +kernel
theorem dT_moveStartsAfter_10 : decode cT_moveStartsAfter 10 = .ok (.aload_n 0, 1) := by decide +kernel
theorem dT_moveStartsAfter_11 : decode cT_moveStartsAfter 11 = .ok (.getfield 15, 3) := by decide +kernel
theorem dT_moveStartsAfter_14 : decode cT_moveStartsAfter 14 = .ok (.iload_n 3, 1) := by decide +kernel
theorem dT_moveStartsAfter_15 : decode cT_moveStartsAfter 15 = .ok (.dup2, 1) := by decide +kernel
theorem dT_moveStartsAfter_16 : decode cT_moveStartsAfter 16 = .ok (.iaload, 1) := by decide +kernel
theorem dT_moveStartsAfter_17 : decode cT_moveStartsAfter 17 = .ok (.iload_n 2, 1) := by decide +kernel
theorem dT_moveStartsAfter_18 : decode cT_moveStartsAfter 18 = .ok (.iadd, 1) := by decide +kernel
theorem dT_moveStartsAfter_19 : decode cT_moveStartsAfter 19 = .ok (.iastore, 1) := by decide +kernel
theorem dT_moveStartsAfter_20 : decode cT_moveStartsAfter 20 = .ok (.iinc 3 1, 3) := by decide +kernel
theorem dT_moveStartsAfter_23 : decode cT_moveStartsAfter 23 = .ok (.goto (-19), 3) := by decide +kernel
theorem dT_moveStartsAfter_26 : decode cT_moveStartsAfter 26 = .ok (.return_, 1) := by decide +kernel
theorem dV_init_0 : decode cV_init 0 = .ok (.aload_n 0, 1) := by decide +kernel
theorem dV_init_1 : decode cV_init 1 = .ok (.invokespecial 3, 3) := by decide +kernel
theorem dV_init_4 : decode cV_init 4 = .ok (.aload_n 0, 1) := by decide +kernel
theorem dV_init_5 : decode cV_init 5 = .ok (.sipush 320, 3) := by decide +kernel
theorem dV_init_8 : decode cV_init 8 = .ok (.newarray .int, 2) := by decide +kernel
theorem dV_init_10 : decode cV_init 10 = .ok (.putfield 11, 3) := by decide +kernel
theorem dV_init_13 : decode cV_init 13 = .ok (.aload_n 0, 1) := by decide +kernel
theorem dV_init_14 : decode cV_init 14 = .ok (.iconst 0, 1) := by decide +kernel
theorem dV_init_15 : decode cV_init 15 = .ok (.putfield 15, 3) := by decide +kernel
theorem dV_init_18 : decode cV_init 18 = .ok (.aload_n 0, 1) := by decide +kernel
theorem dV_init_19 : decode cV_init 19 = .ok (.iconst 0, 1) := by decide +kernel
theorem dV_init_20 : decode cV_init 20 = .ok (.putfield 19, 3) := by decide +kernel
theorem dV_init_23 : decode cV_init 23 = .ok (.return_, 1) := by decide +kernel
theorem dV_ended_0 : decode cV_ended 0 = .ok (.aload_n 0, 1) := by decide +kernel
theorem dV_ended_1 : decode cV_ended 1 = .ok (.getfield 19, 3) := by decide +kernel
theorem dV_ended_4 : decode cV_ended 4 = .ok (.ireturn, 1) := by decide +kernel
theorem dV_kept_0 : decode cV_kept 0 = .ok (.aload_n 0, 1) := by decide +kernel
theorem dV_kept_1 : decode cV_kept 1 = .ok (.getfield 19, 3) := by decide +kernel
theorem dV_kept_4 : decode cV_kept 4 = .ok (.aload_n 0, 1) := by decide +kernel
theorem dV_kept_5 : decode cV_kept 5 = .ok (.getfield 15, 3) := by decide +kernel
theorem dV_kept_8 : decode cV_kept 8 = .ok (.isub, 1) := by decide +kernel
theorem dV_kept_9 : decode cV_kept 9 = .ok (.ireturn, 1) := by decide +kernel
theorem dV_finish_0 : decode cV_finish 0 = .ok (.aload_n 0, 1) := by decide +kernel
theorem dV_finish_1 : decode cV_finish 1 = .ok (.invokevirtual 22, 3) := by decide +kernel
theorem dV_finish_4 : decode cV_finish 4 = .ok (.bipush 40, 2) := by decide +kernel
theorem dV_finish_6 : decode cV_finish 6 = .ok (.if_icmp .ge 12, 3) := by decide +kernel
theorem dV_finish_9 : decode cV_finish 9 = .ok (.aload_n 0, 1) := by decide +kernel
theorem dV_finish_10 : decode cV_finish 10 = .ok (.getfield 19, 3) := by decide +kernel
theorem dV_finish_13 : decode cV_finish 13 = .ok (.ldc 28, 2) := by decide +kernel
theorem dV_finish_15 : decode cV_finish 15 = .ok (.if_icmp .ne 6, 3) := by decide +kernel
theorem dV_finish_18 : decode cV_finish 18 = .ok (.bipush (-3), 2) := by decide +kernel
theorem dV_finish_20 : decode cV_finish 20 = .ok (.ireturn, 1) := by decide +kernel
theorem dV_finish_21 : decode cV_finish 21 = .ok (.iconst 0, 1) := by decide +kernel
theorem dV_finish_22 : decode cV_finish 22 = .ok (.istore_n 2, 1) := by decide +kernel
theorem dV_finish_23 : decode cV_finish 23 = .ok (.iload_n 2, 1) := by decide +kernel
theorem dV_finish_24 : decode cV_finish 24 = .ok (.bipush 8, 2) := by decide +kernel
theorem dV_finish_26 : decode cV_finish 26 = .ok (.if_icmp .ge 27, 3) := by decide +kernel
theorem dV_finish_29 : decode cV_finish 29 = .ok (.aload_n 0, 1) := by decide +kernel
theorem dV_finish_30 : decode cV_finish 30 = .ok (.getfield 11, 3) := by decide +kernel
theorem dV_finish_33 : decode cV_finish 33 = .ok (.iload_n 2, 1) := by decide +kernel
theorem dV_finish_34 : decode cV_finish 34 = .ok (.aload_n 0, 1) := by decide +kernel
theorem dV_finish_35 : decode cV_finish 35 = .ok (.getfield 19, 3) := by decide +kernel
theorem dV_finish_38 : decode cV_finish 38 = .ok (.invokestatic 29, 3) := by decide +kernel
theorem dV_finish_41 : decode cV_finish 41 = .ok (.aload_n 1, 1) := by decide +kernel
theorem dV_finish_42 : decode cV_finish 42 = .ok (.iload_n 2, 1) := by decide +kernel
theorem dV_finish_43 : decode cV_finish 43 = .ok (.invokevirtual 33, 3) := by decide +kernel
theorem dV_finish_46 : decode cV_finish 46 = .ok (.iastore, 1) := by decide +kernel
theorem dV_finish_47 : decode cV_finish 47 = .ok (.iinc 2 1, 3) := by decide +kernel
theorem dV_finish_50 : decode cV_finish 50 = .ok (.goto (-27), 3) := by decide +kernel
theorem dV_finish_53 : decode cV_finish 53 = .ok (.aload_n 0, 1) := by decide +kernel
theorem dV_finish_54 : decode cV_finish 54 = .ok (.dup, 1) := by decide +kernel
theorem dV_finish_55 : decode cV_finish 55 = .ok (.getfield 19, 3) := by decide +kernel
theorem dV_finish_58 : decode cV_finish 58 = .ok (.iconst 1, 1) := by decide +kernel
theorem dV_finish_59 : decode cV_finish 59 = .ok (.iadd, 1) := by decide +kernel
theorem dV_finish_60 : decode cV_finish 60 = .ok (.putfield 19, 3) := by decide +kernel
theorem dV_finish_63 : decode cV_finish 63 = .ok (.aload_n 0, 1) := by decide +kernel
theorem dV_finish_64 : decode cV_finish 64 = .ok (.getfield 19, 3) := by decide +kernel
theorem dV_finish_67 : decode cV_finish 67 = .ok (.iconst 1, 1) := by decide +kernel
theorem dV_finish_68 : decode cV_finish 68 = .ok (.isub, 1) := by decide +kernel
theorem dV_finish_69 : decode cV_finish 69 = .ok (.ireturn, 1) := by decide +kernel
theorem dV_sizeAt_0 : decode cV_sizeAt 0 = .ok (.aload_n 0, 1) := by decide +kernel
theorem dV_sizeAt_1 : decode cV_sizeAt 1 = .ok (.iload_n 2, 1) := by decide +kernel
theorem dV_sizeAt_2 : decode cV_sizeAt 2 = .ok (.invokevirtual 39, 3) := by decide +kernel
theorem dV_sizeAt_5 : decode cV_sizeAt 5 = .ok (.ifCond .ne 5, 3) := by decide +kernel
theorem dV_sizeAt_8 : decode cV_sizeAt 8 = .ok (.iconst (-1), 1) := by decide +kernel
theorem dV_sizeAt_9 : decode cV_sizeAt 9 = .ok (.ireturn, 1) := by decide +kernel
theorem dV_sizeAt_10 : decode cV_sizeAt 10 = .ok (.iload_n 2, 1) := by decide +kernel
theorem dV_sizeAt_11 : decode cV_sizeAt 11 = .ok (.aload_n 0, 1) := by decide +kernel
theorem dV_sizeAt_12 : decode cV_sizeAt 12 = .ok (.getfield 15, 3) := by decide +kernel
theorem dV_sizeAt_15 : decode cV_sizeAt 15 = .ok (.if_icmp .ge 8, 3) := by decide +kernel
theorem dV_sizeAt_18 : decode cV_sizeAt 18 = .ok (.bipush (-2), 2) := by decide +kernel
theorem dV_sizeAt_20 : decode cV_sizeAt 20 = .ok (.goto 13, 3) := by decide +kernel
theorem dV_sizeAt_23 : decode cV_sizeAt 23 = .ok (.aload_n 0, 1) := by decide +kernel
theorem dV_sizeAt_24 : decode cV_sizeAt 24 = .ok (.getfield 11, 3) := by decide +kernel
theorem dV_sizeAt_27 : decode cV_sizeAt 27 = .ok (.iload_n 1, 1) := by decide +kernel
theorem dV_sizeAt_28 : decode cV_sizeAt 28 = .ok (.iload_n 2, 1) := by decide +kernel
theorem dV_sizeAt_29 : decode cV_sizeAt 29 = .ok (.invokestatic 29, 3) := by decide +kernel
theorem dV_sizeAt_32 : decode cV_sizeAt 32 = .ok (.iaload, 1) := by decide +kernel
theorem dV_sizeAt_33 : decode cV_sizeAt 33 = .ok (.ireturn, 1) := by decide +kernel
theorem dV_forgetBelow_0 : decode cV_forgetBelow 0 = .ok (.aload_n 0, 1) := by decide +kernel
theorem dV_forgetBelow_1 : decode cV_forgetBelow 1 = .ok (.iload_n 1, 1) := by decide +kernel
theorem dV_forgetBelow_2 : decode cV_forgetBelow 2 = .ok (.invokevirtual 39, 3) := by decide +kernel
theorem dV_forgetBelow_5 : decode cV_forgetBelow 5 = .ok (.ifCond .ne 5, 3) := by decide +kernel
theorem dV_forgetBelow_8 : decode cV_forgetBelow 8 = .ok (.iconst (-1), 1) := by decide +kernel
theorem dV_forgetBelow_9 : decode cV_forgetBelow 9 = .ok (.ireturn, 1) := by decide +kernel
theorem dV_forgetBelow_10 : decode cV_forgetBelow 10 = .ok (.iconst 0, 1) := by decide +kernel
theorem dV_forgetBelow_11 : decode cV_forgetBelow 11 = .ok (.iload_n 1, 1) := by decide +kernel
theorem dV_forgetBelow_12 : decode cV_forgetBelow 12 = .ok (.aload_n 0, 1) := by decide +kernel
theorem dV_forgetBelow_13 : decode cV_forgetBelow 13 = .ok (.getfield 15, 3) := by decide +kernel
theorem dV_forgetBelow_16 : decode cV_forgetBelow 16 = .ok (.isub, 1) := by decide +kernel
theorem dV_forgetBelow_17 : decode cV_forgetBelow 17 = .ok (.invokestatic 43, 3) := by decide +kernel
theorem dV_forgetBelow_20 : decode cV_forgetBelow 20 = .ok (.istore_n 2, 1) := by decide +kernel
theorem dV_forgetBelow_21 : decode cV_forgetBelow 21 = .ok (.aload_n 0, 1) := by decide +kernel
theorem dV_forgetBelow_22 : decode cV_forgetBelow 22 = .ok (.dup, 1) := by decide +kernel
theorem dV_forgetBelow_23 : decode cV_forgetBelow 23 = .ok (.getfield 15, 3) := by decide +kernel
theorem dV_forgetBelow_26 : decode cV_forgetBelow 26 = .ok (.iload_n 2, 1) := by decide +kernel
theorem dV_forgetBelow_27 : decode cV_forgetBelow 27 = .ok (.iadd, 1) := by decide +kernel
theorem dV_forgetBelow_28 : decode cV_forgetBelow 28 = .ok (.putfield 15, 3) := by decide +kernel
theorem dV_forgetBelow_31 : decode cV_forgetBelow 31 = .ok (.iload_n 2, 1) := by decide +kernel
theorem dV_forgetBelow_32 : decode cV_forgetBelow 32 = .ok (.ireturn, 1) := by decide +kernel
theorem dV_hasEnded_0 : decode cV_hasEnded 0 = .ok (.iload_n 1, 1) := by decide +kernel
theorem dV_hasEnded_1 : decode cV_hasEnded 1 = .ok (.ifCond .lt 15, 3) := by decide +kernel
theorem dV_hasEnded_4 : decode cV_hasEnded 4 = .ok (.iload_n 1, 1) := by decide +kernel
theorem dV_hasEnded_5 : decode cV_hasEnded 5 = .ok (.aload_n 0, 1) := by decide +kernel
theorem dV_hasEnded_6 : decode cV_hasEnded 6 = .ok (.getfield 19, 3) := by decide +kernel
theorem dV_hasEnded_9 : decode cV_hasEnded 9 = .ok (.if_icmp .ge 7, 3) := by decide +kernel
theorem dV_hasEnded_12 : decode cV_hasEnded 12 = .ok (.iconst 1, 1) := by decide +kernel
theorem dV_hasEnded_13 : decode cV_hasEnded 13 = .ok (.goto 4, 3) := by decide +kernel
theorem dV_hasEnded_16 : decode cV_hasEnded 16 = .ok (.iconst 0, 1) := by decide +kernel
theorem dV_hasEnded_17 : decode cV_hasEnded 17 = .ok (.ireturn, 1) := by decide +kernel
theorem dV_place_0 : decode cV_place 0 = .ok (.iload_n 1, 1) := by decide +kernel
theorem dV_place_1 : decode cV_place 1 = .ok (.bipush 40, 2) := by decide +kernel
theorem dV_place_3 : decode cV_place 3 = .ok (.irem, 1) := by decide +kernel
theorem dV_place_4 : decode cV_place 4 = .ok (.bipush 8, 2) := by decide +kernel
theorem dV_place_6 : decode cV_place 6 = .ok (.imul, 1) := by decide +kernel
theorem dV_place_7 : decode cV_place 7 = .ok (.iload_n 0, 1) := by decide +kernel
theorem dV_place_8 : decode cV_place 8 = .ok (.iadd, 1) := by decide +kernel
theorem dV_place_9 : decode cV_place 9 = .ok (.ireturn, 1) := by decide +kernel
theorem dJM_max_0 : decode cJM_max 0 = .ok (.iload_n 0, 1) := by decide +kernel
theorem dJM_max_1 : decode cJM_max 1 = .ok (.iload_n 1, 1) := by decide +kernel
theorem dJM_max_2 : decode cJM_max 2 = .ok (.if_icmp .lt 7, 3) := by decide +kernel
theorem dJM_max_5 : decode cJM_max 5 = .ok (.iload_n 0, 1) := by decide +kernel
theorem dJM_max_6 : decode cJM_max 6 = .ok (.goto 4, 3) := by decide +kernel
theorem dJM_max_9 : decode cJM_max 9 = .ok (.iload_n 1, 1) := by decide +kernel
theorem dJM_max_10 : decode cJM_max 10 = .ok (.ireturn, 1) := by decide +kernel
theorem dJM_min_0 : decode cJM_min 0 = .ok (.iload_n 0, 1) := by decide +kernel
theorem dJM_min_1 : decode cJM_min 1 = .ok (.iload_n 1, 1) := by decide +kernel
theorem dJM_min_2 : decode cJM_min 2 = .ok (.if_icmp .gt 7, 3) := by decide +kernel
theorem dJM_min_5 : decode cJM_min 5 = .ok (.iload_n 0, 1) := by decide +kernel
theorem dJM_min_6 : decode cJM_min 6 = .ok (.goto 4, 3) := by decide +kernel
theorem dJM_min_9 : decode cJM_min 9 = .ok (.iload_n 1, 1) := by decide +kernel
theorem dJM_min_10 : decode cJM_min 10 = .ok (.ireturn, 1) := by decide +kernel
theorem dJA_fill_0 : decode cJA_fill 0 = .ok (.iconst 0, 1) := by decide +kernel
theorem dJA_fill_1 : decode cJA_fill 1 = .ok (.istore_n 2, 1) := by decide +kernel
theorem dJA_fill_2 : decode cJA_fill 2 = .ok (.aload_n 0, 1) := by decide +kernel
theorem dJA_fill_3 : decode cJA_fill 3 = .ok (.arraylength, 1) := by decide +kernel
theorem dJA_fill_4 : decode cJA_fill 4 = .ok (.istore_n 3, 1) := by decide +kernel
theorem dJA_fill_5 : decode cJA_fill 5 = .ok (.iload_n 2, 1) := by decide +kernel
theorem dJA_fill_6 : decode cJA_fill 6 = .ok (.iload_n 3, 1) := by decide +kernel
theorem dJA_fill_7 : decode cJA_fill 7 = .ok (.if_icmp .ge 13, 3) := by decide +kernel
theorem dJA_fill_10 : decode cJA_fill 10 = .ok (.aload_n 0, 1) := by decide +kernel
theorem dJA_fill_11 : decode cJA_fill 11 = .ok (.iload_n 2, 1) := by decide +kernel
theorem dJA_fill_12 : decode cJA_fill 12 = .ok (.iload_n 1, 1) := by decide +kernel
theorem dJA_fill_13 : decode cJA_fill 13 = .ok (.iastore, 1) := by decide +kernel
theorem dJA_fill_14 : decode cJA_fill 14 = .ok (.iinc 2 1, 3) := by decide +kernel
theorem dJA_fill_17 : decode cJA_fill 17 = .ok (.goto (-12), 3) := by decide +kernel
theorem dJA_fill_20 : decode cJA_fill 20 = .ok (.return_, 1) := by decide +kernel
end
section
theorem dX_init_0 : decode cX_init 0 = .ok (.aload_n 0, 1) := by decide +kernel
theorem dX_init_1 : decode cX_init 1 = .ok (.invokespecial 1, 3) := by decide +kernel
theorem dX_init_4 : decode cX_init 4 = .ok (.aload_n 0, 1) := by decide +kernel
theorem dX_init_5 : decode cX_init 5 = .ok (.new 7, 3) := by decide +kernel
theorem dX_init_8 : decode cX_init 8 = .ok (.dup, 1) := by decide +kernel
theorem dX_init_9 : decode cX_init 9 = .ok (.invokespecial 9, 3) := by decide +kernel
theorem dX_init_12 : decode cX_init 12 = .ok (.putfield 10, 3) := by decide +kernel
theorem dX_init_15 : decode cX_init 15 = .ok (.aload_n 0, 1) := by decide +kernel
theorem dX_init_16 : decode cX_init 16 = .ok (.new 16, 3) := by decide +kernel
theorem dX_init_19 : decode cX_init 19 = .ok (.dup, 1) := by decide +kernel
theorem dX_init_20 : decode cX_init 20 = .ok (.invokespecial 18, 3) := by decide +kernel
theorem dX_init_23 : decode cX_init 23 = .ok (.putfield 19, 3) := by decide +kernel
theorem dX_init_26 : decode cX_init 26 = .ok (.aload_n 0, 1) := by decide +kernel
theorem dX_init_27 : decode cX_init 27 = .ok (.new 23, 3) := by decide +kernel
theorem dX_init_30 : decode cX_init 30 = .ok (.dup, 1) := by decide +kernel
theorem dX_init_31 : decode cX_init 31 = .ok (.invokespecial 25, 3) := by decide +kernel
theorem dX_init_34 : decode cX_init 34 = .ok (.putfield 26, 3) := by decide +kernel
theorem dX_init_37 : decode cX_init 37 = .ok (.aload_n 0, 1) := by decide +kernel
theorem dX_init_38 : decode cX_init 38 = .ok (.new 30, 3) := by decide +kernel
theorem dX_init_41 : decode cX_init 41 = .ok (.dup, 1) := by decide +kernel
theorem dX_init_42 : decode cX_init 42 = .ok (.invokespecial 32, 3) := by decide +kernel
theorem dX_init_45 : decode cX_init 45 = .ok (.putfield 33, 3) := by decide +kernel
theorem dX_init_48 : decode cX_init 48 = .ok (.aload_n 0, 1) := by decide +kernel
theorem dX_init_49 : decode cX_init 49 = .ok (.sipush 256, 3) := by decide +kernel
theorem dX_init_52 : decode cX_init 52 = .ok (.newarray .int, 2) := by decide +kernel
theorem dX_init_54 : decode cX_init 54 = .ok (.putfield 37, 3) := by decide +kernel
theorem dX_init_57 : decode cX_init 57 = .ok (.return_, 1) := by decide +kernel
theorem dX_triple_0 : decode cX_triple 0 = .ok (.iload_n 1, 1) := by decide +kernel
theorem dX_triple_1 : decode cX_triple 1 = .ok (.iload_n 2, 1) := by decide +kernel
theorem dX_triple_2 : decode cX_triple 2 = .ok (.iload_n 3, 1) := by decide +kernel
theorem dX_triple_3 : decode cX_triple 3 = .ok (.invokestatic 41, 3) := by decide +kernel
theorem dX_triple_6 : decode cX_triple 6 = .ok (.ifCond .ne 5, 3) := by decide +kernel
theorem dX_triple_9 : decode cX_triple 9 = .ok (.iconst (-1), 1) := by decide +kernel
theorem dX_triple_10 : decode cX_triple 10 = .ok (.ireturn, 1) := by decide +kernel
theorem dX_triple_11 : decode cX_triple 11 = .ok (.aload_n 0, 1) := by decide +kernel
theorem dX_triple_12 : decode cX_triple 12 = .ok (.getfield 10, 3) := by decide +kernel
theorem dX_triple_15 : decode cX_triple 15 = .ok (.iload_n 2, 1) := by decide +kernel
theorem dX_triple_16 : decode cX_triple 16 = .ok (.iload_n 1, 1) := by decide +kernel
theorem dX_triple_17 : decode cX_triple 17 = .ok (.iload_n 3, 1) := by decide +kernel
theorem dX_triple_18 : decode cX_triple 18 = .ok (.invokestatic 45, 3) := by decide +kernel
theorem dX_triple_21 : decode cX_triple 21 = .ok (.invokevirtual 49, 3) := by decide +kernel
theorem dX_triple_24 : decode cX_triple 24 = .ok (.ireturn, 1) := by decide +kernel
theorem dX_drop_0 : decode cX_drop 0 = .ok (.iload_n 1, 1) := by decide +kernel
theorem dX_drop_1 : decode cX_drop 1 = .ok (.iload_n 2, 1) := by decide +kernel
theorem dX_drop_2 : decode cX_drop 2 = .ok (.iload_n 3, 1) := by decide +kernel
theorem dX_drop_3 : decode cX_drop 3 = .ok (.invokestatic 41, 3) := by decide +kernel
theorem dX_drop_6 : decode cX_drop 6 = .ok (.ifCond .ne 5, 3) := by decide +kernel
theorem dX_drop_9 : decode cX_drop 9 = .ok (.iconst (-1), 1) := by decide +kernel
theorem dX_drop_10 : decode cX_drop 10 = .ok (.ireturn, 1) := by decide +kernel
theorem dX_drop_11 : decode cX_drop 11 = .ok (.aload_n 0, 1) := by decide +kernel
theorem dX_drop_12 : decode cX_drop 12 = .ok (.getfield 10, 3) := by decide +kernel
theorem dX_drop_15 : decode cX_drop 15 = .ok (.iload_n 2, 1) := by decide +kernel
theorem dX_drop_16 : decode cX_drop 16 = .ok (.iload_n 1, 1) := by decide +kernel
theorem dX_drop_17 : decode cX_drop 17 = .ok (.iload_n 3, 1) := by decide +kernel
theorem dX_drop_18 : decode cX_drop 18 = .ok (.invokestatic 45, 3) := by decide +kernel
theorem dX_drop_21 : decode cX_drop 21 = .ok (.invokevirtual 52, 3) := by decide +kernel
theorem dX_drop_24 : decode cX_drop 24 = .ok (.ireturn, 1) := by decide +kernel
theorem dX_count_0 : decode cX_count 0 = .ok (.iload_n 1, 1) := by decide +kernel
theorem dX_count_1 : decode cX_count 1 = .ok (.invokestatic 55, 3) := by decide +kernel
theorem dX_count_4 : decode cX_count 4 = .ok (.ifCond .ne 5, 3) := by decide +kernel
theorem dX_count_7 : decode cX_count 7 = .ok (.iconst (-1), 1) := by decide +kernel
theorem dX_count_8 : decode cX_count 8 = .ok (.ireturn, 1) := by decide +kernel
theorem dX_count_9 : decode cX_count 9 = .ok (.iload_n 2, 1) := by decide +kernel
theorem dX_count_10 : decode cX_count 10 = .ok (.tableswitch 47 0 2 #[26, 35, 41], 26) := by decide +kernel
theorem dX_count_36 : decode cX_count 36 = .ok (.aload_n 0, 1) := by decide +kernel
theorem dX_count_37 : decode cX_count 37 = .ok (.getfield 10, 3) := by decide +kernel
theorem dX_count_40 : decode cX_count 40 = .ok (.iload_n 1, 1) := by decide +kernel
theorem dX_count_41 : decode cX_count 41 = .ok (.invokevirtual 59, 3) := by decide +kernel
theorem dX_count_44 : decode cX_count 44 = .ok (.ireturn, 1) := by decide +kernel
theorem dX_count_45 : decode cX_count 45 = .ok (.aload_n 0, 1) := by decide +kernel
theorem dX_count_46 : decode cX_count 46 = .ok (.iload_n 1, 1) := by decide +kernel
theorem dX_count_47 : decode cX_count 47 = .ok (.invokevirtual 63, 3) := by decide +kernel
theorem dX_count_50 : decode cX_count 50 = .ok (.ireturn, 1) := by decide +kernel
theorem dX_count_51 : decode cX_count 51 = .ok (.aload_n 0, 1) := by decide +kernel
theorem dX_count_52 : decode cX_count 52 = .ok (.iload_n 1, 1) := by decide +kernel
theorem dX_count_53 : decode cX_count 53 = .ok (.invokevirtual 66, 3) := by decide +kernel
theorem dX_count_56 : decode cX_count 56 = .ok (.ireturn, 1) := by decide +kernel
theorem dX_count_57 : decode cX_count 57 = .ok (.iconst (-1), 1) := by decide +kernel
theorem dX_count_58 : decode cX_count 58 = .ok (.ireturn, 1) := by decide +kernel
theorem dX_chain_0 : decode cX_chain 0 = .ok (.iload_n 1, 1) := by decide +kernel
theorem dX_chain_1 : decode cX_chain 1 = .ok (.invokestatic 55, 3) := by decide +kernel
theorem dX_chain_4 : decode cX_chain 4 = .ok (.ifCond .eq 10, 3) := by decide +kernel
theorem dX_chain_7 : decode cX_chain 7 = .ok (.iload_n 2, 1) := by decide +kernel
theorem dX_chain_8 : decode cX_chain 8 = .ok (.invokestatic 55, 3) := by decide +kernel
theorem dX_chain_11 : decode cX_chain 11 = .ok (.ifCond .ne 7, 3) := by decide +kernel
theorem dX_chain_14 : decode cX_chain 14 = .ok (.ldc2_w 69, 3) := by decide +kernel
theorem dX_chain_17 : decode cX_chain 17 = .ok (.lreturn, 1) := by decide +kernel
theorem dX_chain_18 : decode cX_chain 18 = .ok (.aload_n 0, 1) := by decide +kernel
theorem dX_chain_19 : decode cX_chain 19 = .ok (.iload_n 1, 1) := by decide +kernel
theorem dX_chain_20 : decode cX_chain 20 = .ok (.iconst 0, 1) := by decide +kernel
theorem dX_chain_21 : decode cX_chain 21 = .ok (.invokevirtual 71, 3) := by decide +kernel
theorem dX_chain_24 : decode cX_chain 24 = .ok (.aload_n 0, 1) := by decide +kernel
theorem dX_chain_25 : decode cX_chain 25 = .ok (.iload_n 2, 1) := by decide +kernel
theorem dX_chain_26 : decode cX_chain 26 = .ok (.iconst 0, 1) := by decide +kernel
theorem dX_chain_27 : decode cX_chain 27 = .ok (.invokevirtual 75, 3) := by decide +kernel
theorem dX_chain_30 : decode cX_chain 30 = .ok (.lreturn, 1) := by decide +kernel
theorem dX_star_0 : decode cX_star 0 = .ok (.iload_n 1, 1) := by decide +kernel
theorem dX_star_1 : decode cX_star 1 = .ok (.invokestatic 55, 3) := by decide +kernel
theorem dX_star_4 : decode cX_star 4 = .ok (.ifCond .eq 10, 3) := by decide +kernel
theorem dX_star_7 : decode cX_star 7 = .ok (.iload_n 2, 1) := by decide +kernel
theorem dX_star_8 : decode cX_star 8 = .ok (.invokestatic 55, 3) := by decide +kernel
theorem dX_star_11 : decode cX_star 11 = .ok (.ifCond .ne 7, 3) := by decide +kernel
theorem dX_star_14 : decode cX_star 14 = .ok (.ldc2_w 69, 3) := by decide +kernel
theorem dX_star_17 : decode cX_star 17 = .ok (.lreturn, 1) := by decide +kernel
theorem dX_star_18 : decode cX_star 18 = .ok (.aload_n 0, 1) := by decide +kernel
theorem dX_star_19 : decode cX_star 19 = .ok (.invokevirtual 79, 3) := by decide +kernel
theorem dX_star_22 : decode cX_star 22 = .ok (.aload_n 0, 1) := by decide +kernel
theorem dX_star_23 : decode cX_star 23 = .ok (.iload_n 1, 1) := by decide +kernel
theorem dX_star_24 : decode cX_star 24 = .ok (.invokevirtual 82, 3) := by decide +kernel
theorem dX_star_27 : decode cX_star 27 = .ok (.aload_n 0, 1) := by decide +kernel
theorem dX_star_28 : decode cX_star 28 = .ok (.iload_n 2, 1) := by decide +kernel
theorem dX_star_29 : decode cX_star 29 = .ok (.iconst 0, 1) := by decide +kernel
theorem dX_star_30 : decode cX_star 30 = .ok (.invokevirtual 75, 3) := by decide +kernel
theorem dX_star_33 : decode cX_star 33 = .ok (.lreturn, 1) := by decide +kernel
theorem dX_bucket_0 : decode cX_bucket 0 = .ok (.iload_n 1, 1) := by decide +kernel
theorem dX_bucket_1 : decode cX_bucket 1 = .ok (.invokestatic 55, 3) := by decide +kernel
theorem dX_bucket_4 : decode cX_bucket 4 = .ok (.ifCond .ne 5, 3) := by decide +kernel
theorem dX_bucket_7 : decode cX_bucket 7 = .ok (.iconst (-1), 1) := by decide +kernel
theorem dX_bucket_8 : decode cX_bucket 8 = .ok (.ireturn, 1) := by decide +kernel
theorem dX_bucket_9 : decode cX_bucket 9 = .ok (.aload_n 0, 1) := by decide +kernel
theorem dX_bucket_10 : decode cX_bucket 10 = .ok (.iload_n 1, 1) := by decide +kernel
theorem dX_bucket_11 : decode cX_bucket 11 = .ok (.iload_n 2, 1) := by decide +kernel
theorem dX_bucket_12 : decode cX_bucket 12 = .ok (.iload_n 3, 1) := by decide +kernel
theorem dX_bucket_13 : decode cX_bucket 13 = .ok (.invokevirtual 86, 3) := by decide +kernel
theorem dX_bucket_16 : decode cX_bucket 16 = .ok (.ireturn, 1) := by decide +kernel
theorem dX_quantile_0 : decode cX_quantile 0 = .ok (.iload_n 1, 1) := by decide +kernel
theorem dX_quantile_1 : decode cX_quantile 1 = .ok (.invokestatic 55, 3) := by decide +kernel
theorem dX_quantile_4 : decode cX_quantile 4 = .ok (.ifCond .eq 14, 3) := by decide +kernel
theorem dX_quantile_7 : decode cX_quantile 7 = .ok (.iload_n 2, 1) := by decide +kernel
theorem dX_quantile_8 : decode cX_quantile 8 = .ok (.iconst 1, 1) := by decide +kernel
theorem dX_quantile_9 : decode cX_quantile 9 = .ok (.if_icmp .lt 9, 3) := by decide +kernel
theorem dX_quantile_12 : decode cX_quantile 12 = .ok (.iload_n 2, 1) := by decide +kernel
theorem dX_quantile_13 : decode cX_quantile 13 = .ok (.bipush 8, 2) := by decide +kernel
theorem dX_quantile_15 : decode cX_quantile 15 = .ok (.if_icmp .le 5, 3) := by decide +kernel
theorem dX_quantile_18 : decode cX_quantile 18 = .ok (.iconst (-1), 1) := by decide +kernel
theorem dX_quantile_19 : decode cX_quantile 19 = .ok (.ireturn, 1) := by decide +kernel
theorem dX_quantile_20 : decode cX_quantile 20 = .ok (.iload_n 2, 1) := by decide +kernel
theorem dX_quantile_21 : decode cX_quantile 21 = .ok (.aload_n 0, 1) := by decide +kernel
theorem dX_quantile_22 : decode cX_quantile 22 = .ok (.getfield 10, 3) := by decide +kernel
theorem dX_quantile_25 : decode cX_quantile 25 = .ok (.iload_n 1, 1) := by decide +kernel
theorem dX_quantile_26 : decode cX_quantile 26 = .ok (.invokevirtual 59, 3) := by decide +kernel
theorem dX_quantile_29 : decode cX_quantile 29 = .ok (.imul, 1) := by decide +kernel
theorem dX_quantile_30 : decode cX_quantile 30 = .ok (.istore_n 3, 1) := by decide +kernel
theorem dX_quantile_31 : decode cX_quantile 31 = .ok (.iload_n 3, 1) := by decide +kernel
theorem dX_quantile_32 : decode cX_quantile 32 = .ok (.ifCond .ne 6, 3) := by decide +kernel
theorem dX_quantile_35 : decode cX_quantile 35 = .ok (.bipush (-2), 2) := by decide +kernel
theorem dX_quantile_37 : decode cX_quantile 37 = .ok (.ireturn, 1) := by decide +kernel
theorem dX_quantile_38 : decode cX_quantile 38 = .ok (.aload_n 0, 1) := by decide +kernel
theorem dX_quantile_39 : decode cX_quantile 39 = .ok (.iload_n 1, 1) := by decide +kernel
theorem dX_quantile_40 : decode cX_quantile 40 = .ok (.iconst 0, 1) := by decide +kernel
theorem dX_quantile_41 : decode cX_quantile 41 = .ok (.invokevirtual 71, 3) := by decide +kernel
theorem dX_quantile_44 : decode cX_quantile 44 = .ok (.iconst 0, 1) := by decide +kernel
theorem dX_quantile_45 : decode cX_quantile 45 = .ok (.istore 4, 2) := by decide +kernel
theorem dX_quantile_47 : decode cX_quantile 47 = .ok (.iconst 0, 1) := by decide +kernel
theorem dX_quantile_48 : decode cX_quantile 48 = .ok (.istore 5, 2) := by decide +kernel
theorem dX_quantile_50 : decode cX_quantile 50 = .ok (.iload 5, 2) := by decide +kernel
theorem dX_quantile_52 : decode cX_quantile 52 = .ok (.sipush 256, 3) := by decide +kernel
theorem dX_quantile_55 : decode cX_quantile 55 = .ok (.if_icmp .ge 33, 3) := by decide +kernel
theorem dX_quantile_58 : decode cX_quantile 58 = .ok (.iload 4, 2) := by decide +kernel
theorem dX_quantile_60 : decode cX_quantile 60 = .ok (.aload_n 0, 1) := by decide +kernel
theorem dX_quantile_61 : decode cX_quantile 61 = .ok (.getfield 37, 3) := by decide +kernel
theorem dX_quantile_64 : decode cX_quantile 64 = .ok (.iload 5, 2) := by decide +kernel
theorem dX_quantile_66 : decode cX_quantile 66 = .ok (.iaload, 1) := by decide +kernel
theorem dX_quantile_67 : decode cX_quantile 67 = .ok (.iadd, 1) := by decide +kernel
theorem dX_quantile_68 : decode cX_quantile 68 = .ok (.istore 4, 2) := by decide +kernel
theorem dX_quantile_70 : decode cX_quantile 70 = .ok (.bipush 8, 2) := by decide +kernel
theorem dX_quantile_72 : decode cX_quantile 72 = .ok (.iload 4, 2) := by decide +kernel
theorem dX_quantile_74 : decode cX_quantile 74 = .ok (.imul, 1) := by decide +kernel
theorem dX_quantile_75 : decode cX_quantile 75 = .ok (.iload_n 3, 1) := by decide +kernel
theorem dX_quantile_76 : decode cX_quantile 76 = .ok (.if_icmp .lt 6, 3) := by decide +kernel
theorem dX_quantile_79 : decode cX_quantile 79 = .ok (.iload 5, 2) := by decide +kernel
theorem dX_quantile_81 : decode cX_quantile 81 = .ok (.ireturn, 1) := by decide +kernel
theorem dX_quantile_82 : decode cX_quantile 82 = .ok (.iinc 5 1, 3) := by decide +kernel
theorem dX_quantile_85 : decode cX_quantile 85 = .ok (.goto (-35), 3) := by decide +kernel
theorem dX_quantile_88 : decode cX_quantile 88 = .ok (.bipush (-2), 2) := by decide +kernel
theorem dX_quantile_90 : decode cX_quantile 90 = .ok (.ireturn, 1) := by decide +kernel
theorem dX_register_0 : decode cX_register 0 = .ok (.iload_n 1, 1) := by decide +kernel
theorem dX_register_1 : decode cX_register 1 = .ok (.invokestatic 90, 3) := by decide +kernel
theorem dX_register_4 : decode cX_register 4 = .ok (.ifCond .eq 13, 3) := by decide +kernel
theorem dX_register_7 : decode cX_register 7 = .ok (.iload_n 2, 1) := by decide +kernel
theorem dX_register_8 : decode cX_register 8 = .ok (.ifCond .lt 9, 3) := by decide +kernel
theorem dX_register_11 : decode cX_register 11 = .ok (.iload_n 2, 1) := by decide +kernel
theorem dX_register_12 : decode cX_register 12 = .ok (.bipush 16, 2) := by decide +kernel
theorem dX_register_14 : decode cX_register 14 = .ok (.if_icmp .lt 5, 3) := by decide +kernel
theorem dX_register_17 : decode cX_register 17 = .ok (.iconst (-1), 1) := by decide +kernel
theorem dX_register_18 : decode cX_register 18 = .ok (.ireturn, 1) := by decide +kernel
theorem dX_register_19 : decode cX_register 19 = .ok (.aload_n 0, 1) := by decide +kernel
theorem dX_register_20 : decode cX_register 20 = .ok (.iload_n 1, 1) := by decide +kernel
theorem dX_register_21 : decode cX_register 21 = .ok (.invokevirtual 93, 3) := by decide +kernel
theorem dX_register_24 : decode cX_register 24 = .ok (.aload_n 0, 1) := by decide +kernel
theorem dX_register_25 : decode cX_register 25 = .ok (.getfield 33, 3) := by decide +kernel
theorem dX_register_28 : decode cX_register 28 = .ok (.aload_n 0, 1) := by decide +kernel
theorem dX_register_29 : decode cX_register 29 = .ok (.getfield 37, 3) := by decide +kernel
theorem dX_register_32 : decode cX_register 32 = .ok (.invokevirtual 96, 3) := by decide +kernel
theorem dX_register_35 : decode cX_register 35 = .ok (.aload_n 0, 1) := by decide +kernel
theorem dX_register_36 : decode cX_register 36 = .ok (.getfield 33, 3) := by decide +kernel
theorem dX_register_39 : decode cX_register 39 = .ok (.iload_n 2, 1) := by decide +kernel
theorem dX_register_40 : decode cX_register 40 = .ok (.invokevirtual 100, 3) := by decide +kernel
theorem dX_register_43 : decode cX_register 43 = .ok (.ireturn, 1) := by decide +kernel
theorem dX_distinct_0 : decode cX_distinct 0 = .ok (.iload_n 1, 1) := by decide +kernel
theorem dX_distinct_1 : decode cX_distinct 1 = .ok (.invokestatic 90, 3) := by decide +kernel
theorem dX_distinct_4 : decode cX_distinct 4 = .ok (.ifCond .eq 7, 3) := by decide +kernel
theorem dX_distinct_7 : decode cX_distinct 7 = .ok (.iload_n 2, 1) := by decide +kernel
theorem dX_distinct_8 : decode cX_distinct 8 = .ok (.ifCond .ge 7, 3) := by decide +kernel
theorem dX_distinct_11 : decode cX_distinct 11 = .ok (.ldc2_w 69, 3) := by decide +kernel
theorem dX_distinct_14 : decode cX_distinct 14 = .ok (.lreturn, 1) := by decide +kernel
theorem dX_distinct_15 : decode cX_distinct 15 = .ok (.aload_n 0, 1) := by decide +kernel
theorem dX_distinct_16 : decode cX_distinct 16 = .ok (.iload_n 1, 1) := by decide +kernel
theorem dX_distinct_17 : decode cX_distinct 17 = .ok (.invokevirtual 93, 3) := by decide +kernel
theorem dX_distinct_20 : decode cX_distinct 20 = .ok (.aload_n 0, 1) := by decide +kernel
theorem dX_distinct_21 : decode cX_distinct 21 = .ok (.invokevirtual 103, 3) := by decide +kernel
theorem dX_distinct_24 : decode cX_distinct 24 = .ok (.istore_n 3, 1) := by decide +kernel
theorem dX_distinct_25 : decode cX_distinct 25 = .ok (.iload_n 3, 1) := by decide +kernel
theorem dX_distinct_26 : decode cX_distinct 26 = .ok (.iload_n 2, 1) := by decide +kernel
theorem dX_distinct_27 : decode cX_distinct 27 = .ok (.if_icmp .gt 6, 3) := by decide +kernel
theorem dX_distinct_30 : decode cX_distinct 30 = .ok (.iload_n 3, 1) := by decide +kernel
theorem dX_distinct_31 : decode cX_distinct 31 = .ok (.i2l, 1) := by decide +kernel
theorem dX_distinct_32 : decode cX_distinct 32 = .ok (.lreturn, 1) := by decide +kernel
theorem dX_distinct_33 : decode cX_distinct 33 = .ok (.aload_n 0, 1) := by decide +kernel
theorem dX_distinct_34 : decode cX_distinct 34 = .ok (.getfield 33, 3) := by decide +kernel
theorem dX_distinct_37 : decode cX_distinct 37 = .ok (.aload_n 0, 1) := by decide +kernel
theorem dX_distinct_38 : decode cX_distinct 38 = .ok (.getfield 37, 3) := by decide +kernel
theorem dX_distinct_41 : decode cX_distinct 41 = .ok (.invokevirtual 96, 3) := by decide +kernel
theorem dX_distinct_44 : decode cX_distinct 44 = .ok (.aload_n 0, 1) := by decide +kernel
theorem dX_distinct_45 : decode cX_distinct 45 = .ok (.getfield 33, 3) := by decide +kernel
theorem dX_distinct_48 : decode cX_distinct 48 = .ok (.invokevirtual 107, 3) := by decide +kernel
theorem dX_distinct_51 : decode cX_distinct 51 = .ok (.lreturn, 1) := by decide +kernel
theorem dX_estimate_0 : decode cX_estimate 0 = .ok (.iload_n 2, 1) := by decide +kernel
theorem dX_estimate_1 : decode cX_estimate 1 = .ok (.invokestatic 55, 3) := by decide +kernel
theorem dX_estimate_4 : decode cX_estimate 4 = .ok (.ifCond .ne 7, 3) := by decide +kernel
theorem dX_estimate_7 : decode cX_estimate 7 = .ok (.ldc2_w 69, 3) := by decide +kernel
theorem dX_estimate_10 : decode cX_estimate 10 = .ok (.lreturn, 1) := by decide +kernel
theorem dX_estimate_11 : decode cX_estimate 11 = .ok (.iload_n 1, 1) := by decide +kernel
theorem dX_estimate_12 : decode cX_estimate 12 = .ok (.iconst 3, 1) := by decide +kernel
theorem dX_estimate_13 : decode cX_estimate 13 = .ok (.if_icmp .ne 15, 3) := by decide +kernel
theorem dX_estimate_16 : decode cX_estimate 16 = .ok (.aload_n 0, 1) := by decide +kernel
theorem dX_estimate_17 : decode cX_estimate 17 = .ok (.getfield 10, 3) := by decide +kernel
theorem dX_estimate_20 : decode cX_estimate 20 = .ok (.iload_n 2, 1) := by decide +kernel
theorem dX_estimate_21 : decode cX_estimate 21 = .ok (.invokevirtual 59, 3) := by decide +kernel
theorem dX_estimate_24 : decode cX_estimate 24 = .ok (.iconst 3, 1) := by decide +kernel
theorem dX_estimate_25 : decode cX_estimate 25 = .ok (.idiv, 1) := by decide +kernel
theorem dX_estimate_26 : decode cX_estimate 26 = .ok (.i2l, 1) := by decide +kernel
theorem dX_estimate_27 : decode cX_estimate 27 = .ok (.lreturn, 1) := by decide +kernel
theorem dX_estimate_28 : decode cX_estimate 28 = .ok (.iload_n 3, 1) := by decide +kernel
theorem dX_estimate_29 : decode cX_estimate 29 = .ok (.invokestatic 55, 3) := by decide +kernel
theorem dX_estimate_32 : decode cX_estimate 32 = .ok (.ifCond .ne 7, 3) := by decide +kernel
theorem dX_estimate_35 : decode cX_estimate 35 = .ok (.ldc2_w 69, 3) := by decide +kernel
theorem dX_estimate_38 : decode cX_estimate 38 = .ok (.lreturn, 1) := by decide +kernel
theorem dX_estimate_39 : decode cX_estimate 39 = .ok (.iload_n 1, 1) := by decide +kernel
theorem dX_estimate_40 : decode cX_estimate 40 = .ok (.tableswitch 87 0 4 #[36, 48, 60, 87, 80], 36) := by decide +kernel
theorem dX_estimate_76 : decode cX_estimate 76 = .ok (.aload_n 0, 1) := by decide +kernel
theorem dX_estimate_77 : decode cX_estimate 77 = .ok (.iload_n 2, 1) := by decide +kernel
theorem dX_estimate_78 : decode cX_estimate 78 = .ok (.iload_n 3, 1) := by decide +kernel
theorem dX_estimate_79 : decode cX_estimate 79 = .ok (.aload_n 0, 1) := by decide +kernel
theorem dX_estimate_80 : decode cX_estimate 80 = .ok (.iload_n 2, 1) := by decide +kernel
theorem dX_estimate_81 : decode cX_estimate 81 = .ok (.invokevirtual 66, 3) := by decide +kernel
theorem dX_estimate_84 : decode cX_estimate 84 = .ok (.invokevirtual 111, 3) := by decide +kernel
theorem dX_estimate_87 : decode cX_estimate 87 = .ok (.lreturn, 1) := by decide +kernel
theorem dX_estimate_88 : decode cX_estimate 88 = .ok (.aload_n 0, 1) := by decide +kernel
theorem dX_estimate_89 : decode cX_estimate 89 = .ok (.iload_n 2, 1) := by decide +kernel
theorem dX_estimate_90 : decode cX_estimate 90 = .ok (.iload_n 3, 1) := by decide +kernel
theorem dX_estimate_91 : decode cX_estimate 91 = .ok (.aload_n 0, 1) := by decide +kernel
theorem dX_estimate_92 : decode cX_estimate 92 = .ok (.iload_n 2, 1) := by decide +kernel
theorem dX_estimate_93 : decode cX_estimate 93 = .ok (.invokevirtual 63, 3) := by decide +kernel
theorem dX_estimate_96 : decode cX_estimate 96 = .ok (.invokevirtual 111, 3) := by decide +kernel
theorem dX_estimate_99 : decode cX_estimate 99 = .ok (.lreturn, 1) := by decide +kernel
theorem dX_estimate_100 : decode cX_estimate 100 = .ok (.aload_n 0, 1) := by decide +kernel
theorem dX_estimate_101 : decode cX_estimate 101 = .ok (.getfield 10, 3) := by decide +kernel
theorem dX_estimate_104 : decode cX_estimate 104 = .ok (.iload_n 2, 1) := by decide +kernel
theorem dX_estimate_105 : decode cX_estimate 105 = .ok (.invokevirtual 59, 3) := by decide +kernel
theorem dX_estimate_108 : decode cX_estimate 108 = .ok (.i2l, 1) := by decide +kernel
theorem dX_estimate_109 : decode cX_estimate 109 = .ok (.aload_n 0, 1) := by decide +kernel
theorem dX_estimate_110 : decode cX_estimate 110 = .ok (.getfield 10, 3) := by decide +kernel
theorem dX_estimate_113 : decode cX_estimate 113 = .ok (.iload_n 3, 1) := by decide +kernel
theorem dX_estimate_114 : decode cX_estimate 114 = .ok (.invokevirtual 59, 3) := by decide +kernel
theorem dX_estimate_117 : decode cX_estimate 117 = .ok (.i2l, 1) := by decide +kernel
theorem dX_estimate_118 : decode cX_estimate 118 = .ok (.ladd, 1) := by decide +kernel
theorem dX_estimate_119 : decode cX_estimate 119 = .ok (.lreturn, 1) := by decide +kernel
theorem dX_estimate_120 : decode cX_estimate 120 = .ok (.aload_n 0, 1) := by decide +kernel
theorem dX_estimate_121 : decode cX_estimate 121 = .ok (.iload_n 2, 1) := by decide +kernel
theorem dX_estimate_122 : decode cX_estimate 122 = .ok (.iload_n 3, 1) := by decide +kernel
theorem dX_estimate_123 : decode cX_estimate 123 = .ok (.invokevirtual 115, 3) := by decide +kernel
theorem dX_estimate_126 : decode cX_estimate 126 = .ok (.lreturn, 1) := by decide +kernel
theorem dX_estimate_127 : decode cX_estimate 127 = .ok (.ldc2_w 69, 3) := by decide +kernel
theorem dX_estimate_130 : decode cX_estimate 130 = .ok (.lreturn, 1) := by decide +kernel
theorem dX_range_0 : decode cX_range 0 = .ok (.iload_n 1, 1) := by decide +kernel
theorem dX_range_1 : decode cX_range 1 = .ok (.invokestatic 55, 3) := by decide +kernel
theorem dX_range_4 : decode cX_range 4 = .ok (.ifCond .ne 5, 3) := by decide +kernel
theorem dX_range_7 : decode cX_range 7 = .ok (.iconst (-1), 1) := by decide +kernel
theorem dX_range_8 : decode cX_range 8 = .ok (.ireturn, 1) := by decide +kernel
theorem dX_range_9 : decode cX_range 9 = .ok (.iconst 0, 1) := by decide +kernel
theorem dX_range_10 : decode cX_range 10 = .ok (.istore 4, 2) := by decide +kernel
theorem dX_range_12 : decode cX_range 12 = .ok (.iconst 0, 1) := by decide +kernel
theorem dX_range_13 : decode cX_range 13 = .ok (.istore 5, 2) := by decide +kernel
theorem dX_range_15 : decode cX_range 15 = .ok (.iload 5, 2) := by decide +kernel
theorem dX_range_17 : decode cX_range 17 = .ok (.bipush 8, 2) := by decide +kernel
theorem dX_range_19 : decode cX_range 19 = .ok (.if_icmp .ge 56, 3) := by decide +kernel
theorem dX_range_22 : decode cX_range 22 = .ok (.bipush 32, 2) := by decide +kernel
theorem dX_range_24 : decode cX_range 24 = .ok (.iload 5, 2) := by decide +kernel
theorem dX_range_26 : decode cX_range 26 = .ok (.imul, 1) := by decide +kernel
theorem dX_range_27 : decode cX_range 27 = .ok (.istore 6, 2) := by decide +kernel
theorem dX_range_29 : decode cX_range 29 = .ok (.iload 6, 2) := by decide +kernel
theorem dX_range_31 : decode cX_range 31 = .ok (.bipush 32, 2) := by decide +kernel
theorem dX_range_33 : decode cX_range 33 = .ok (.iadd, 1) := by decide +kernel
theorem dX_range_34 : decode cX_range 34 = .ok (.iconst 1, 1) := by decide +kernel
theorem dX_range_35 : decode cX_range 35 = .ok (.isub, 1) := by decide +kernel
theorem dX_range_36 : decode cX_range 36 = .ok (.istore 7, 2) := by decide +kernel
theorem dX_range_38 : decode cX_range 38 = .ok (.aload_n 0, 1) := by decide +kernel
theorem dX_range_39 : decode cX_range 39 = .ok (.iload_n 1, 1) := by decide +kernel
theorem dX_range_40 : decode cX_range 40 = .ok (.iload 6, 2) := by decide +kernel
theorem dX_range_42 : decode cX_range 42 = .ok (.iload 7, 2) := by decide +kernel
theorem dX_range_44 : decode cX_range 44 = .ok (.invokevirtual 86, 3) := by decide +kernel
theorem dX_range_47 : decode cX_range 47 = .ok (.istore 8, 2) := by decide +kernel
theorem dX_range_49 : decode cX_range 49 = .ok (.iload 4, 2) := by decide +kernel
theorem dX_range_51 : decode cX_range 51 = .ok (.iload 8, 2) := by decide +kernel
theorem dX_range_53 : decode cX_range 53 = .ok (.iload 6, 2) := by decide +kernel
theorem dX_range_55 : decode cX_range 55 = .ok (.iload 7, 2) := by decide +kernel
theorem dX_range_57 : decode cX_range 57 = .ok (.iload_n 2, 1) := by decide +kernel
theorem dX_range_58 : decode cX_range 58 = .ok (.iload_n 3, 1) := by decide +kernel
theorem dX_range_59 : decode cX_range 59 = .ok (.invokestatic 119, 3) := by decide +kernel
theorem dX_range_62 : decode cX_range 62 = .ok (.imul, 1) := by decide +kernel
theorem dX_range_63 : decode cX_range 63 = .ok (.bipush 32, 2) := by decide +kernel
theorem dX_range_65 : decode cX_range 65 = .ok (.idiv, 1) := by decide +kernel
theorem dX_range_66 : decode cX_range 66 = .ok (.iadd, 1) := by decide +kernel
theorem dX_range_67 : decode cX_range 67 = .ok (.istore 4, 2) := by decide +kernel
theorem dX_range_69 : decode cX_range 69 = .ok (.iinc 5 1, 3) := by decide +kernel
theorem dX_range_72 : decode cX_range 72 = .ok (.goto (-57), 3) := by decide +kernel
theorem dX_range_75 : decode cX_range 75 = .ok (.iload 4, 2) := by decide +kernel
theorem dX_range_77 : decode cX_range 77 = .ok (.ireturn, 1) := by decide +kernel
theorem dX_sample_0 : decode cX_sample 0 = .ok (.iload_n 1, 1) := by decide +kernel
theorem dX_sample_1 : decode cX_sample 1 = .ok (.invokestatic 55, 3) := by decide +kernel
theorem dX_sample_4 : decode cX_sample 4 = .ok (.ifCond .ne 5, 3) := by decide +kernel
theorem dX_sample_7 : decode cX_sample 7 = .ok (.iconst (-1), 1) := by decide +kernel
theorem dX_sample_8 : decode cX_sample 8 = .ok (.ireturn, 1) := by decide +kernel
theorem dX_sample_9 : decode cX_sample 9 = .ok (.aload_n 0, 1) := by decide +kernel
theorem dX_sample_10 : decode cX_sample 10 = .ok (.getfield 10, 3) := by decide +kernel
theorem dX_sample_13 : decode cX_sample 13 = .ok (.iload_n 1, 1) := by decide +kernel
theorem dX_sample_14 : decode cX_sample 14 = .ok (.invokevirtual 123, 3) := by decide +kernel
theorem dX_sample_17 : decode cX_sample 17 = .ok (.istore_n 3, 1) := by decide +kernel
theorem dX_sample_18 : decode cX_sample 18 = .ok (.iconst 0, 1) := by decide +kernel
theorem dX_sample_19 : decode cX_sample 19 = .ok (.istore 4, 2) := by decide +kernel
theorem dX_sample_21 : decode cX_sample 21 = .ok (.aload_n 0, 1) := by decide +kernel
theorem dX_sample_22 : decode cX_sample 22 = .ok (.getfield 10, 3) := by decide +kernel
theorem dX_sample_25 : decode cX_sample 25 = .ok (.iload_n 1, 1) := by decide +kernel
theorem dX_sample_26 : decode cX_sample 26 = .ok (.invokevirtual 126, 3) := by decide +kernel
theorem dX_sample_29 : decode cX_sample 29 = .ok (.istore 5, 2) := by decide +kernel
theorem dX_sample_31 : decode cX_sample 31 = .ok (.iload 5, 2) := by decide +kernel
theorem dX_sample_33 : decode cX_sample 33 = .ok (.iload_n 3, 1) := by decide +kernel
theorem dX_sample_34 : decode cX_sample 34 = .ok (.if_icmp .ge 40, 3) := by decide +kernel
theorem dX_sample_37 : decode cX_sample 37 = .ok (.aload_n 0, 1) := by decide +kernel
theorem dX_sample_38 : decode cX_sample 38 = .ok (.getfield 10, 3) := by decide +kernel
theorem dX_sample_41 : decode cX_sample 41 = .ok (.iload 5, 2) := by decide +kernel
theorem dX_sample_43 : decode cX_sample 43 = .ok (.invokevirtual 129, 3) := by decide +kernel
theorem dX_sample_46 : decode cX_sample 46 = .ok (.ifCond .eq 22, 3) := by decide +kernel
theorem dX_sample_49 : decode cX_sample 49 = .ok (.iload 4, 2) := by decide +kernel
theorem dX_sample_51 : decode cX_sample 51 = .ok (.iload_n 2, 1) := by decide +kernel
theorem dX_sample_52 : decode cX_sample 52 = .ok (.if_icmp .ne 13, 3) := by decide +kernel
theorem dX_sample_55 : decode cX_sample 55 = .ok (.aload_n 0, 1) := by decide +kernel
theorem dX_sample_56 : decode cX_sample 56 = .ok (.getfield 10, 3) := by decide +kernel
theorem dX_sample_59 : decode cX_sample 59 = .ok (.iload 5, 2) := by decide +kernel
theorem dX_sample_61 : decode cX_sample 61 = .ok (.invokevirtual 132, 3) := by decide +kernel
theorem dX_sample_64 : decode cX_sample 64 = .ok (.ireturn, 1) := by decide +kernel
theorem dX_sample_65 : decode cX_sample 65 = .ok (.iinc 4 1, 3) := by decide +kernel
theorem dX_sample_68 : decode cX_sample 68 = .ok (.iinc 5 1, 3) := by decide +kernel
theorem dX_sample_71 : decode cX_sample 71 = .ok (.goto (-40), 3) := by decide +kernel
theorem dX_sample_74 : decode cX_sample 74 = .ok (.bipush (-2), 2) := by decide +kernel
theorem dX_sample_76 : decode cX_sample 76 = .ok (.ireturn, 1) := by decide +kernel
theorem dX_pattern_0 : decode cX_pattern 0 = .ok (.iload_n 1, 1) := by decide +kernel
theorem dX_pattern_1 : decode cX_pattern 1 = .ok (.invokestatic 135, 3) := by decide +kernel
theorem dX_pattern_4 : decode cX_pattern 4 = .ok (.ifCond .eq 17, 3) := by decide +kernel
theorem dX_pattern_7 : decode cX_pattern 7 = .ok (.iload_n 2, 1) := by decide +kernel
theorem dX_pattern_8 : decode cX_pattern 8 = .ok (.invokestatic 138, 3) := by decide +kernel
theorem dX_pattern_11 : decode cX_pattern 11 = .ok (.ifCond .eq 10, 3) := by decide +kernel
theorem dX_pattern_14 : decode cX_pattern 14 = .ok (.iload_n 3, 1) := by decide +kernel
theorem dX_pattern_15 : decode cX_pattern 15 = .ok (.invokestatic 135, 3) := by decide +kernel
theorem dX_pattern_18 : decode cX_pattern 18 = .ok (.ifCond .ne 5, 3) := by decide +kernel
theorem dX_pattern_21 : decode cX_pattern 21 = .ok (.iconst (-1), 1) := by decide +kernel
theorem dX_pattern_22 : decode cX_pattern 22 = .ok (.ireturn, 1) := by decide +kernel
theorem dX_pattern_23 : decode cX_pattern 23 = .ok (.aload_n 0, 1) := by decide +kernel
theorem dX_pattern_24 : decode cX_pattern 24 = .ok (.getfield 19, 3) := by decide +kernel
theorem dX_pattern_27 : decode cX_pattern 27 = .ok (.iload_n 1, 1) := by decide +kernel
theorem dX_pattern_28 : decode cX_pattern 28 = .ok (.iload_n 2, 1) := by decide +kernel
theorem dX_pattern_29 : decode cX_pattern 29 = .ok (.iload_n 3, 1) := by decide +kernel
theorem dX_pattern_30 : decode cX_pattern 30 = .ok (.invokevirtual 141, 3) := by decide +kernel
theorem dX_pattern_33 : decode cX_pattern 33 = .ok (.ireturn, 1) := by decide +kernel
theorem dX_matches_0 : decode cX_matches 0 = .ok (.aload_n 0, 1) := by decide +kernel
theorem dX_matches_1 : decode cX_matches 1 = .ok (.getfield 19, 3) := by decide +kernel
theorem dX_matches_4 : decode cX_matches 4 = .ok (.iload_n 1, 1) := by decide +kernel
theorem dX_matches_5 : decode cX_matches 5 = .ok (.invokevirtual 144, 3) := by decide +kernel
theorem dX_matches_8 : decode cX_matches 8 = .ok (.ifCond .ne 5, 3) := by decide +kernel
theorem dX_matches_11 : decode cX_matches 11 = .ok (.iconst (-1), 1) := by decide +kernel
theorem dX_matches_12 : decode cX_matches 12 = .ok (.ireturn, 1) := by decide +kernel
theorem dX_matches_13 : decode cX_matches 13 = .ok (.iconst 0, 1) := by decide +kernel
theorem dX_matches_14 : decode cX_matches 14 = .ok (.istore_n 2, 1) := by decide +kernel
theorem dX_matches_15 : decode cX_matches 15 = .ok (.iconst 0, 1) := by decide +kernel
theorem dX_matches_16 : decode cX_matches 16 = .ok (.istore_n 3, 1) := by decide +kernel
theorem dX_matches_17 : decode cX_matches 17 = .ok (.iload_n 3, 1) := by decide +kernel
theorem dX_matches_18 : decode cX_matches 18 = .ok (.bipush 8, 2) := by decide +kernel
theorem dX_matches_20 : decode cX_matches 20 = .ok (.if_icmp .ge 75, 3) := by decide +kernel
theorem dX_matches_23 : decode cX_matches 23 = .ok (.aload_n 0, 1) := by decide +kernel
theorem dX_matches_24 : decode cX_matches 24 = .ok (.getfield 10, 3) := by decide +kernel
theorem dX_matches_27 : decode cX_matches 27 = .ok (.iload_n 3, 1) := by decide +kernel
theorem dX_matches_28 : decode cX_matches 28 = .ok (.invokevirtual 123, 3) := by decide +kernel
theorem dX_matches_31 : decode cX_matches 31 = .ok (.istore 4, 2) := by decide +kernel
theorem dX_matches_33 : decode cX_matches 33 = .ok (.aload_n 0, 1) := by decide +kernel
theorem dX_matches_34 : decode cX_matches 34 = .ok (.getfield 10, 3) := by decide +kernel
theorem dX_matches_37 : decode cX_matches 37 = .ok (.iload_n 3, 1) := by decide +kernel
theorem dX_matches_38 : decode cX_matches 38 = .ok (.invokevirtual 126, 3) := by decide +kernel
theorem dX_matches_41 : decode cX_matches 41 = .ok (.istore 5, 2) := by decide +kernel
theorem dX_matches_43 : decode cX_matches 43 = .ok (.iload 5, 2) := by decide +kernel
theorem dX_matches_45 : decode cX_matches 45 = .ok (.iload 4, 2) := by decide +kernel
theorem dX_matches_47 : decode cX_matches 47 = .ok (.if_icmp .ge 42, 3) := by decide +kernel
theorem dX_matches_50 : decode cX_matches 50 = .ok (.aload_n 0, 1) := by decide +kernel
theorem dX_matches_51 : decode cX_matches 51 = .ok (.getfield 19, 3) := by decide +kernel
theorem dX_matches_54 : decode cX_matches 54 = .ok (.iload_n 1, 1) := by decide +kernel
theorem dX_matches_55 : decode cX_matches 55 = .ok (.aload_n 0, 1) := by decide +kernel
theorem dX_matches_56 : decode cX_matches 56 = .ok (.getfield 10, 3) := by decide +kernel
theorem dX_matches_59 : decode cX_matches 59 = .ok (.iload 5, 2) := by decide +kernel
theorem dX_matches_61 : decode cX_matches 61 = .ok (.invokevirtual 147, 3) := by decide +kernel
theorem dX_matches_64 : decode cX_matches 64 = .ok (.iload_n 3, 1) := by decide +kernel
theorem dX_matches_65 : decode cX_matches 65 = .ok (.aload_n 0, 1) := by decide +kernel
theorem dX_matches_66 : decode cX_matches 66 = .ok (.getfield 10, 3) := by decide +kernel
theorem dX_matches_69 : decode cX_matches 69 = .ok (.iload 5, 2) := by decide +kernel
theorem dX_matches_71 : decode cX_matches 71 = .ok (.invokevirtual 150, 3) := by decide +kernel
theorem dX_matches_74 : decode cX_matches 74 = .ok (.invokevirtual 153, 3) := by decide +kernel
theorem dX_matches_77 : decode cX_matches 77 = .ok (.ifCond .eq 6, 3) := by decide +kernel
theorem dX_matches_80 : decode cX_matches 80 = .ok (.iinc 2 1, 3) := by decide +kernel
theorem dX_matches_83 : decode cX_matches 83 = .ok (.iinc 5 1, 3) := by decide +kernel
theorem dX_matches_86 : decode cX_matches 86 = .ok (.goto (-43), 3) := by decide +kernel
theorem dX_matches_89 : decode cX_matches 89 = .ok (.iinc 3 1, 3) := by decide +kernel
theorem dX_matches_92 : decode cX_matches 92 = .ok (.goto (-75), 3) := by decide +kernel
theorem dX_matches_95 : decode cX_matches 95 = .ok (.iload_n 2, 1) := by decide +kernel
theorem dX_matches_96 : decode cX_matches 96 = .ok (.ireturn, 1) := by decide +kernel
theorem dX_version_0 : decode cX_version 0 = .ok (.aload_n 0, 1) := by decide +kernel
theorem dX_version_1 : decode cX_version 1 = .ok (.getfield 26, 3) := by decide +kernel
theorem dX_version_4 : decode cX_version 4 = .ok (.aload_n 0, 1) := by decide +kernel
theorem dX_version_5 : decode cX_version 5 = .ok (.getfield 10, 3) := by decide +kernel
theorem dX_version_8 : decode cX_version 8 = .ok (.invokevirtual 157, 3) := by decide +kernel
theorem dX_version_11 : decode cX_version 11 = .ok (.ireturn, 1) := by decide +kernel
theorem dX_countAt_0 : decode cX_countAt 0 = .ok (.iload_n 1, 1) := by decide +kernel
theorem dX_countAt_1 : decode cX_countAt 1 = .ok (.invokestatic 55, 3) := by decide +kernel
theorem dX_countAt_4 : decode cX_countAt 4 = .ok (.ifCond .ne 5, 3) := by decide +kernel
theorem dX_countAt_7 : decode cX_countAt 7 = .ok (.iconst (-1), 1) := by decide +kernel
theorem dX_countAt_8 : decode cX_countAt 8 = .ok (.ireturn, 1) := by decide +kernel
theorem dX_countAt_9 : decode cX_countAt 9 = .ok (.aload_n 0, 1) := by decide +kernel
theorem dX_countAt_10 : decode cX_countAt 10 = .ok (.getfield 26, 3) := by decide +kernel
theorem dX_countAt_13 : decode cX_countAt 13 = .ok (.iload_n 1, 1) := by decide +kernel
theorem dX_countAt_14 : decode cX_countAt 14 = .ok (.iload_n 2, 1) := by decide +kernel
theorem dX_countAt_15 : decode cX_countAt 15 = .ok (.invokevirtual 161, 3) := by decide +kernel
theorem dX_countAt_18 : decode cX_countAt 18 = .ok (.ireturn, 1) := by decide +kernel
theorem dX_forget_0 : decode cX_forget 0 = .ok (.aload_n 0, 1) := by decide +kernel
theorem dX_forget_1 : decode cX_forget 1 = .ok (.getfield 26, 3) := by decide +kernel
theorem dX_forget_4 : decode cX_forget 4 = .ok (.iload_n 1, 1) := by decide +kernel
theorem dX_forget_5 : decode cX_forget 5 = .ok (.invokevirtual 164, 3) := by decide +kernel
theorem dX_forget_8 : decode cX_forget 8 = .ok (.ireturn, 1) := by decide +kernel
theorem dX_told_0 : decode cX_told 0 = .ok (.iload_n 1, 1) := by decide +kernel
theorem dX_told_1 : decode cX_told 1 = .ok (.tableswitch 63 0 3 #[31, 39, 47, 55], 31) := by decide +kernel
theorem dX_told_32 : decode cX_told 32 = .ok (.aload_n 0, 1) := by decide +kernel
theorem dX_told_33 : decode cX_told 33 = .ok (.getfield 10, 3) := by decide +kernel
theorem dX_told_36 : decode cX_told 36 = .ok (.invokevirtual 167, 3) := by decide +kernel
theorem dX_told_39 : decode cX_told 39 = .ok (.ireturn, 1) := by decide +kernel
theorem dX_told_40 : decode cX_told 40 = .ok (.aload_n 0, 1) := by decide +kernel
theorem dX_told_41 : decode cX_told 41 = .ok (.getfield 19, 3) := by decide +kernel
theorem dX_told_44 : decode cX_told 44 = .ok (.invokevirtual 170, 3) := by decide +kernel
theorem dX_told_47 : decode cX_told 47 = .ok (.ireturn, 1) := by decide +kernel
theorem dX_told_48 : decode cX_told 48 = .ok (.aload_n 0, 1) := by decide +kernel
theorem dX_told_49 : decode cX_told 49 = .ok (.getfield 26, 3) := by decide +kernel
theorem dX_told_52 : decode cX_told 52 = .ok (.invokevirtual 171, 3) := by decide +kernel
theorem dX_told_55 : decode cX_told 55 = .ok (.ireturn, 1) := by decide +kernel
theorem dX_told_56 : decode cX_told 56 = .ok (.aload_n 0, 1) := by decide +kernel
theorem dX_told_57 : decode cX_told 57 = .ok (.getfield 26, 3) := by decide +kernel
theorem dX_told_60 : decode cX_told 60 = .ok (.invokevirtual 174, 3) := by decide +kernel
theorem dX_told_63 : decode cX_told 63 = .ok (.ireturn, 1) := by decide +kernel
theorem dX_told_64 : decode cX_told 64 = .ok (.iconst (-1), 1) := by decide +kernel
theorem dX_told_65 : decode cX_told 65 = .ok (.ireturn, 1) := by decide +kernel
theorem dX_isNumber_0 : decode cX_isNumber 0 = .ok (.iload_n 0, 1) := by decide +kernel
theorem dX_isNumber_1 : decode cX_isNumber 1 = .ok (.ifCond .lt 14, 3) := by decide +kernel
theorem dX_isNumber_4 : decode cX_isNumber 4 = .ok (.iload_n 0, 1) := by decide +kernel
theorem dX_isNumber_5 : decode cX_isNumber 5 = .ok (.sipush 256, 3) := by decide +kernel
theorem dX_isNumber_8 : decode cX_isNumber 8 = .ok (.if_icmp .ge 7, 3) := by decide +kernel
theorem dX_isNumber_11 : decode cX_isNumber 11 = .ok (.iconst 1, 1) := by decide +kernel
theorem dX_isNumber_12 : decode cX_isNumber 12 = .ok (.goto 4, 3) := by decide +kernel
theorem dX_isNumber_15 : decode cX_isNumber 15 = .ok (.iconst 0, 1) := by decide +kernel
theorem dX_isNumber_16 : decode cX_isNumber 16 = .ok (.ireturn, 1) := by decide +kernel
theorem dX_isNumberOrAny_0 : decode cX_isNumberOrAny 0 = .ok (.iload_n 0, 1) := by decide +kernel
theorem dX_isNumberOrAny_1 : decode cX_isNumberOrAny 1 = .ok (.iconst (-1), 1) := by decide +kernel
theorem dX_isNumberOrAny_2 : decode cX_isNumberOrAny 2 = .ok (.if_icmp .eq 10, 3) := by decide +kernel
theorem dX_isNumberOrAny_5 : decode cX_isNumberOrAny 5 = .ok (.iload_n 0, 1) := by decide +kernel
theorem dX_isNumberOrAny_6 : decode cX_isNumberOrAny 6 = .ok (.invokestatic 177, 3) := by decide +kernel
theorem dX_isNumberOrAny_9 : decode cX_isNumberOrAny 9 = .ok (.ifCond .eq 7, 3) := by decide +kernel
theorem dX_isNumberOrAny_12 : decode cX_isNumberOrAny 12 = .ok (.iconst 1, 1) := by decide +kernel
theorem dX_isNumberOrAny_13 : decode cX_isNumberOrAny 13 = .ok (.goto 4, 3) := by decide +kernel
theorem dX_isNumberOrAny_16 : decode cX_isNumberOrAny 16 = .ok (.iconst 0, 1) := by decide +kernel
theorem dX_isNumberOrAny_17 : decode cX_isNumberOrAny 17 = .ok (.ireturn, 1) := by decide +kernel
theorem dX_isPredicate_0 : decode cX_isPredicate 0 = .ok (.iload_n 0, 1) := by decide +kernel
theorem dX_isPredicate_1 : decode cX_isPredicate 1 = .ok (.ifCond .lt 13, 3) := by decide +kernel
theorem dX_isPredicate_4 : decode cX_isPredicate 4 = .ok (.iload_n 0, 1) := by decide +kernel
theorem dX_isPredicate_5 : decode cX_isPredicate 5 = .ok (.bipush 8, 2) := by decide +kernel
theorem dX_isPredicate_7 : decode cX_isPredicate 7 = .ok (.if_icmp .ge 7, 3) := by decide +kernel
theorem dX_isPredicate_10 : decode cX_isPredicate 10 = .ok (.iconst 1, 1) := by decide +kernel
theorem dX_isPredicate_11 : decode cX_isPredicate 11 = .ok (.goto 4, 3) := by decide +kernel
theorem dX_isPredicate_14 : decode cX_isPredicate 14 = .ok (.iconst 0, 1) := by decide +kernel
theorem dX_isPredicate_15 : decode cX_isPredicate 15 = .ok (.ireturn, 1) := by decide +kernel
theorem dX_isPredicateOrAny_0 : decode cX_isPredicateOrAny 0 = .ok (.iload_n 0, 1) := by decide +kernel
theorem dX_isPredicateOrAny_1 : decode cX_isPredicateOrAny 1 = .ok (.iconst (-1), 1) := by decide +kernel
theorem dX_isPredicateOrAny_2 : decode cX_isPredicateOrAny 2 = .ok (.if_icmp .eq 10, 3) := by decide +kernel
theorem dX_isPredicateOrAny_5 : decode cX_isPredicateOrAny 5 = .ok (.iload_n 0, 1) := by decide +kernel
theorem dX_isPredicateOrAny_6 : decode cX_isPredicateOrAny 6 = .ok (.invokestatic 55, 3) := by decide +kernel
theorem dX_isPredicateOrAny_9 : decode cX_isPredicateOrAny 9 = .ok (.ifCond .eq 7, 3) := by decide +kernel
theorem dX_isPredicateOrAny_12 : decode cX_isPredicateOrAny 12 = .ok (.iconst 1, 1) := by decide +kernel
theorem dX_isPredicateOrAny_13 : decode cX_isPredicateOrAny 13 = .ok (.goto 4, 3) := by decide +kernel
theorem dX_isPredicateOrAny_16 : decode cX_isPredicateOrAny 16 = .ok (.iconst 0, 1) := by decide +kernel
theorem dX_isPredicateOrAny_17 : decode cX_isPredicateOrAny 17 = .ok (.ireturn, 1) := by decide +kernel
theorem dX_isTriple_0 : decode cX_isTriple 0 = .ok (.iload_n 0, 1) := by decide +kernel
theorem dX_isTriple_1 : decode cX_isTriple 1 = .ok (.invokestatic 177, 3) := by decide +kernel
theorem dX_isTriple_4 : decode cX_isTriple 4 = .ok (.ifCond .eq 21, 3) := by decide +kernel
theorem dX_isTriple_7 : decode cX_isTriple 7 = .ok (.iload_n 1, 1) := by decide +kernel
theorem dX_isTriple_8 : decode cX_isTriple 8 = .ok (.invokestatic 55, 3) := by decide +kernel
theorem dX_isTriple_11 : decode cX_isTriple 11 = .ok (.ifCond .eq 14, 3) := by decide +kernel
theorem dX_isTriple_14 : decode cX_isTriple 14 = .ok (.iload_n 2, 1) := by decide +kernel
theorem dX_isTriple_15 : decode cX_isTriple 15 = .ok (.invokestatic 177, 3) := by decide +kernel
theorem dX_isTriple_18 : decode cX_isTriple 18 = .ok (.ifCond .eq 7, 3) := by decide +kernel
theorem dX_isTriple_21 : decode cX_isTriple 21 = .ok (.iconst 1, 1) := by decide +kernel
theorem dX_isTriple_22 : decode cX_isTriple 22 = .ok (.goto 4, 3) := by decide +kernel
theorem dX_isTriple_25 : decode cX_isTriple 25 = .ok (.iconst 0, 1) := by decide +kernel
theorem dX_isTriple_26 : decode cX_isTriple 26 = .ok (.ireturn, 1) := by decide +kernel
theorem dX_isPredicateSet_0 : decode cX_isPredicateSet 0 = .ok (.iload_n 0, 1) := by decide +kernel
theorem dX_isPredicateSet_1 : decode cX_isPredicateSet 1 = .ok (.ifCond .lt 14, 3) := by decide +kernel
theorem dX_isPredicateSet_4 : decode cX_isPredicateSet 4 = .ok (.iload_n 0, 1) := by decide +kernel
theorem dX_isPredicateSet_5 : decode cX_isPredicateSet 5 = .ok (.sipush 256, 3) := by decide +kernel
theorem dX_isPredicateSet_8 : decode cX_isPredicateSet 8 = .ok (.if_icmp .ge 7, 3) := by decide +kernel
theorem dX_isPredicateSet_11 : decode cX_isPredicateSet 11 = .ok (.iconst 1, 1) := by decide +kernel
theorem dX_isPredicateSet_12 : decode cX_isPredicateSet 12 = .ok (.goto 4, 3) := by decide +kernel
theorem dX_isPredicateSet_15 : decode cX_isPredicateSet 15 = .ok (.iconst 0, 1) := by decide +kernel
theorem dX_isPredicateSet_16 : decode cX_isPredicateSet 16 = .ok (.ireturn, 1) := by decide +kernel
theorem dX_pair_0 : decode cX_pair 0 = .ok (.sipush 256, 3) := by decide +kernel
theorem dX_pair_3 : decode cX_pair 3 = .ok (.iload_n 0, 1) := by decide +kernel
theorem dX_pair_4 : decode cX_pair 4 = .ok (.imul, 1) := by decide +kernel
theorem dX_pair_5 : decode cX_pair 5 = .ok (.iload_n 1, 1) := by decide +kernel
theorem dX_pair_6 : decode cX_pair 6 = .ok (.iadd, 1) := by decide +kernel
theorem dX_pair_7 : decode cX_pair 7 = .ok (.ireturn, 1) := by decide +kernel
theorem dX_hash_0 : decode cX_hash 0 = .ok (.iload_n 0, 1) := by decide +kernel
theorem dX_hash_1 : decode cX_hash 1 = .ok (.iconst 1, 1) := by decide +kernel
theorem dX_hash_2 : decode cX_hash 2 = .ok (.iadd, 1) := by decide +kernel
theorem dX_hash_3 : decode cX_hash 3 = .ok (.ldc 180, 2) := by decide +kernel
theorem dX_hash_5 : decode cX_hash 5 = .ok (.imul, 1) := by decide +kernel
theorem dX_hash_6 : decode cX_hash 6 = .ok (.istore_n 1, 1) := by decide +kernel
theorem dX_hash_7 : decode cX_hash 7 = .ok (.iload_n 1, 1) := by decide +kernel
theorem dX_hash_8 : decode cX_hash 8 = .ok (.iload_n 1, 1) := by decide +kernel
theorem dX_hash_9 : decode cX_hash 9 = .ok (.bipush 15, 2) := by decide +kernel
theorem dX_hash_11 : decode cX_hash 11 = .ok (.iushr, 1) := by decide +kernel
theorem dX_hash_12 : decode cX_hash 12 = .ok (.ixor, 1) := by decide +kernel
theorem dX_hash_13 : decode cX_hash 13 = .ok (.istore_n 1, 1) := by decide +kernel
theorem dX_hash_14 : decode cX_hash 14 = .ok (.iload_n 1, 1) := by decide +kernel
theorem dX_hash_15 : decode cX_hash 15 = .ok (.ldc 181, 2) := by decide +kernel
theorem dX_hash_17 : decode cX_hash 17 = .ok (.imul, 1) := by decide +kernel
theorem dX_hash_18 : decode cX_hash 18 = .ok (.istore_n 1, 1) := by decide +kernel
theorem dX_hash_19 : decode cX_hash 19 = .ok (.iload_n 1, 1) := by decide +kernel
theorem dX_hash_20 : decode cX_hash 20 = .ok (.iload_n 1, 1) := by decide +kernel
theorem dX_hash_21 : decode cX_hash 21 = .ok (.bipush 13, 2) := by decide +kernel
theorem dX_hash_23 : decode cX_hash 23 = .ok (.iushr, 1) := by decide +kernel
theorem dX_hash_24 : decode cX_hash 24 = .ok (.ixor, 1) := by decide +kernel
theorem dX_hash_25 : decode cX_hash 25 = .ok (.ireturn, 1) := by decide +kernel
theorem dX_shared_0 : decode cX_shared 0 = .ok (.iload_n 0, 1) := by decide +kernel
theorem dX_shared_1 : decode cX_shared 1 = .ok (.iload_n 2, 1) := by decide +kernel
theorem dX_shared_2 : decode cX_shared 2 = .ok (.invokestatic 182, 3) := by decide +kernel
theorem dX_shared_5 : decode cX_shared 5 = .ok (.istore 4, 2) := by decide +kernel
theorem dX_shared_7 : decode cX_shared 7 = .ok (.iload_n 1, 1) := by decide +kernel
theorem dX_shared_8 : decode cX_shared 8 = .ok (.iload_n 3, 1) := by decide +kernel
theorem dX_shared_9 : decode cX_shared 9 = .ok (.invokestatic 187, 3) := by decide +kernel
theorem dX_shared_12 : decode cX_shared 12 = .ok (.istore 5, 2) := by decide +kernel
theorem dX_shared_14 : decode cX_shared 14 = .ok (.iload 4, 2) := by decide +kernel
theorem dX_shared_16 : decode cX_shared 16 = .ok (.iload 5, 2) := by decide +kernel
theorem dX_shared_18 : decode cX_shared 18 = .ok (.if_icmp .le 7, 3) := by decide +kernel
theorem dX_shared_21 : decode cX_shared 21 = .ok (.iconst 0, 1) := by decide +kernel
theorem dX_shared_22 : decode cX_shared 22 = .ok (.goto 10, 3) := by decide +kernel
theorem dX_shared_25 : decode cX_shared 25 = .ok (.iload 5, 2) := by decide +kernel
theorem dX_shared_27 : decode cX_shared 27 = .ok (.iload 4, 2) := by decide +kernel
theorem dX_shared_29 : decode cX_shared 29 = .ok (.isub, 1) := by decide +kernel
theorem dX_shared_30 : decode cX_shared 30 = .ok (.iconst 1, 1) := by decide +kernel
theorem dX_shared_31 : decode cX_shared 31 = .ok (.iadd, 1) := by decide +kernel
theorem dX_shared_32 : decode cX_shared 32 = .ok (.ireturn, 1) := by decide +kernel
theorem dX_clearTally_0 : decode cX_clearTally 0 = .ok (.aload_n 0, 1) := by decide +kernel
theorem dX_clearTally_1 : decode cX_clearTally 1 = .ok (.getfield 37, 3) := by decide +kernel
theorem dX_clearTally_4 : decode cX_clearTally 4 = .ok (.iconst 0, 1) := by decide +kernel
theorem dX_clearTally_5 : decode cX_clearTally 5 = .ok (.invokestatic 190, 3) := by decide +kernel
theorem dX_clearTally_8 : decode cX_clearTally 8 = .ok (.return_, 1) := by decide +kernel
theorem dX_tallySubjects_0 : decode cX_tallySubjects 0 = .ok (.aload_n 0, 1) := by decide +kernel
theorem dX_tallySubjects_1 : decode cX_tallySubjects 1 = .ok (.getfield 10, 3) := by decide +kernel
theorem dX_tallySubjects_4 : decode cX_tallySubjects 4 = .ok (.iload_n 1, 1) := by decide +kernel
theorem dX_tallySubjects_5 : decode cX_tallySubjects 5 = .ok (.invokevirtual 123, 3) := by decide +kernel
theorem dX_tallySubjects_8 : decode cX_tallySubjects 8 = .ok (.istore_n 2, 1) := by decide +kernel
theorem dX_tallySubjects_9 : decode cX_tallySubjects 9 = .ok (.aload_n 0, 1) := by decide +kernel
theorem dX_tallySubjects_10 : decode cX_tallySubjects 10 = .ok (.getfield 10, 3) := by decide +kernel
theorem dX_tallySubjects_13 : decode cX_tallySubjects 13 = .ok (.iload_n 1, 1) := by decide +kernel
theorem dX_tallySubjects_14 : decode cX_tallySubjects 14 = .ok (.invokevirtual 126, 3) := by decide +kernel
theorem dX_tallySubjects_17 : decode cX_tallySubjects 17 = .ok (.istore_n 3, 1) := by decide +kernel
theorem dX_tallySubjects_18 : decode cX_tallySubjects 18 = .ok (.iload_n 3, 1) := by decide +kernel
theorem dX_tallySubjects_19 : decode cX_tallySubjects 19 = .ok (.iload_n 2, 1) := by decide +kernel
theorem dX_tallySubjects_20 : decode cX_tallySubjects 20 = .ok (.if_icmp .ge 26, 3) := by decide +kernel
theorem dX_tallySubjects_23 : decode cX_tallySubjects 23 = .ok (.aload_n 0, 1) := by decide +kernel
theorem dX_tallySubjects_24 : decode cX_tallySubjects 24 = .ok (.getfield 37, 3) := by decide +kernel
theorem dX_tallySubjects_27 : decode cX_tallySubjects 27 = .ok (.aload_n 0, 1) := by decide +kernel
theorem dX_tallySubjects_28 : decode cX_tallySubjects 28 = .ok (.getfield 10, 3) := by decide +kernel
theorem dX_tallySubjects_31 : decode cX_tallySubjects 31 = .ok (.iload_n 3, 1) := by decide +kernel
theorem dX_tallySubjects_32 : decode cX_tallySubjects 32 = .ok (.invokevirtual 147, 3) := by decide +kernel
theorem dX_tallySubjects_35 : decode cX_tallySubjects 35 = .ok (.dup2, 1) := by decide +kernel
theorem dX_tallySubjects_36 : decode cX_tallySubjects 36 = .ok (.iaload, 1) := by decide +kernel
theorem dX_tallySubjects_37 : decode cX_tallySubjects 37 = .ok (.iconst 1, 1) := by decide +kernel
theorem dX_tallySubjects_38 : decode cX_tallySubjects 38 = .ok (.iadd, 1) := by decide +kernel
theorem dX_tallySubjects_39 : decode cX_tallySubjects 39 = .ok (.iastore, 1) := by decide +kernel
theorem dX_tallySubjects_40 : decode cX_tallySubjects 40 = .ok (.iinc 3 1, 3) := by decide +kernel
theorem dX_tallySubjects_43 : decode cX_tallySubjects 43 = .ok (.goto (-25), 3) := by decide +kernel
theorem dX_tallySubjects_46 : decode cX_tallySubjects 46 = .ok (.return_, 1) := by decide +kernel
theorem dX_tallySubjectsOfAll_0 : decode cX_tallySubjectsOfAll 0 = .ok (.aload_n 0, 1) := by decide +kernel
theorem dX_tallySubjectsOfAll_1 : decode cX_tallySubjectsOfAll 1 = .ok (.invokevirtual 79, 3) := by decide +kernel
theorem dX_tallySubjectsOfAll_4 : decode cX_tallySubjectsOfAll 4 = .ok (.iconst 0, 1) := by decide +kernel
theorem dX_tallySubjectsOfAll_5 : decode cX_tallySubjectsOfAll 5 = .ok (.istore_n 2, 1) := by decide +kernel
theorem dX_tallySubjectsOfAll_6 : decode cX_tallySubjectsOfAll 6 = .ok (.iload_n 2, 1) := by decide +kernel
theorem dX_tallySubjectsOfAll_7 : decode cX_tallySubjectsOfAll 7 = .ok (.bipush 8, 2) := by decide +kernel
theorem dX_tallySubjectsOfAll_9 : decode cX_tallySubjectsOfAll 9 = .ok (.if_icmp .ge 23, 3) := by decide +kernel
theorem dX_tallySubjectsOfAll_12 : decode cX_tallySubjectsOfAll 12 = .ok (.iload_n 1, 1) := by decide +kernel
theorem dX_tallySubjectsOfAll_13 : decode cX_tallySubjectsOfAll 13 = .ok (.iload_n 2, 1) := by decide +kernel
theorem dX_tallySubjectsOfAll_14 : decode cX_tallySubjectsOfAll 14 = .ok (.ishr, 1) := by decide +kernel
theorem dX_tallySubjectsOfAll_15 : decode cX_tallySubjectsOfAll 15 = .ok (.iconst 1, 1) := by decide +kernel
theorem dX_tallySubjectsOfAll_16 : decode cX_tallySubjectsOfAll 16 = .ok (.iand, 1) := by decide +kernel
theorem dX_tallySubjectsOfAll_17 : decode cX_tallySubjectsOfAll 17 = .ok (.iconst 1, 1) := by decide +kernel
theorem dX_tallySubjectsOfAll_18 : decode cX_tallySubjectsOfAll 18 = .ok (.if_icmp .ne 8, 3) := by decide +kernel
theorem dX_tallySubjectsOfAll_21 : decode cX_tallySubjectsOfAll 21 = .ok (.aload_n 0, 1) := by decide +kernel
theorem dX_tallySubjectsOfAll_22 : decode cX_tallySubjectsOfAll 22 = .ok (.iload_n 2, 1) := by decide +kernel
theorem dX_tallySubjectsOfAll_23 : decode cX_tallySubjectsOfAll 23 = .ok (.invokevirtual 82, 3) := by decide +kernel
theorem dX_tallySubjectsOfAll_26 : decode cX_tallySubjectsOfAll 26 = .ok (.iinc 2 1, 3) := by decide +kernel
theorem dX_tallySubjectsOfAll_29 : decode cX_tallySubjectsOfAll 29 = .ok (.goto (-23), 3) := by decide +kernel
theorem dX_tallySubjectsOfAll_32 : decode cX_tallySubjectsOfAll 32 = .ok (.return_, 1) := by decide +kernel
theorem dX_tallyObjects_0 : decode cX_tallyObjects 0 = .ok (.aload_n 0, 1) := by decide +kernel
theorem dX_tallyObjects_1 : decode cX_tallyObjects 1 = .ok (.invokevirtual 79, 3) := by decide +kernel
theorem dX_tallyObjects_4 : decode cX_tallyObjects 4 = .ok (.aload_n 0, 1) := by decide +kernel
theorem dX_tallyObjects_5 : decode cX_tallyObjects 5 = .ok (.getfield 10, 3) := by decide +kernel
theorem dX_tallyObjects_8 : decode cX_tallyObjects 8 = .ok (.iload_n 1, 1) := by decide +kernel
theorem dX_tallyObjects_9 : decode cX_tallyObjects 9 = .ok (.invokevirtual 123, 3) := by decide +kernel
theorem dX_tallyObjects_12 : decode cX_tallyObjects 12 = .ok (.istore_n 3, 1) := by decide +kernel
theorem dX_tallyObjects_13 : decode cX_tallyObjects 13 = .ok (.aload_n 0, 1) := by decide +kernel
theorem dX_tallyObjects_14 : decode cX_tallyObjects 14 = .ok (.getfield 10, 3) := by decide +kernel
theorem dX_tallyObjects_17 : decode cX_tallyObjects 17 = .ok (.iload_n 1, 1) := by decide +kernel
theorem dX_tallyObjects_18 : decode cX_tallyObjects 18 = .ok (.invokevirtual 126, 3) := by decide +kernel
theorem dX_tallyObjects_21 : decode cX_tallyObjects 21 = .ok (.istore 4, 2) := by decide +kernel
theorem dX_tallyObjects_23 : decode cX_tallyObjects 23 = .ok (.iload 4, 2) := by decide +kernel
theorem dX_tallyObjects_25 : decode cX_tallyObjects 25 = .ok (.iload_n 3, 1) := by decide +kernel
theorem dX_tallyObjects_26 : decode cX_tallyObjects 26 = .ok (.if_icmp .ge 43, 3) := by decide +kernel
theorem dX_tallyObjects_29 : decode cX_tallyObjects 29 = .ok (.iload_n 2, 1) := by decide +kernel
theorem dX_tallyObjects_30 : decode cX_tallyObjects 30 = .ok (.ifCond .eq 15, 3) := by decide +kernel
theorem dX_tallyObjects_33 : decode cX_tallyObjects 33 = .ok (.aload_n 0, 1) := by decide +kernel
theorem dX_tallyObjects_34 : decode cX_tallyObjects 34 = .ok (.getfield 10, 3) := by decide +kernel
theorem dX_tallyObjects_37 : decode cX_tallyObjects 37 = .ok (.iload 4, 2) := by decide +kernel
theorem dX_tallyObjects_39 : decode cX_tallyObjects 39 = .ok (.invokevirtual 129, 3) := by decide +kernel
theorem dX_tallyObjects_42 : decode cX_tallyObjects 42 = .ok (.ifCond .eq 21, 3) := by decide +kernel
theorem dX_tallyObjects_45 : decode cX_tallyObjects 45 = .ok (.aload_n 0, 1) := by decide +kernel
theorem dX_tallyObjects_46 : decode cX_tallyObjects 46 = .ok (.getfield 37, 3) := by decide +kernel
theorem dX_tallyObjects_49 : decode cX_tallyObjects 49 = .ok (.aload_n 0, 1) := by decide +kernel
theorem dX_tallyObjects_50 : decode cX_tallyObjects 50 = .ok (.getfield 10, 3) := by decide +kernel
theorem dX_tallyObjects_53 : decode cX_tallyObjects 53 = .ok (.iload 4, 2) := by decide +kernel
theorem dX_tallyObjects_55 : decode cX_tallyObjects 55 = .ok (.invokevirtual 150, 3) := by decide +kernel
theorem dX_tallyObjects_58 : decode cX_tallyObjects 58 = .ok (.dup2, 1) := by decide +kernel
theorem dX_tallyObjects_59 : decode cX_tallyObjects 59 = .ok (.iaload, 1) := by decide +kernel
theorem dX_tallyObjects_60 : decode cX_tallyObjects 60 = .ok (.iconst 1, 1) := by decide +kernel
theorem dX_tallyObjects_61 : decode cX_tallyObjects 61 = .ok (.iadd, 1) := by decide +kernel
theorem dX_tallyObjects_62 : decode cX_tallyObjects 62 = .ok (.iastore, 1) := by decide +kernel
theorem dX_tallyObjects_63 : decode cX_tallyObjects 63 = .ok (.iinc 4 1, 3) := by decide +kernel
theorem dX_tallyObjects_66 : decode cX_tallyObjects 66 = .ok (.goto (-43), 3) := by decide +kernel
theorem dX_tallyObjects_69 : decode cX_tallyObjects 69 = .ok (.return_, 1) := by decide +kernel
theorem dX_differentInTally_0 : decode cX_differentInTally 0 = .ok (.iconst 0, 1) := by decide +kernel
theorem dX_differentInTally_1 : decode cX_differentInTally 1 = .ok (.istore_n 1, 1) := by decide +kernel
theorem dX_differentInTally_2 : decode cX_differentInTally 2 = .ok (.iconst 0, 1) := by decide +kernel
theorem dX_differentInTally_3 : decode cX_differentInTally 3 = .ok (.istore_n 2, 1) := by decide +kernel
theorem dX_differentInTally_4 : decode cX_differentInTally 4 = .ok (.iload_n 2, 1) := by decide +kernel
theorem dX_differentInTally_5 : decode cX_differentInTally 5 = .ok (.sipush 256, 3) := by decide +kernel
theorem dX_differentInTally_8 : decode cX_differentInTally 8 = .ok (.if_icmp .ge 21, 3) := by decide +kernel
theorem dX_differentInTally_11 : decode cX_differentInTally 11 = .ok (.aload_n 0, 1) := by decide +kernel
theorem dX_differentInTally_12 : decode cX_differentInTally 12 = .ok (.getfield 37, 3) := by decide +kernel
theorem dX_differentInTally_15 : decode cX_differentInTally 15 = .ok (.iload_n 2, 1) := by decide +kernel
theorem dX_differentInTally_16 : decode cX_differentInTally 16 = .ok (.iaload, 1) := by decide +kernel
theorem dX_differentInTally_17 : decode cX_differentInTally 17 = .ok (.ifCond .le 6, 3) := by decide +kernel
theorem dX_differentInTally_20 : decode cX_differentInTally 20 = .ok (.iinc 1 1, 3) := by decide +kernel
theorem dX_differentInTally_23 : decode cX_differentInTally 23 = .ok (.iinc 2 1, 3) := by decide +kernel
theorem dX_differentInTally_26 : decode cX_differentInTally 26 = .ok (.goto (-22), 3) := by decide +kernel
theorem dX_differentInTally_29 : decode cX_differentInTally 29 = .ok (.iload_n 1, 1) := by decide +kernel
theorem dX_differentInTally_30 : decode cX_differentInTally 30 = .ok (.ireturn, 1) := by decide +kernel
theorem dX_sumAtSubjects_0 : decode cX_sumAtSubjects 0 = .ok (.lconst 0, 1) := by decide +kernel
theorem dX_sumAtSubjects_1 : decode cX_sumAtSubjects 1 = .ok (.lstore_n 3, 1) := by decide +kernel
theorem dX_sumAtSubjects_2 : decode cX_sumAtSubjects 2 = .ok (.aload_n 0, 1) := by decide +kernel
theorem dX_sumAtSubjects_3 : decode cX_sumAtSubjects 3 = .ok (.getfield 10, 3) := by decide +kernel
theorem dX_sumAtSubjects_6 : decode cX_sumAtSubjects 6 = .ok (.iload_n 1, 1) := by decide +kernel
theorem dX_sumAtSubjects_7 : decode cX_sumAtSubjects 7 = .ok (.invokevirtual 123, 3) := by decide +kernel
theorem dX_sumAtSubjects_10 : decode cX_sumAtSubjects 10 = .ok (.istore 5, 2) := by decide +kernel
theorem dX_sumAtSubjects_12 : decode cX_sumAtSubjects 12 = .ok (.aload_n 0, 1) := by decide +kernel
theorem dX_sumAtSubjects_13 : decode cX_sumAtSubjects 13 = .ok (.getfield 10, 3) := by decide +kernel
theorem dX_sumAtSubjects_16 : decode cX_sumAtSubjects 16 = .ok (.iload_n 1, 1) := by decide +kernel
theorem dX_sumAtSubjects_17 : decode cX_sumAtSubjects 17 = .ok (.invokevirtual 126, 3) := by decide +kernel
theorem dX_sumAtSubjects_20 : decode cX_sumAtSubjects 20 = .ok (.istore 6, 2) := by decide +kernel
theorem dX_sumAtSubjects_22 : decode cX_sumAtSubjects 22 = .ok (.iload 6, 2) := by decide +kernel
theorem dX_sumAtSubjects_24 : decode cX_sumAtSubjects 24 = .ok (.iload 5, 2) := by decide +kernel
theorem dX_sumAtSubjects_26 : decode cX_sumAtSubjects 26 = .ok (.if_icmp .ge 43, 3) := by decide +kernel
theorem dX_sumAtSubjects_29 : decode cX_sumAtSubjects 29 = .ok (.iload_n 2, 1) := by decide +kernel
theorem dX_sumAtSubjects_30 : decode cX_sumAtSubjects 30 = .ok (.ifCond .eq 15, 3) := by decide +kernel
theorem dX_sumAtSubjects_33 : decode cX_sumAtSubjects 33 = .ok (.aload_n 0, 1) := by decide +kernel
theorem dX_sumAtSubjects_34 : decode cX_sumAtSubjects 34 = .ok (.getfield 10, 3) := by decide +kernel
theorem dX_sumAtSubjects_37 : decode cX_sumAtSubjects 37 = .ok (.iload 6, 2) := by decide +kernel
theorem dX_sumAtSubjects_39 : decode cX_sumAtSubjects 39 = .ok (.invokevirtual 129, 3) := by decide +kernel
theorem dX_sumAtSubjects_42 : decode cX_sumAtSubjects 42 = .ok (.ifCond .eq 21, 3) := by decide +kernel
theorem dX_sumAtSubjects_45 : decode cX_sumAtSubjects 45 = .ok (.lload_n 3, 1) := by decide +kernel
theorem dX_sumAtSubjects_46 : decode cX_sumAtSubjects 46 = .ok (.aload_n 0, 1) := by decide +kernel
theorem dX_sumAtSubjects_47 : decode cX_sumAtSubjects 47 = .ok (.getfield 37, 3) := by decide +kernel
theorem dX_sumAtSubjects_50 : decode cX_sumAtSubjects 50 = .ok (.aload_n 0, 1) := by decide +kernel
theorem dX_sumAtSubjects_51 : decode cX_sumAtSubjects 51 = .ok (.getfield 10, 3) := by decide +kernel
theorem dX_sumAtSubjects_54 : decode cX_sumAtSubjects 54 = .ok (.iload 6, 2) := by decide +kernel
theorem dX_sumAtSubjects_56 : decode cX_sumAtSubjects 56 = .ok (.invokevirtual 147, 3) := by decide +kernel
theorem dX_sumAtSubjects_59 : decode cX_sumAtSubjects 59 = .ok (.iaload, 1) := by decide +kernel
theorem dX_sumAtSubjects_60 : decode cX_sumAtSubjects 60 = .ok (.i2l, 1) := by decide +kernel
theorem dX_sumAtSubjects_61 : decode cX_sumAtSubjects 61 = .ok (.ladd, 1) := by decide +kernel
theorem dX_sumAtSubjects_62 : decode cX_sumAtSubjects 62 = .ok (.lstore_n 3, 1) := by decide +kernel
theorem dX_sumAtSubjects_63 : decode cX_sumAtSubjects 63 = .ok (.iinc 6 1, 3) := by decide +kernel
theorem dX_sumAtSubjects_66 : decode cX_sumAtSubjects 66 = .ok (.goto (-44), 3) := by decide +kernel
theorem dX_sumAtSubjects_69 : decode cX_sumAtSubjects 69 = .ok (.lload_n 3, 1) := by decide +kernel
theorem dX_sumAtSubjects_70 : decode cX_sumAtSubjects 70 = .ok (.lreturn, 1) := by decide +kernel
theorem dX_subjectsOf_0 : decode cX_subjectsOf 0 = .ok (.aload_n 0, 1) := by decide +kernel
theorem dX_subjectsOf_1 : decode cX_subjectsOf 1 = .ok (.invokevirtual 79, 3) := by decide +kernel
theorem dX_subjectsOf_4 : decode cX_subjectsOf 4 = .ok (.aload_n 0, 1) := by decide +kernel
theorem dX_subjectsOf_5 : decode cX_subjectsOf 5 = .ok (.iload_n 1, 1) := by decide +kernel
theorem dX_subjectsOf_6 : decode cX_subjectsOf 6 = .ok (.invokevirtual 82, 3) := by decide +kernel
theorem dX_subjectsOf_9 : decode cX_subjectsOf 9 = .ok (.aload_n 0, 1) := by decide +kernel
theorem dX_subjectsOf_10 : decode cX_subjectsOf 10 = .ok (.invokevirtual 103, 3) := by decide +kernel
theorem dX_subjectsOf_13 : decode cX_subjectsOf 13 = .ok (.ireturn, 1) := by decide +kernel
theorem dX_objectsOf_0 : decode cX_objectsOf 0 = .ok (.aload_n 0, 1) := by decide +kernel
theorem dX_objectsOf_1 : decode cX_objectsOf 1 = .ok (.iload_n 1, 1) := by decide +kernel
theorem dX_objectsOf_2 : decode cX_objectsOf 2 = .ok (.iconst 0, 1) := by decide +kernel
theorem dX_objectsOf_3 : decode cX_objectsOf 3 = .ok (.invokevirtual 71, 3) := by decide +kernel
theorem dX_objectsOf_6 : decode cX_objectsOf 6 = .ok (.aload_n 0, 1) := by decide +kernel
theorem dX_objectsOf_7 : decode cX_objectsOf 7 = .ok (.invokevirtual 103, 3) := by decide +kernel
theorem dX_objectsOf_10 : decode cX_objectsOf 10 = .ok (.ireturn, 1) := by decide +kernel
theorem dX_withObjectBetween_0 : decode cX_withObjectBetween 0 = .ok (.iconst 0, 1) := by decide +kernel
theorem dX_withObjectBetween_1 : decode cX_withObjectBetween 1 = .ok (.istore 4, 2) := by decide +kernel
theorem dX_withObjectBetween_3 : decode cX_withObjectBetween 3 = .ok (.aload_n 0, 1) := by decide +kernel
theorem dX_withObjectBetween_4 : decode cX_withObjectBetween 4 = .ok (.getfield 10, 3) := by decide +kernel
theorem dX_withObjectBetween_7 : decode cX_withObjectBetween 7 = .ok (.iload_n 1, 1) := by decide +kernel
theorem dX_withObjectBetween_8 : decode cX_withObjectBetween 8 = .ok (.invokevirtual 123, 3) := by decide +kernel
theorem dX_withObjectBetween_11 : decode cX_withObjectBetween 11 = .ok (.istore 5, 2) := by decide +kernel
theorem dX_withObjectBetween_13 : decode cX_withObjectBetween 13 = .ok (.aload_n 0, 1) := by decide +kernel
theorem dX_withObjectBetween_14 : decode cX_withObjectBetween 14 = .ok (.getfield 10, 3) := by decide +kernel
theorem dX_withObjectBetween_17 : decode cX_withObjectBetween 17 = .ok (.iload_n 1, 1) := by decide +kernel
theorem dX_withObjectBetween_18 : decode cX_withObjectBetween 18 = .ok (.invokevirtual 126, 3) := by decide +kernel
theorem dX_withObjectBetween_21 : decode cX_withObjectBetween 21 = .ok (.istore 6, 2) := by decide +kernel
theorem dX_withObjectBetween_23 : decode cX_withObjectBetween 23 = .ok (.iload 6, 2) := by decide +kernel
theorem dX_withObjectBetween_25 : decode cX_withObjectBetween 25 = .ok (.iload 5, 2) := by decide +kernel
theorem dX_withObjectBetween_27 : decode cX_withObjectBetween 27 = .ok (.if_icmp .ge 35, 3) := by decide +kernel
theorem dX_withObjectBetween_30 : decode cX_withObjectBetween 30 = .ok (.aload_n 0, 1) := by decide +kernel
theorem dX_withObjectBetween_31 : decode cX_withObjectBetween 31 = .ok (.getfield 10, 3) := by decide +kernel
theorem dX_withObjectBetween_34 : decode cX_withObjectBetween 34 = .ok (.iload 6, 2) := by decide +kernel
theorem dX_withObjectBetween_36 : decode cX_withObjectBetween 36 = .ok (.invokevirtual 150, 3) := by decide +kernel
theorem dX_withObjectBetween_39 : decode cX_withObjectBetween 39 = .ok (.istore 7, 2) := by decide +kernel
theorem dX_withObjectBetween_41 : decode cX_withObjectBetween 41 = .ok (.iload_n 2, 1) := by decide +kernel
theorem dX_withObjectBetween_42 : decode cX_withObjectBetween 42 = .ok (.iload 7, 2) := by decide +kernel
theorem dX_withObjectBetween_44 : decode cX_withObjectBetween 44 = .ok (.if_icmp .gt 12, 3) := by decide +kernel
theorem dX_withObjectBetween_47 : decode cX_withObjectBetween 47 = .ok (.iload 7, 2) := by decide +kernel
theorem dX_withObjectBetween_49 : decode cX_withObjectBetween 49 = .ok (.iload_n 3, 1) := by decide +kernel
theorem dX_withObjectBetween_50 : decode cX_withObjectBetween 50 = .ok (.if_icmp .gt 6, 3) := by decide +kernel
theorem dX_withObjectBetween_53 : decode cX_withObjectBetween 53 = .ok (.iinc 4 1, 3) := by decide +kernel
theorem dX_withObjectBetween_56 : decode cX_withObjectBetween 56 = .ok (.iinc 6 1, 3) := by decide +kernel
theorem dX_withObjectBetween_59 : decode cX_withObjectBetween 59 = .ok (.goto (-36), 3) := by decide +kernel
theorem dX_withObjectBetween_62 : decode cX_withObjectBetween 62 = .ok (.iload 4, 2) := by decide +kernel
theorem dX_withObjectBetween_64 : decode cX_withObjectBetween 64 = .ok (.ireturn, 1) := by decide +kernel
theorem dX_joinEstimate_0 : decode cX_joinEstimate 0 = .ok (.iconst 1, 1) := by decide +kernel
theorem dX_joinEstimate_1 : decode cX_joinEstimate 1 = .ok (.iload_n 3, 1) := by decide +kernel
theorem dX_joinEstimate_2 : decode cX_joinEstimate 2 = .ok (.aload_n 0, 1) := by decide +kernel
theorem dX_joinEstimate_3 : decode cX_joinEstimate 3 = .ok (.iload_n 2, 1) := by decide +kernel
theorem dX_joinEstimate_4 : decode cX_joinEstimate 4 = .ok (.invokevirtual 63, 3) := by decide +kernel
theorem dX_joinEstimate_7 : decode cX_joinEstimate 7 = .ok (.invokestatic 182, 3) := by decide +kernel
theorem dX_joinEstimate_10 : decode cX_joinEstimate 10 = .ok (.invokestatic 182, 3) := by decide +kernel
theorem dX_joinEstimate_13 : decode cX_joinEstimate 13 = .ok (.istore 4, 2) := by decide +kernel
theorem dX_joinEstimate_15 : decode cX_joinEstimate 15 = .ok (.aload_n 0, 1) := by decide +kernel
theorem dX_joinEstimate_16 : decode cX_joinEstimate 16 = .ok (.getfield 10, 3) := by decide +kernel
theorem dX_joinEstimate_19 : decode cX_joinEstimate 19 = .ok (.iload_n 1, 1) := by decide +kernel
theorem dX_joinEstimate_20 : decode cX_joinEstimate 20 = .ok (.invokevirtual 59, 3) := by decide +kernel
theorem dX_joinEstimate_23 : decode cX_joinEstimate 23 = .ok (.i2l, 1) := by decide +kernel
theorem dX_joinEstimate_24 : decode cX_joinEstimate 24 = .ok (.aload_n 0, 1) := by decide +kernel
theorem dX_joinEstimate_25 : decode cX_joinEstimate 25 = .ok (.getfield 10, 3) := by decide +kernel
theorem dX_joinEstimate_28 : decode cX_joinEstimate 28 = .ok (.iload_n 2, 1) := by decide +kernel
theorem dX_joinEstimate_29 : decode cX_joinEstimate 29 = .ok (.invokevirtual 59, 3) := by decide +kernel
theorem dX_joinEstimate_32 : decode cX_joinEstimate 32 = .ok (.i2l, 1) := by decide +kernel
theorem dX_joinEstimate_33 : decode cX_joinEstimate 33 = .ok (.lmul, 1) := by decide +kernel
theorem dX_joinEstimate_34 : decode cX_joinEstimate 34 = .ok (.iload 4, 2) := by decide +kernel
theorem dX_joinEstimate_36 : decode cX_joinEstimate 36 = .ok (.i2l, 1) := by decide +kernel
theorem dX_joinEstimate_37 : decode cX_joinEstimate 37 = .ok (.ldiv, 1) := by decide +kernel
theorem dX_joinEstimate_38 : decode cX_joinEstimate 38 = .ok (.lreturn, 1) := by decide +kernel
theorem dX_sampledChainEstimate_0 : decode cX_sampledChainEstimate 0 = .ok (.aload_n 0, 1) := by decide +kernel
theorem dX_sampledChainEstimate_1 : decode cX_sampledChainEstimate 1 = .ok (.iload_n 1, 1) := by decide +kernel
theorem dX_sampledChainEstimate_2 : decode cX_sampledChainEstimate 2 = .ok (.iconst 1, 1) := by decide +kernel
theorem dX_sampledChainEstimate_3 : decode cX_sampledChainEstimate 3 = .ok (.invokevirtual 71, 3) := by decide +kernel
theorem dX_sampledChainEstimate_6 : decode cX_sampledChainEstimate 6 = .ok (.ldc2_w 196, 3) := by decide +kernel
theorem dX_sampledChainEstimate_9 : decode cX_sampledChainEstimate 9 = .ok (.aload_n 0, 1) := by decide +kernel
theorem dX_sampledChainEstimate_10 : decode cX_sampledChainEstimate 10 = .ok (.iload_n 2, 1) := by decide +kernel
theorem dX_sampledChainEstimate_11 : decode cX_sampledChainEstimate 11 = .ok (.iconst 1, 1) := by decide +kernel
theorem dX_sampledChainEstimate_12 : decode cX_sampledChainEstimate 12 = .ok (.invokevirtual 75, 3) := by decide +kernel
theorem dX_sampledChainEstimate_15 : decode cX_sampledChainEstimate 15 = .ok (.lmul, 1) := by decide +kernel
theorem dX_sampledChainEstimate_16 : decode cX_sampledChainEstimate 16 = .ok (.lreturn, 1) := by decide +kernel
end
section
theorem dM_init_0 : decode cM_init 0 = .ok (.aload_n 0, 1) := by decide +kernel
theorem dM_init_1 : decode cM_init 1 = .ok (.invokespecial 1, 3) := by decide +kernel
theorem dM_init_4 : decode cM_init 4 = .ok (.aload_n 0, 1) := by decide +kernel
theorem dM_init_5 : decode cM_init 5 = .ok (.sipush 400, 3) := by decide +kernel
theorem dM_init_8 : decode cM_init 8 = .ok (.newarray .int, 2) := by decide +kernel
theorem dM_init_10 : decode cM_init 10 = .ok (.putfield 7, 3) := by decide +kernel
theorem dM_init_13 : decode cM_init 13 = .ok (.aload_n 0, 1) := by decide +kernel
theorem dM_init_14 : decode cM_init 14 = .ok (.sipush 400, 3) := by decide +kernel
theorem dM_init_17 : decode cM_init 17 = .ok (.newarray .int, 2) := by decide +kernel
theorem dM_init_19 : decode cM_init 19 = .ok (.putfield 13, 3) := by decide +kernel
theorem dM_init_22 : decode cM_init 22 = .ok (.aload_n 0, 1) := by decide +kernel
theorem dM_init_23 : decode cM_init 23 = .ok (.sipush 400, 3) := by decide +kernel
theorem dM_init_26 : decode cM_init 26 = .ok (.newarray .int, 2) := by decide +kernel
theorem dM_init_28 : decode cM_init 28 = .ok (.putfield 16, 3) := by decide +kernel
theorem dM_init_31 : decode cM_init 31 = .ok (.aload_n 0, 1) := by decide +kernel
theorem dM_init_32 : decode cM_init 32 = .ok (.bipush 90, 2) := by decide +kernel
theorem dM_init_34 : decode cM_init 34 = .ok (.newarray .int, 2) := by decide +kernel
theorem dM_init_36 : decode cM_init 36 = .ok (.putfield 19, 3) := by decide +kernel
theorem dM_init_39 : decode cM_init 39 = .ok (.aload_n 0, 1) := by decide +kernel
theorem dM_init_40 : decode cM_init 40 = .ok (.sipush 320, 3) := by decide +kernel
theorem dM_init_43 : decode cM_init 43 = .ok (.newarray .int, 2) := by decide +kernel
theorem dM_init_45 : decode cM_init 45 = .ok (.putfield 22, 3) := by decide +kernel
theorem dM_init_48 : decode cM_init 48 = .ok (.aload_n 0, 1) := by decide +kernel
theorem dM_init_49 : decode cM_init 49 = .ok (.sipush 256, 3) := by decide +kernel
theorem dM_init_52 : decode cM_init 52 = .ok (.newarray .boolean, 2) := by decide +kernel
theorem dM_init_54 : decode cM_init 54 = .ok (.putfield 25, 3) := by decide +kernel
theorem dM_init_57 : decode cM_init 57 = .ok (.return_, 1) := by decide +kernel
theorem dM_isTerm_0 : decode cM_isTerm 0 = .ok (.iload_n 0, 1) := by decide +kernel
theorem dM_isTerm_1 : decode cM_isTerm 1 = .ok (.ifCond .lt 14, 3) := by decide +kernel
theorem dM_isTerm_4 : decode cM_isTerm 4 = .ok (.iload_n 0, 1) := by decide +kernel
theorem dM_isTerm_5 : decode cM_isTerm 5 = .ok (.sipush 256, 3) := by decide +kernel
theorem dM_isTerm_8 : decode cM_isTerm 8 = .ok (.if_icmp .ge 7, 3) := by decide +kernel
theorem dM_isTerm_11 : decode cM_isTerm 11 = .ok (.iconst 1, 1) := by decide +kernel
theorem dM_isTerm_12 : decode cM_isTerm 12 = .ok (.goto 4, 3) := by decide +kernel
theorem dM_isTerm_15 : decode cM_isTerm 15 = .ok (.iconst 0, 1) := by decide +kernel
theorem dM_isTerm_16 : decode cM_isTerm 16 = .ok (.ireturn, 1) := by decide +kernel
theorem dM_isPredicate_0 : decode cM_isPredicate 0 = .ok (.iload_n 0, 1) := by decide +kernel
theorem dM_isPredicate_1 : decode cM_isPredicate 1 = .ok (.ifCond .lt 13, 3) := by decide +kernel
theorem dM_isPredicate_4 : decode cM_isPredicate 4 = .ok (.iload_n 0, 1) := by decide +kernel
theorem dM_isPredicate_5 : decode cM_isPredicate 5 = .ok (.bipush 8, 2) := by decide +kernel
theorem dM_isPredicate_7 : decode cM_isPredicate 7 = .ok (.if_icmp .ge 7, 3) := by decide +kernel
theorem dM_isPredicate_10 : decode cM_isPredicate 10 = .ok (.iconst 1, 1) := by decide +kernel
theorem dM_isPredicate_11 : decode cM_isPredicate 11 = .ok (.goto 4, 3) := by decide +kernel
theorem dM_isPredicate_14 : decode cM_isPredicate 14 = .ok (.iconst 0, 1) := by decide +kernel
theorem dM_isPredicate_15 : decode cM_isPredicate 15 = .ok (.ireturn, 1) := by decide +kernel
theorem dM_find_0 : decode cM_find 0 = .ok (.iconst (-1), 1) := by decide +kernel
theorem dM_find_1 : decode cM_find 1 = .ok (.istore 4, 2) := by decide +kernel
theorem dM_find_3 : decode cM_find 3 = .ok (.iconst 0, 1) := by decide +kernel
theorem dM_find_4 : decode cM_find 4 = .ok (.istore 5, 2) := by decide +kernel
theorem dM_find_6 : decode cM_find 6 = .ok (.iload 5, 2) := by decide +kernel
theorem dM_find_8 : decode cM_find 8 = .ok (.aload_n 0, 1) := by decide +kernel
theorem dM_find_9 : decode cM_find 9 = .ok (.getfield 29, 3) := by decide +kernel
theorem dM_find_12 : decode cM_find 12 = .ok (.if_icmp .ge 51, 3) := by decide +kernel
theorem dM_find_15 : decode cM_find 15 = .ok (.aload_n 0, 1) := by decide +kernel
theorem dM_find_16 : decode cM_find 16 = .ok (.getfield 7, 3) := by decide +kernel
theorem dM_find_19 : decode cM_find 19 = .ok (.iload 5, 2) := by decide +kernel
theorem dM_find_21 : decode cM_find 21 = .ok (.iaload, 1) := by decide +kernel
theorem dM_find_22 : decode cM_find 22 = .ok (.iload_n 1, 1) := by decide +kernel
theorem dM_find_23 : decode cM_find 23 = .ok (.if_icmp .ne 30, 3) := by decide +kernel
theorem dM_find_26 : decode cM_find 26 = .ok (.aload_n 0, 1) := by decide +kernel
theorem dM_find_27 : decode cM_find 27 = .ok (.getfield 13, 3) := by decide +kernel
theorem dM_find_30 : decode cM_find 30 = .ok (.iload 5, 2) := by decide +kernel
theorem dM_find_32 : decode cM_find 32 = .ok (.iaload, 1) := by decide +kernel
theorem dM_find_33 : decode cM_find 33 = .ok (.iload_n 2, 1) := by decide +kernel
theorem dM_find_34 : decode cM_find 34 = .ok (.if_icmp .ne 19, 3) := by decide +kernel
theorem dM_find_37 : decode cM_find 37 = .ok (.aload_n 0, 1) := by decide +kernel
theorem dM_find_38 : decode cM_find 38 = .ok (.getfield 16, 3) := by decide +kernel
theorem dM_find_41 : decode cM_find 41 = .ok (.iload 5, 2) := by decide +kernel
theorem dM_find_43 : decode cM_find 43 = .ok (.iaload, 1) := by decide +kernel
theorem dM_find_44 : decode cM_find 44 = .ok (.iload_n 3, 1) := by decide +kernel
theorem dM_find_45 : decode cM_find 45 = .ok (.if_icmp .ne 8, 3) := by decide +kernel
theorem dM_find_48 : decode cM_find 48 = .ok (.iload 5, 2) := by decide +kernel
theorem dM_find_50 : decode cM_find 50 = .ok (.goto 5, 3) := by decide +kernel
theorem dM_find_53 : decode cM_find 53 = .ok (.iload 4, 2) := by decide +kernel
theorem dM_find_55 : decode cM_find 55 = .ok (.istore 4, 2) := by decide +kernel
theorem dM_find_57 : decode cM_find 57 = .ok (.iinc 5 1, 3) := by decide +kernel
theorem dM_find_60 : decode cM_find 60 = .ok (.goto (-54), 3) := by decide +kernel
theorem dM_find_63 : decode cM_find 63 = .ok (.iload 4, 2) := by decide +kernel
theorem dM_find_65 : decode cM_find 65 = .ok (.ireturn, 1) := by decide +kernel
theorem dM_triple_0 : decode cM_triple 0 = .ok (.iload_n 1, 1) := by decide +kernel
theorem dM_triple_1 : decode cM_triple 1 = .ok (.invokestatic 33, 3) := by decide +kernel
theorem dM_triple_4 : decode cM_triple 4 = .ok (.ifCond .eq 17, 3) := by decide +kernel
theorem dM_triple_7 : decode cM_triple 7 = .ok (.iload_n 2, 1) := by decide +kernel
theorem dM_triple_8 : decode cM_triple 8 = .ok (.invokestatic 37, 3) := by decide +kernel
theorem dM_triple_11 : decode cM_triple 11 = .ok (.ifCond .eq 10, 3) := by decide +kernel
theorem dM_triple_14 : decode cM_triple 14 = .ok (.iload_n 3, 1) := by decide +kernel
theorem dM_triple_15 : decode cM_triple 15 = .ok (.invokestatic 33, 3) := by decide +kernel
theorem dM_triple_18 : decode cM_triple 18 = .ok (.ifCond .ne 5, 3) := by decide +kernel
theorem dM_triple_21 : decode cM_triple 21 = .ok (.iconst (-1), 1) := by decide +kernel
theorem dM_triple_22 : decode cM_triple 22 = .ok (.ireturn, 1) := by decide +kernel
theorem dM_triple_23 : decode cM_triple 23 = .ok (.aload_n 0, 1) := by decide +kernel
theorem dM_triple_24 : decode cM_triple 24 = .ok (.iload_n 1, 1) := by decide +kernel
theorem dM_triple_25 : decode cM_triple 25 = .ok (.iload_n 2, 1) := by decide +kernel
theorem dM_triple_26 : decode cM_triple 26 = .ok (.iload_n 3, 1) := by decide +kernel
theorem dM_triple_27 : decode cM_triple 27 = .ok (.invokevirtual 40, 3) := by decide +kernel
theorem dM_triple_30 : decode cM_triple 30 = .ok (.ifCond .lt 5, 3) := by decide +kernel
theorem dM_triple_33 : decode cM_triple 33 = .ok (.iconst 0, 1) := by decide +kernel
theorem dM_triple_34 : decode cM_triple 34 = .ok (.ireturn, 1) := by decide +kernel
theorem dM_triple_35 : decode cM_triple 35 = .ok (.aload_n 0, 1) := by decide +kernel
theorem dM_triple_36 : decode cM_triple 36 = .ok (.getfield 29, 3) := by decide +kernel
theorem dM_triple_39 : decode cM_triple 39 = .ok (.sipush 400, 3) := by decide +kernel
theorem dM_triple_42 : decode cM_triple 42 = .ok (.if_icmp .ne 6, 3) := by decide +kernel
theorem dM_triple_45 : decode cM_triple 45 = .ok (.bipush (-3), 2) := by decide +kernel
theorem dM_triple_47 : decode cM_triple 47 = .ok (.ireturn, 1) := by decide +kernel
theorem dM_triple_48 : decode cM_triple 48 = .ok (.aload_n 0, 1) := by decide +kernel
theorem dM_triple_49 : decode cM_triple 49 = .ok (.getfield 7, 3) := by decide +kernel
theorem dM_triple_52 : decode cM_triple 52 = .ok (.aload_n 0, 1) := by decide +kernel
theorem dM_triple_53 : decode cM_triple 53 = .ok (.getfield 29, 3) := by decide +kernel
theorem dM_triple_56 : decode cM_triple 56 = .ok (.iload_n 1, 1) := by decide +kernel
theorem dM_triple_57 : decode cM_triple 57 = .ok (.iastore, 1) := by decide +kernel
theorem dM_triple_58 : decode cM_triple 58 = .ok (.aload_n 0, 1) := by decide +kernel
theorem dM_triple_59 : decode cM_triple 59 = .ok (.getfield 13, 3) := by decide +kernel
theorem dM_triple_62 : decode cM_triple 62 = .ok (.aload_n 0, 1) := by decide +kernel
theorem dM_triple_63 : decode cM_triple 63 = .ok (.getfield 29, 3) := by decide +kernel
theorem dM_triple_66 : decode cM_triple 66 = .ok (.iload_n 2, 1) := by decide +kernel
theorem dM_triple_67 : decode cM_triple 67 = .ok (.iastore, 1) := by decide +kernel
theorem dM_triple_68 : decode cM_triple 68 = .ok (.aload_n 0, 1) := by decide +kernel
theorem dM_triple_69 : decode cM_triple 69 = .ok (.getfield 16, 3) := by decide +kernel
theorem dM_triple_72 : decode cM_triple 72 = .ok (.aload_n 0, 1) := by decide +kernel
theorem dM_triple_73 : decode cM_triple 73 = .ok (.getfield 29, 3) := by decide +kernel
theorem dM_triple_76 : decode cM_triple 76 = .ok (.iload_n 3, 1) := by decide +kernel
theorem dM_triple_77 : decode cM_triple 77 = .ok (.iastore, 1) := by decide +kernel
theorem dM_triple_78 : decode cM_triple 78 = .ok (.aload_n 0, 1) := by decide +kernel
theorem dM_triple_79 : decode cM_triple 79 = .ok (.dup, 1) := by decide +kernel
theorem dM_triple_80 : decode cM_triple 80 = .ok (.getfield 29, 3) := by decide +kernel
theorem dM_triple_83 : decode cM_triple 83 = .ok (.iconst 1, 1) := by decide +kernel
theorem dM_triple_84 : decode cM_triple 84 = .ok (.iadd, 1) := by decide +kernel
theorem dM_triple_85 : decode cM_triple 85 = .ok (.putfield 29, 3) := by decide +kernel
theorem dM_triple_88 : decode cM_triple 88 = .ok (.iconst 1, 1) := by decide +kernel
theorem dM_triple_89 : decode cM_triple 89 = .ok (.ireturn, 1) := by decide +kernel
theorem dM_drop_0 : decode cM_drop 0 = .ok (.iload_n 1, 1) := by decide +kernel
theorem dM_drop_1 : decode cM_drop 1 = .ok (.invokestatic 33, 3) := by decide +kernel
theorem dM_drop_4 : decode cM_drop 4 = .ok (.ifCond .eq 17, 3) := by decide +kernel
theorem dM_drop_7 : decode cM_drop 7 = .ok (.iload_n 2, 1) := by decide +kernel
theorem dM_drop_8 : decode cM_drop 8 = .ok (.invokestatic 37, 3) := by decide +kernel
theorem dM_drop_11 : decode cM_drop 11 = .ok (.ifCond .eq 10, 3) := by decide +kernel
theorem dM_drop_14 : decode cM_drop 14 = .ok (.iload_n 3, 1) := by decide +kernel
theorem dM_drop_15 : decode cM_drop 15 = .ok (.invokestatic 33, 3) := by decide +kernel
theorem dM_drop_18 : decode cM_drop 18 = .ok (.ifCond .ne 5, 3) := by decide +kernel
theorem dM_drop_21 : decode cM_drop 21 = .ok (.iconst (-1), 1) := by decide +kernel
theorem dM_drop_22 : decode cM_drop 22 = .ok (.ireturn, 1) := by decide +kernel
theorem dM_drop_23 : decode cM_drop 23 = .ok (.aload_n 0, 1) := by decide +kernel
theorem dM_drop_24 : decode cM_drop 24 = .ok (.iload_n 1, 1) := by decide +kernel
theorem dM_drop_25 : decode cM_drop 25 = .ok (.iload_n 2, 1) := by decide +kernel
theorem dM_drop_26 : decode cM_drop 26 = .ok (.iload_n 3, 1) := by decide +kernel
theorem dM_drop_27 : decode cM_drop 27 = .ok (.invokevirtual 40, 3) := by decide +kernel
theorem dM_drop_30 : decode cM_drop 30 = .ok (.istore 4, 2) := by decide +kernel
theorem dM_drop_32 : decode cM_drop 32 = .ok (.iload 4, 2) := by decide +kernel
theorem dM_drop_34 : decode cM_drop 34 = .ok (.ifCond .ge 5, 3) := by decide +kernel
theorem dM_drop_37 : decode cM_drop 37 = .ok (.iconst 0, 1) := by decide +kernel
theorem dM_drop_38 : decode cM_drop 38 = .ok (.ireturn, 1) := by decide +kernel
theorem dM_drop_39 : decode cM_drop 39 = .ok (.aload_n 0, 1) := by decide +kernel
theorem dM_drop_40 : decode cM_drop 40 = .ok (.dup, 1) := by decide +kernel
theorem dM_drop_41 : decode cM_drop 41 = .ok (.getfield 29, 3) := by decide +kernel
theorem dM_drop_44 : decode cM_drop 44 = .ok (.iconst 1, 1) := by decide +kernel
theorem dM_drop_45 : decode cM_drop 45 = .ok (.isub, 1) := by decide +kernel
theorem dM_drop_46 : decode cM_drop 46 = .ok (.putfield 29, 3) := by decide +kernel
theorem dM_drop_49 : decode cM_drop 49 = .ok (.aload_n 0, 1) := by decide +kernel
theorem dM_drop_50 : decode cM_drop 50 = .ok (.getfield 7, 3) := by decide +kernel
theorem dM_drop_53 : decode cM_drop 53 = .ok (.iload 4, 2) := by decide +kernel
theorem dM_drop_55 : decode cM_drop 55 = .ok (.aload_n 0, 1) := by decide +kernel
theorem dM_drop_56 : decode cM_drop 56 = .ok (.getfield 7, 3) := by decide +kernel
theorem dM_drop_59 : decode cM_drop 59 = .ok (.aload_n 0, 1) := by decide +kernel
theorem dM_drop_60 : decode cM_drop 60 = .ok (.getfield 29, 3) := by decide +kernel
theorem dM_drop_63 : decode cM_drop 63 = .ok (.iaload, 1) := by decide +kernel
theorem dM_drop_64 : decode cM_drop 64 = .ok (.iastore, 1) := by decide +kernel
theorem dM_drop_65 : decode cM_drop 65 = .ok (.aload_n 0, 1) := by decide +kernel
theorem dM_drop_66 : decode cM_drop 66 = .ok (.getfield 13, 3) := by decide +kernel
theorem dM_drop_69 : decode cM_drop 69 = .ok (.iload 4, 2) := by decide +kernel
theorem dM_drop_71 : decode cM_drop 71 = .ok (.aload_n 0, 1) := by decide +kernel
theorem dM_drop_72 : decode cM_drop 72 = .ok (.getfield 13, 3) := by decide +kernel
theorem dM_drop_75 : decode cM_drop 75 = .ok (.aload_n 0, 1) := by decide +kernel
theorem dM_drop_76 : decode cM_drop 76 = .ok (.getfield 29, 3) := by decide +kernel
theorem dM_drop_79 : decode cM_drop 79 = .ok (.iaload, 1) := by decide +kernel
theorem dM_drop_80 : decode cM_drop 80 = .ok (.iastore, 1) := by decide +kernel
theorem dM_drop_81 : decode cM_drop 81 = .ok (.aload_n 0, 1) := by decide +kernel
theorem dM_drop_82 : decode cM_drop 82 = .ok (.getfield 16, 3) := by decide +kernel
theorem dM_drop_85 : decode cM_drop 85 = .ok (.iload 4, 2) := by decide +kernel
theorem dM_drop_87 : decode cM_drop 87 = .ok (.aload_n 0, 1) := by decide +kernel
theorem dM_drop_88 : decode cM_drop 88 = .ok (.getfield 16, 3) := by decide +kernel
theorem dM_drop_91 : decode cM_drop 91 = .ok (.aload_n 0, 1) := by decide +kernel
theorem dM_drop_92 : decode cM_drop 92 = .ok (.getfield 29, 3) := by decide +kernel
theorem dM_drop_95 : decode cM_drop 95 = .ok (.iaload, 1) := by decide +kernel
theorem dM_drop_96 : decode cM_drop 96 = .ok (.iastore, 1) := by decide +kernel
theorem dM_drop_97 : decode cM_drop 97 = .ok (.iconst 1, 1) := by decide +kernel
theorem dM_drop_98 : decode cM_drop 98 = .ok (.ireturn, 1) := by decide +kernel
theorem dM_countOf_0 : decode cM_countOf 0 = .ok (.iconst 0, 1) := by decide +kernel
theorem dM_countOf_1 : decode cM_countOf 1 = .ok (.istore_n 2, 1) := by decide +kernel
theorem dM_countOf_2 : decode cM_countOf 2 = .ok (.iconst 0, 1) := by decide +kernel
theorem dM_countOf_3 : decode cM_countOf 3 = .ok (.istore_n 3, 1) := by decide +kernel
theorem dM_countOf_4 : decode cM_countOf 4 = .ok (.iload_n 3, 1) := by decide +kernel
theorem dM_countOf_5 : decode cM_countOf 5 = .ok (.aload_n 0, 1) := by decide +kernel
theorem dM_countOf_6 : decode cM_countOf 6 = .ok (.getfield 29, 3) := by decide +kernel
theorem dM_countOf_9 : decode cM_countOf 9 = .ok (.if_icmp .ge 27, 3) := by decide +kernel
theorem dM_countOf_12 : decode cM_countOf 12 = .ok (.aload_n 0, 1) := by decide +kernel
theorem dM_countOf_13 : decode cM_countOf 13 = .ok (.getfield 13, 3) := by decide +kernel
theorem dM_countOf_16 : decode cM_countOf 16 = .ok (.iload_n 3, 1) := by decide +kernel
theorem dM_countOf_17 : decode cM_countOf 17 = .ok (.iaload, 1) := by decide +kernel
theorem dM_countOf_18 : decode cM_countOf 18 = .ok (.iload_n 1, 1) := by decide +kernel
theorem dM_countOf_19 : decode cM_countOf 19 = .ok (.if_icmp .ne 9, 3) := by decide +kernel
theorem dM_countOf_22 : decode cM_countOf 22 = .ok (.iload_n 2, 1) := by decide +kernel
theorem dM_countOf_23 : decode cM_countOf 23 = .ok (.iconst 1, 1) := by decide +kernel
theorem dM_countOf_24 : decode cM_countOf 24 = .ok (.iadd, 1) := by decide +kernel
theorem dM_countOf_25 : decode cM_countOf 25 = .ok (.goto 4, 3) := by decide +kernel
theorem dM_countOf_28 : decode cM_countOf 28 = .ok (.iload_n 2, 1) := by decide +kernel
theorem dM_countOf_29 : decode cM_countOf 29 = .ok (.istore_n 2, 1) := by decide +kernel
theorem dM_countOf_30 : decode cM_countOf 30 = .ok (.iinc 3 1, 3) := by decide +kernel
theorem dM_countOf_33 : decode cM_countOf 33 = .ok (.goto (-29), 3) := by decide +kernel
theorem dM_countOf_36 : decode cM_countOf 36 = .ok (.iload_n 2, 1) := by decide +kernel
theorem dM_countOf_37 : decode cM_countOf 37 = .ok (.ireturn, 1) := by decide +kernel
theorem dM_different_0 : decode cM_different 0 = .ok (.iconst 0, 1) := by decide +kernel
theorem dM_different_1 : decode cM_different 1 = .ok (.istore_n 3, 1) := by decide +kernel
theorem dM_different_2 : decode cM_different 2 = .ok (.iload_n 3, 1) := by decide +kernel
theorem dM_different_3 : decode cM_different 3 = .ok (.sipush 256, 3) := by decide +kernel
theorem dM_different_6 : decode cM_different 6 = .ok (.if_icmp .ge 16, 3) := by decide +kernel
theorem dM_different_9 : decode cM_different 9 = .ok (.aload_n 0, 1) := by decide +kernel
theorem dM_different_10 : decode cM_different 10 = .ok (.getfield 25, 3) := by decide +kernel
theorem dM_different_13 : decode cM_different 13 = .ok (.iload_n 3, 1) := by decide +kernel
theorem dM_different_14 : decode cM_different 14 = .ok (.iconst 0, 1) := by decide +kernel
theorem dM_different_15 : decode cM_different 15 = .ok (.bastore, 1) := by decide +kernel
theorem dM_different_16 : decode cM_different 16 = .ok (.iinc 3 1, 3) := by decide +kernel
theorem dM_different_19 : decode cM_different 19 = .ok (.goto (-17), 3) := by decide +kernel
theorem dM_different_22 : decode cM_different 22 = .ok (.iconst 0, 1) := by decide +kernel
theorem dM_different_23 : decode cM_different 23 = .ok (.istore_n 3, 1) := by decide +kernel
theorem dM_different_24 : decode cM_different 24 = .ok (.iconst 0, 1) := by decide +kernel
theorem dM_different_25 : decode cM_different 25 = .ok (.istore 4, 2) := by decide +kernel
theorem dM_different_27 : decode cM_different 27 = .ok (.iload 4, 2) := by decide +kernel
theorem dM_different_29 : decode cM_different 29 = .ok (.aload_n 0, 1) := by decide +kernel
theorem dM_different_30 : decode cM_different 30 = .ok (.getfield 29, 3) := by decide +kernel
theorem dM_different_33 : decode cM_different 33 = .ok (.if_icmp .ge 68, 3) := by decide +kernel
theorem dM_different_36 : decode cM_different 36 = .ok (.iload_n 2, 1) := by decide +kernel
theorem dM_different_37 : decode cM_different 37 = .ok (.ifCond .eq 13, 3) := by decide +kernel
theorem dM_different_40 : decode cM_different 40 = .ok (.aload_n 0, 1) := by decide +kernel
theorem dM_different_41 : decode cM_different 41 = .ok (.getfield 7, 3) := by decide +kernel
theorem dM_different_44 : decode cM_different 44 = .ok (.iload 4, 2) := by decide +kernel
theorem dM_different_46 : decode cM_different 46 = .ok (.iaload, 1) := by decide +kernel
theorem dM_different_47 : decode cM_different 47 = .ok (.goto 10, 3) := by decide +kernel
theorem dM_different_50 : decode cM_different 50 = .ok (.aload_n 0, 1) := by decide +kernel
theorem dM_different_51 : decode cM_different 51 = .ok (.getfield 16, 3) := by decide +kernel
theorem dM_different_54 : decode cM_different 54 = .ok (.iload 4, 2) := by decide +kernel
theorem dM_different_56 : decode cM_different 56 = .ok (.iaload, 1) := by decide +kernel
theorem dM_different_57 : decode cM_different 57 = .ok (.istore 5, 2) := by decide +kernel
theorem dM_different_59 : decode cM_different 59 = .ok (.iload_n 1, 1) := by decide +kernel
theorem dM_different_60 : decode cM_different 60 = .ok (.aload_n 0, 1) := by decide +kernel
theorem dM_different_61 : decode cM_different 61 = .ok (.getfield 13, 3) := by decide +kernel
theorem dM_different_64 : decode cM_different 64 = .ok (.iload 4, 2) := by decide +kernel
theorem dM_different_66 : decode cM_different 66 = .ok (.iaload, 1) := by decide +kernel
theorem dM_different_67 : decode cM_different 67 = .ok (.ishr, 1) := by decide +kernel
theorem dM_different_68 : decode cM_different 68 = .ok (.iconst 1, 1) := by decide +kernel
theorem dM_different_69 : decode cM_different 69 = .ok (.iand, 1) := by decide +kernel
theorem dM_different_70 : decode cM_different 70 = .ok (.iconst 1, 1) := by decide +kernel
theorem dM_different_71 : decode cM_different 71 = .ok (.if_icmp .ne 24, 3) := by decide +kernel
theorem dM_different_74 : decode cM_different 74 = .ok (.aload_n 0, 1) := by decide +kernel
theorem dM_different_75 : decode cM_different 75 = .ok (.getfield 25, 3) := by decide +kernel
theorem dM_different_78 : decode cM_different 78 = .ok (.iload 5, 2) := by decide +kernel
theorem dM_different_80 : decode cM_different 80 = .ok (.baload, 1) := by decide +kernel
theorem dM_different_81 : decode cM_different 81 = .ok (.ifCond .ne 14, 3) := by decide +kernel
theorem dM_different_84 : decode cM_different 84 = .ok (.aload_n 0, 1) := by decide +kernel
theorem dM_different_85 : decode cM_different 85 = .ok (.getfield 25, 3) := by decide +kernel
theorem dM_different_88 : decode cM_different 88 = .ok (.iload 5, 2) := by decide +kernel
theorem dM_different_90 : decode cM_different 90 = .ok (.iconst 1, 1) := by decide +kernel
theorem dM_different_91 : decode cM_different 91 = .ok (.bastore, 1) := by decide +kernel
theorem dM_different_92 : decode cM_different 92 = .ok (.iinc 3 1, 3) := by decide +kernel
theorem dM_different_95 : decode cM_different 95 = .ok (.iinc 4 1, 3) := by decide +kernel
theorem dM_different_98 : decode cM_different 98 = .ok (.goto (-71), 3) := by decide +kernel
theorem dM_different_101 : decode cM_different 101 = .ok (.iload_n 3, 1) := by decide +kernel
theorem dM_different_102 : decode cM_different 102 = .ok (.ireturn, 1) := by decide +kernel
theorem dM_count_0 : decode cM_count 0 = .ok (.iload_n 1, 1) := by decide +kernel
theorem dM_count_1 : decode cM_count 1 = .ok (.invokestatic 37, 3) := by decide +kernel
theorem dM_count_4 : decode cM_count 4 = .ok (.ifCond .eq 12, 3) := by decide +kernel
theorem dM_count_7 : decode cM_count 7 = .ok (.iload_n 2, 1) := by decide +kernel
theorem dM_count_8 : decode cM_count 8 = .ok (.ifCond .lt 8, 3) := by decide +kernel
theorem dM_count_11 : decode cM_count 11 = .ok (.iload_n 2, 1) := by decide +kernel
theorem dM_count_12 : decode cM_count 12 = .ok (.iconst 2, 1) := by decide +kernel
theorem dM_count_13 : decode cM_count 13 = .ok (.if_icmp .le 5, 3) := by decide +kernel
theorem dM_count_16 : decode cM_count 16 = .ok (.iconst (-1), 1) := by decide +kernel
theorem dM_count_17 : decode cM_count 17 = .ok (.ireturn, 1) := by decide +kernel
theorem dM_count_18 : decode cM_count 18 = .ok (.iload_n 2, 1) := by decide +kernel
theorem dM_count_19 : decode cM_count 19 = .ok (.ifCond .ne 11, 3) := by decide +kernel
theorem dM_count_22 : decode cM_count 22 = .ok (.aload_n 0, 1) := by decide +kernel
theorem dM_count_23 : decode cM_count 23 = .ok (.iload_n 1, 1) := by decide +kernel
theorem dM_count_24 : decode cM_count 24 = .ok (.invokevirtual 44, 3) := by decide +kernel
theorem dM_count_27 : decode cM_count 27 = .ok (.goto 20, 3) := by decide +kernel
theorem dM_count_30 : decode cM_count 30 = .ok (.aload_n 0, 1) := by decide +kernel
theorem dM_count_31 : decode cM_count 31 = .ok (.iconst 1, 1) := by decide +kernel
theorem dM_count_32 : decode cM_count 32 = .ok (.iload_n 1, 1) := by decide +kernel
theorem dM_count_33 : decode cM_count 33 = .ok (.ishl, 1) := by decide +kernel
theorem dM_count_34 : decode cM_count 34 = .ok (.iload_n 2, 1) := by decide +kernel
theorem dM_count_35 : decode cM_count 35 = .ok (.iconst 1, 1) := by decide +kernel
theorem dM_count_36 : decode cM_count 36 = .ok (.if_icmp .ne 7, 3) := by decide +kernel
theorem dM_count_39 : decode cM_count 39 = .ok (.iconst 1, 1) := by decide +kernel
theorem dM_count_40 : decode cM_count 40 = .ok (.goto 4, 3) := by decide +kernel
theorem dM_count_43 : decode cM_count 43 = .ok (.iconst 0, 1) := by decide +kernel
theorem dM_count_44 : decode cM_count 44 = .ok (.invokevirtual 48, 3) := by decide +kernel
theorem dM_count_47 : decode cM_count 47 = .ok (.ireturn, 1) := by decide +kernel
theorem dM_hash_0 : decode cM_hash 0 = .ok (.iload_n 0, 1) := by decide +kernel
theorem dM_hash_1 : decode cM_hash 1 = .ok (.iconst 1, 1) := by decide +kernel
theorem dM_hash_2 : decode cM_hash 2 = .ok (.iadd, 1) := by decide +kernel
theorem dM_hash_3 : decode cM_hash 3 = .ok (.ldc 52, 2) := by decide +kernel
theorem dM_hash_5 : decode cM_hash 5 = .ok (.imul, 1) := by decide +kernel
theorem dM_hash_6 : decode cM_hash 6 = .ok (.istore_n 1, 1) := by decide +kernel
theorem dM_hash_7 : decode cM_hash 7 = .ok (.iload_n 1, 1) := by decide +kernel
theorem dM_hash_8 : decode cM_hash 8 = .ok (.iload_n 1, 1) := by decide +kernel
theorem dM_hash_9 : decode cM_hash 9 = .ok (.bipush 15, 2) := by decide +kernel
theorem dM_hash_11 : decode cM_hash 11 = .ok (.iushr, 1) := by decide +kernel
theorem dM_hash_12 : decode cM_hash 12 = .ok (.ixor, 1) := by decide +kernel
theorem dM_hash_13 : decode cM_hash 13 = .ok (.istore_n 1, 1) := by decide +kernel
theorem dM_hash_14 : decode cM_hash 14 = .ok (.iload_n 1, 1) := by decide +kernel
theorem dM_hash_15 : decode cM_hash 15 = .ok (.ldc 53, 2) := by decide +kernel
theorem dM_hash_17 : decode cM_hash 17 = .ok (.imul, 1) := by decide +kernel
theorem dM_hash_18 : decode cM_hash 18 = .ok (.istore_n 1, 1) := by decide +kernel
theorem dM_hash_19 : decode cM_hash 19 = .ok (.iload_n 1, 1) := by decide +kernel
theorem dM_hash_20 : decode cM_hash 20 = .ok (.iload_n 1, 1) := by decide +kernel
theorem dM_hash_21 : decode cM_hash 21 = .ok (.bipush 13, 2) := by decide +kernel
theorem dM_hash_23 : decode cM_hash 23 = .ok (.iushr, 1) := by decide +kernel
theorem dM_hash_24 : decode cM_hash 24 = .ok (.ixor, 1) := by decide +kernel
theorem dM_hash_25 : decode cM_hash 25 = .ok (.ireturn, 1) := by decide +kernel
theorem dM_isSampled_0 : decode cM_isSampled 0 = .ok (.sipush 256, 3) := by decide +kernel
theorem dM_isSampled_3 : decode cM_isSampled 3 = .ok (.aload_n 0, 1) := by decide +kernel
theorem dM_isSampled_4 : decode cM_isSampled 4 = .ok (.getfield 7, 3) := by decide +kernel
theorem dM_isSampled_7 : decode cM_isSampled 7 = .ok (.iload_n 1, 1) := by decide +kernel
theorem dM_isSampled_8 : decode cM_isSampled 8 = .ok (.iaload, 1) := by decide +kernel
theorem dM_isSampled_9 : decode cM_isSampled 9 = .ok (.imul, 1) := by decide +kernel
theorem dM_isSampled_10 : decode cM_isSampled 10 = .ok (.aload_n 0, 1) := by decide +kernel
theorem dM_isSampled_11 : decode cM_isSampled 11 = .ok (.getfield 16, 3) := by decide +kernel
theorem dM_isSampled_14 : decode cM_isSampled 14 = .ok (.iload_n 1, 1) := by decide +kernel
theorem dM_isSampled_15 : decode cM_isSampled 15 = .ok (.iaload, 1) := by decide +kernel
theorem dM_isSampled_16 : decode cM_isSampled 16 = .ok (.iadd, 1) := by decide +kernel
theorem dM_isSampled_17 : decode cM_isSampled 17 = .ok (.invokestatic 54, 3) := by decide +kernel
theorem dM_isSampled_20 : decode cM_isSampled 20 = .ok (.iconst 3, 1) := by decide +kernel
theorem dM_isSampled_21 : decode cM_isSampled 21 = .ok (.iand, 1) := by decide +kernel
theorem dM_isSampled_22 : decode cM_isSampled 22 = .ok (.ifCond .ne 7, 3) := by decide +kernel
theorem dM_isSampled_25 : decode cM_isSampled 25 = .ok (.iconst 1, 1) := by decide +kernel
theorem dM_isSampled_26 : decode cM_isSampled 26 = .ok (.goto 4, 3) := by decide +kernel
theorem dM_isSampled_29 : decode cM_isSampled 29 = .ok (.iconst 0, 1) := by decide +kernel
theorem dM_isSampled_30 : decode cM_isSampled 30 = .ok (.ireturn, 1) := by decide +kernel
theorem dM_pairs_0 : decode cM_pairs 0 = .ok (.lconst 0, 1) := by decide +kernel
theorem dM_pairs_1 : decode cM_pairs 1 = .ok (.lstore 5, 2) := by decide +kernel
theorem dM_pairs_3 : decode cM_pairs 3 = .ok (.iconst 0, 1) := by decide +kernel
theorem dM_pairs_4 : decode cM_pairs 4 = .ok (.istore 7, 2) := by decide +kernel
theorem dM_pairs_6 : decode cM_pairs 6 = .ok (.iload 7, 2) := by decide +kernel
theorem dM_pairs_8 : decode cM_pairs 8 = .ok (.aload_n 0, 1) := by decide +kernel
theorem dM_pairs_9 : decode cM_pairs 9 = .ok (.getfield 29, 3) := by decide +kernel
theorem dM_pairs_12 : decode cM_pairs 12 = .ok (.if_icmp .ge 130, 3) := by decide +kernel
theorem dM_pairs_15 : decode cM_pairs 15 = .ok (.iload_n 3, 1) := by decide +kernel
theorem dM_pairs_16 : decode cM_pairs 16 = .ok (.ifCond .eq 13, 3) := by decide +kernel
theorem dM_pairs_19 : decode cM_pairs 19 = .ok (.aload_n 0, 1) := by decide +kernel
theorem dM_pairs_20 : decode cM_pairs 20 = .ok (.getfield 16, 3) := by decide +kernel
theorem dM_pairs_23 : decode cM_pairs 23 = .ok (.iload 7, 2) := by decide +kernel
theorem dM_pairs_25 : decode cM_pairs 25 = .ok (.iaload, 1) := by decide +kernel
theorem dM_pairs_26 : decode cM_pairs 26 = .ok (.goto 10, 3) := by decide +kernel
theorem dM_pairs_29 : decode cM_pairs 29 = .ok (.aload_n 0, 1) := by decide +kernel
theorem dM_pairs_30 : decode cM_pairs 30 = .ok (.getfield 7, 3) := by decide +kernel
theorem dM_pairs_33 : decode cM_pairs 33 = .ok (.iload 7, 2) := by decide +kernel
theorem dM_pairs_35 : decode cM_pairs 35 = .ok (.iaload, 1) := by decide +kernel
theorem dM_pairs_36 : decode cM_pairs 36 = .ok (.istore 8, 2) := by decide +kernel
theorem dM_pairs_38 : decode cM_pairs 38 = .ok (.iconst 0, 1) := by decide +kernel
theorem dM_pairs_39 : decode cM_pairs 39 = .ok (.istore 9, 2) := by decide +kernel
theorem dM_pairs_41 : decode cM_pairs 41 = .ok (.iload 9, 2) := by decide +kernel
theorem dM_pairs_43 : decode cM_pairs 43 = .ok (.aload_n 0, 1) := by decide +kernel
theorem dM_pairs_44 : decode cM_pairs 44 = .ok (.getfield 29, 3) := by decide +kernel
theorem dM_pairs_47 : decode cM_pairs 47 = .ok (.if_icmp .ge 89, 3) := by decide +kernel
theorem dM_pairs_50 : decode cM_pairs 50 = .ok (.aload_n 0, 1) := by decide +kernel
theorem dM_pairs_51 : decode cM_pairs 51 = .ok (.getfield 13, 3) := by decide +kernel
theorem dM_pairs_54 : decode cM_pairs 54 = .ok (.iload 7, 2) := by decide +kernel
theorem dM_pairs_56 : decode cM_pairs 56 = .ok (.iaload, 1) := by decide +kernel
theorem dM_pairs_57 : decode cM_pairs 57 = .ok (.iload_n 1, 1) := by decide +kernel
theorem dM_pairs_58 : decode cM_pairs 58 = .ok (.if_icmp .ne 78, 3) := by decide +kernel
theorem dM_pairs_61 : decode cM_pairs 61 = .ok (.aload_n 0, 1) := by decide +kernel
theorem dM_pairs_62 : decode cM_pairs 62 = .ok (.getfield 13, 3) := by decide +kernel
theorem dM_pairs_65 : decode cM_pairs 65 = .ok (.iload 9, 2) := by decide +kernel
theorem dM_pairs_67 : decode cM_pairs 67 = .ok (.iaload, 1) := by decide +kernel
theorem dM_pairs_68 : decode cM_pairs 68 = .ok (.iload_n 2, 1) := by decide +kernel
theorem dM_pairs_69 : decode cM_pairs 69 = .ok (.if_icmp .ne 42, 3) := by decide +kernel
theorem dM_pairs_72 : decode cM_pairs 72 = .ok (.aload_n 0, 1) := by decide +kernel
theorem dM_pairs_73 : decode cM_pairs 73 = .ok (.getfield 7, 3) := by decide +kernel
theorem dM_pairs_76 : decode cM_pairs 76 = .ok (.iload 9, 2) := by decide +kernel
theorem dM_pairs_78 : decode cM_pairs 78 = .ok (.iaload, 1) := by decide +kernel
theorem dM_pairs_79 : decode cM_pairs 79 = .ok (.iload 8, 2) := by decide +kernel
theorem dM_pairs_81 : decode cM_pairs 81 = .ok (.if_icmp .ne 30, 3) := by decide +kernel
theorem dM_pairs_84 : decode cM_pairs 84 = .ok (.iload 4, 2) := by decide +kernel
theorem dM_pairs_86 : decode cM_pairs 86 = .ok (.ifCond .eq 21, 3) := by decide +kernel
theorem dM_pairs_89 : decode cM_pairs 89 = .ok (.aload_n 0, 1) := by decide +kernel
theorem dM_pairs_90 : decode cM_pairs 90 = .ok (.iload 7, 2) := by decide +kernel
theorem dM_pairs_92 : decode cM_pairs 92 = .ok (.invokevirtual 57, 3) := by decide +kernel
theorem dM_pairs_95 : decode cM_pairs 95 = .ok (.ifCond .eq 16, 3) := by decide +kernel
theorem dM_pairs_98 : decode cM_pairs 98 = .ok (.aload_n 0, 1) := by decide +kernel
theorem dM_pairs_99 : decode cM_pairs 99 = .ok (.iload 9, 2) := by decide +kernel
theorem dM_pairs_101 : decode cM_pairs 101 = .ok (.invokevirtual 57, 3) := by decide +kernel
theorem dM_pairs_104 : decode cM_pairs 104 = .ok (.ifCond .eq 7, 3) := by decide +kernel
theorem dM_pairs_107 : decode cM_pairs 107 = .ok (.iconst 1, 1) := by decide +kernel
theorem dM_pairs_108 : decode cM_pairs 108 = .ok (.goto 4, 3) := by decide +kernel
theorem dM_pairs_111 : decode cM_pairs 111 = .ok (.iconst 0, 1) := by decide +kernel
theorem dM_pairs_112 : decode cM_pairs 112 = .ok (.istore 10, 2) := by decide +kernel
theorem dM_pairs_114 : decode cM_pairs 114 = .ok (.iload 10, 2) := by decide +kernel
theorem dM_pairs_116 : decode cM_pairs 116 = .ok (.ifCond .eq 10, 3) := by decide +kernel
theorem dM_pairs_119 : decode cM_pairs 119 = .ok (.lload 5, 2) := by decide +kernel
theorem dM_pairs_121 : decode cM_pairs 121 = .ok (.lconst 1, 1) := by decide +kernel
theorem dM_pairs_122 : decode cM_pairs 122 = .ok (.ladd, 1) := by decide +kernel
theorem dM_pairs_123 : decode cM_pairs 123 = .ok (.goto 5, 3) := by decide +kernel
theorem dM_pairs_126 : decode cM_pairs 126 = .ok (.lload 5, 2) := by decide +kernel
theorem dM_pairs_128 : decode cM_pairs 128 = .ok (.lstore 5, 2) := by decide +kernel
theorem dM_pairs_130 : decode cM_pairs 130 = .ok (.iinc 9 1, 3) := by decide +kernel
theorem dM_pairs_133 : decode cM_pairs 133 = .ok (.goto (-92), 3) := by decide +kernel
theorem dM_pairs_136 : decode cM_pairs 136 = .ok (.iinc 7 1, 3) := by decide +kernel
theorem dM_pairs_139 : decode cM_pairs 139 = .ok (.goto (-133), 3) := by decide +kernel
theorem dM_pairs_142 : decode cM_pairs 142 = .ok (.lload 5, 2) := by decide +kernel
theorem dM_pairs_144 : decode cM_pairs 144 = .ok (.lreturn, 1) := by decide +kernel
theorem dM_chain_0 : decode cM_chain 0 = .ok (.iload_n 1, 1) := by decide +kernel
theorem dM_chain_1 : decode cM_chain 1 = .ok (.invokestatic 37, 3) := by decide +kernel
theorem dM_chain_4 : decode cM_chain 4 = .ok (.ifCond .eq 21, 3) := by decide +kernel
theorem dM_chain_7 : decode cM_chain 7 = .ok (.iload_n 2, 1) := by decide +kernel
theorem dM_chain_8 : decode cM_chain 8 = .ok (.invokestatic 37, 3) := by decide +kernel
theorem dM_chain_11 : decode cM_chain 11 = .ok (.ifCond .eq 14, 3) := by decide +kernel
theorem dM_chain_14 : decode cM_chain 14 = .ok (.aload_n 0, 1) := by decide +kernel
theorem dM_chain_15 : decode cM_chain 15 = .ok (.iload_n 1, 1) := by decide +kernel
theorem dM_chain_16 : decode cM_chain 16 = .ok (.iload_n 2, 1) := by decide +kernel
theorem dM_chain_17 : decode cM_chain 17 = .ok (.iconst 1, 1) := by decide +kernel
theorem dM_chain_18 : decode cM_chain 18 = .ok (.iconst 0, 1) := by decide +kernel
theorem dM_chain_19 : decode cM_chain 19 = .ok (.invokevirtual 60, 3) := by decide +kernel
theorem dM_chain_22 : decode cM_chain 22 = .ok (.goto 6, 3) := by decide +kernel
theorem dM_chain_25 : decode cM_chain 25 = .ok (.ldc2_w 64, 3) := by decide +kernel
theorem dM_chain_28 : decode cM_chain 28 = .ok (.lreturn, 1) := by decide +kernel
theorem dM_star_0 : decode cM_star 0 = .ok (.iload_n 1, 1) := by decide +kernel
theorem dM_star_1 : decode cM_star 1 = .ok (.invokestatic 37, 3) := by decide +kernel
theorem dM_star_4 : decode cM_star 4 = .ok (.ifCond .eq 21, 3) := by decide +kernel
theorem dM_star_7 : decode cM_star 7 = .ok (.iload_n 2, 1) := by decide +kernel
theorem dM_star_8 : decode cM_star 8 = .ok (.invokestatic 37, 3) := by decide +kernel
theorem dM_star_11 : decode cM_star 11 = .ok (.ifCond .eq 14, 3) := by decide +kernel
theorem dM_star_14 : decode cM_star 14 = .ok (.aload_n 0, 1) := by decide +kernel
theorem dM_star_15 : decode cM_star 15 = .ok (.iload_n 1, 1) := by decide +kernel
theorem dM_star_16 : decode cM_star 16 = .ok (.iload_n 2, 1) := by decide +kernel
theorem dM_star_17 : decode cM_star 17 = .ok (.iconst 0, 1) := by decide +kernel
theorem dM_star_18 : decode cM_star 18 = .ok (.iconst 0, 1) := by decide +kernel
theorem dM_star_19 : decode cM_star 19 = .ok (.invokevirtual 60, 3) := by decide +kernel
theorem dM_star_22 : decode cM_star 22 = .ok (.goto 6, 3) := by decide +kernel
theorem dM_star_25 : decode cM_star 25 = .ok (.ldc2_w 64, 3) := by decide +kernel
theorem dM_star_28 : decode cM_star 28 = .ok (.lreturn, 1) := by decide +kernel
theorem dM_between_0 : decode cM_between 0 = .ok (.iconst 0, 1) := by decide +kernel
theorem dM_between_1 : decode cM_between 1 = .ok (.istore 4, 2) := by decide +kernel
theorem dM_between_3 : decode cM_between 3 = .ok (.iconst 0, 1) := by decide +kernel
theorem dM_between_4 : decode cM_between 4 = .ok (.istore 5, 2) := by decide +kernel
theorem dM_between_6 : decode cM_between 6 = .ok (.iload 5, 2) := by decide +kernel
theorem dM_between_8 : decode cM_between 8 = .ok (.aload_n 0, 1) := by decide +kernel
theorem dM_between_9 : decode cM_between 9 = .ok (.getfield 29, 3) := by decide +kernel
theorem dM_between_12 : decode cM_between 12 = .ok (.if_icmp .ge 53, 3) := by decide +kernel
theorem dM_between_15 : decode cM_between 15 = .ok (.aload_n 0, 1) := by decide +kernel
theorem dM_between_16 : decode cM_between 16 = .ok (.getfield 13, 3) := by decide +kernel
theorem dM_between_19 : decode cM_between 19 = .ok (.iload 5, 2) := by decide +kernel
theorem dM_between_21 : decode cM_between 21 = .ok (.iaload, 1) := by decide +kernel
theorem dM_between_22 : decode cM_between 22 = .ok (.iload_n 1, 1) := by decide +kernel
theorem dM_between_23 : decode cM_between 23 = .ok (.if_icmp .ne 32, 3) := by decide +kernel
theorem dM_between_26 : decode cM_between 26 = .ok (.aload_n 0, 1) := by decide +kernel
theorem dM_between_27 : decode cM_between 27 = .ok (.getfield 16, 3) := by decide +kernel
theorem dM_between_30 : decode cM_between 30 = .ok (.iload 5, 2) := by decide +kernel
theorem dM_between_32 : decode cM_between 32 = .ok (.iaload, 1) := by decide +kernel
theorem dM_between_33 : decode cM_between 33 = .ok (.iload_n 2, 1) := by decide +kernel
theorem dM_between_34 : decode cM_between 34 = .ok (.if_icmp .lt 21, 3) := by decide +kernel
theorem dM_between_37 : decode cM_between 37 = .ok (.aload_n 0, 1) := by decide +kernel
theorem dM_between_38 : decode cM_between 38 = .ok (.getfield 16, 3) := by decide +kernel
theorem dM_between_41 : decode cM_between 41 = .ok (.iload 5, 2) := by decide +kernel
theorem dM_between_43 : decode cM_between 43 = .ok (.iaload, 1) := by decide +kernel
theorem dM_between_44 : decode cM_between 44 = .ok (.iload_n 3, 1) := by decide +kernel
theorem dM_between_45 : decode cM_between 45 = .ok (.if_icmp .gt 10, 3) := by decide +kernel
theorem dM_between_48 : decode cM_between 48 = .ok (.iload 4, 2) := by decide +kernel
theorem dM_between_50 : decode cM_between 50 = .ok (.iconst 1, 1) := by decide +kernel
theorem dM_between_51 : decode cM_between 51 = .ok (.iadd, 1) := by decide +kernel
theorem dM_between_52 : decode cM_between 52 = .ok (.goto 5, 3) := by decide +kernel
theorem dM_between_55 : decode cM_between 55 = .ok (.iload 4, 2) := by decide +kernel
theorem dM_between_57 : decode cM_between 57 = .ok (.istore 4, 2) := by decide +kernel
theorem dM_between_59 : decode cM_between 59 = .ok (.iinc 5 1, 3) := by decide +kernel
theorem dM_between_62 : decode cM_between 62 = .ok (.goto (-56), 3) := by decide +kernel
theorem dM_between_65 : decode cM_between 65 = .ok (.iload 4, 2) := by decide +kernel
theorem dM_between_67 : decode cM_between 67 = .ok (.ireturn, 1) := by decide +kernel
theorem dM_bucket_0 : decode cM_bucket 0 = .ok (.iload_n 1, 1) := by decide +kernel
theorem dM_bucket_1 : decode cM_bucket 1 = .ok (.invokestatic 37, 3) := by decide +kernel
theorem dM_bucket_4 : decode cM_bucket 4 = .ok (.ifCond .eq 13, 3) := by decide +kernel
theorem dM_bucket_7 : decode cM_bucket 7 = .ok (.aload_n 0, 1) := by decide +kernel
theorem dM_bucket_8 : decode cM_bucket 8 = .ok (.iload_n 1, 1) := by decide +kernel
theorem dM_bucket_9 : decode cM_bucket 9 = .ok (.iload_n 2, 1) := by decide +kernel
theorem dM_bucket_10 : decode cM_bucket 10 = .ok (.iload_n 3, 1) := by decide +kernel
theorem dM_bucket_11 : decode cM_bucket 11 = .ok (.invokevirtual 66, 3) := by decide +kernel
theorem dM_bucket_14 : decode cM_bucket 14 = .ok (.goto 4, 3) := by decide +kernel
theorem dM_bucket_17 : decode cM_bucket 17 = .ok (.iconst (-1), 1) := by decide +kernel
theorem dM_bucket_18 : decode cM_bucket 18 = .ok (.ireturn, 1) := by decide +kernel
theorem dM_quantile_0 : decode cM_quantile 0 = .ok (.iload_n 1, 1) := by decide +kernel
theorem dM_quantile_1 : decode cM_quantile 1 = .ok (.invokestatic 37, 3) := by decide +kernel
theorem dM_quantile_4 : decode cM_quantile 4 = .ok (.ifCond .eq 14, 3) := by decide +kernel
theorem dM_quantile_7 : decode cM_quantile 7 = .ok (.iload_n 2, 1) := by decide +kernel
theorem dM_quantile_8 : decode cM_quantile 8 = .ok (.iconst 1, 1) := by decide +kernel
theorem dM_quantile_9 : decode cM_quantile 9 = .ok (.if_icmp .lt 9, 3) := by decide +kernel
theorem dM_quantile_12 : decode cM_quantile 12 = .ok (.iload_n 2, 1) := by decide +kernel
theorem dM_quantile_13 : decode cM_quantile 13 = .ok (.bipush 8, 2) := by decide +kernel
theorem dM_quantile_15 : decode cM_quantile 15 = .ok (.if_icmp .le 5, 3) := by decide +kernel
theorem dM_quantile_18 : decode cM_quantile 18 = .ok (.iconst (-1), 1) := by decide +kernel
theorem dM_quantile_19 : decode cM_quantile 19 = .ok (.ireturn, 1) := by decide +kernel
theorem dM_quantile_20 : decode cM_quantile 20 = .ok (.aload_n 0, 1) := by decide +kernel
theorem dM_quantile_21 : decode cM_quantile 21 = .ok (.iload_n 1, 1) := by decide +kernel
theorem dM_quantile_22 : decode cM_quantile 22 = .ok (.invokevirtual 44, 3) := by decide +kernel
theorem dM_quantile_25 : decode cM_quantile 25 = .ok (.istore_n 3, 1) := by decide +kernel
theorem dM_quantile_26 : decode cM_quantile 26 = .ok (.iload_n 3, 1) := by decide +kernel
theorem dM_quantile_27 : decode cM_quantile 27 = .ok (.ifCond .ne 6, 3) := by decide +kernel
theorem dM_quantile_30 : decode cM_quantile 30 = .ok (.bipush (-2), 2) := by decide +kernel
theorem dM_quantile_32 : decode cM_quantile 32 = .ok (.ireturn, 1) := by decide +kernel
theorem dM_quantile_33 : decode cM_quantile 33 = .ok (.iconst 0, 1) := by decide +kernel
theorem dM_quantile_34 : decode cM_quantile 34 = .ok (.istore 4, 2) := by decide +kernel
theorem dM_quantile_36 : decode cM_quantile 36 = .ok (.bipush 8, 2) := by decide +kernel
theorem dM_quantile_38 : decode cM_quantile 38 = .ok (.aload_n 0, 1) := by decide +kernel
theorem dM_quantile_39 : decode cM_quantile 39 = .ok (.iload_n 1, 1) := by decide +kernel
theorem dM_quantile_40 : decode cM_quantile 40 = .ok (.iconst 0, 1) := by decide +kernel
theorem dM_quantile_41 : decode cM_quantile 41 = .ok (.iload 4, 2) := by decide +kernel
theorem dM_quantile_43 : decode cM_quantile 43 = .ok (.invokevirtual 66, 3) := by decide +kernel
theorem dM_quantile_46 : decode cM_quantile 46 = .ok (.imul, 1) := by decide +kernel
theorem dM_quantile_47 : decode cM_quantile 47 = .ok (.iload_n 2, 1) := by decide +kernel
theorem dM_quantile_48 : decode cM_quantile 48 = .ok (.iload_n 3, 1) := by decide +kernel
theorem dM_quantile_49 : decode cM_quantile 49 = .ok (.imul, 1) := by decide +kernel
theorem dM_quantile_50 : decode cM_quantile 50 = .ok (.if_icmp .ge 9, 3) := by decide +kernel
theorem dM_quantile_53 : decode cM_quantile 53 = .ok (.iinc 4 1, 3) := by decide +kernel
theorem dM_quantile_56 : decode cM_quantile 56 = .ok (.goto (-20), 3) := by decide +kernel
theorem dM_quantile_59 : decode cM_quantile 59 = .ok (.iload 4, 2) := by decide +kernel
theorem dM_quantile_61 : decode cM_quantile 61 = .ok (.ireturn, 1) := by decide +kernel
theorem dM_registerOf_0 : decode cM_registerOf 0 = .ok (.iconst 0, 1) := by decide +kernel
theorem dM_registerOf_1 : decode cM_registerOf 1 = .ok (.istore_n 3, 1) := by decide +kernel
theorem dM_registerOf_2 : decode cM_registerOf 2 = .ok (.iconst 0, 1) := by decide +kernel
theorem dM_registerOf_3 : decode cM_registerOf 3 = .ok (.istore 4, 2) := by decide +kernel
theorem dM_registerOf_5 : decode cM_registerOf 5 = .ok (.iload 4, 2) := by decide +kernel
theorem dM_registerOf_7 : decode cM_registerOf 7 = .ok (.aload_n 0, 1) := by decide +kernel
theorem dM_registerOf_8 : decode cM_registerOf 8 = .ok (.getfield 29, 3) := by decide +kernel
theorem dM_registerOf_11 : decode cM_registerOf 11 = .ok (.if_icmp .ge 86, 3) := by decide +kernel
theorem dM_registerOf_14 : decode cM_registerOf 14 = .ok (.aload_n 0, 1) := by decide +kernel
theorem dM_registerOf_15 : decode cM_registerOf 15 = .ok (.getfield 7, 3) := by decide +kernel
theorem dM_registerOf_18 : decode cM_registerOf 18 = .ok (.iload 4, 2) := by decide +kernel
theorem dM_registerOf_20 : decode cM_registerOf 20 = .ok (.iaload, 1) := by decide +kernel
theorem dM_registerOf_21 : decode cM_registerOf 21 = .ok (.invokestatic 54, 3) := by decide +kernel
theorem dM_registerOf_24 : decode cM_registerOf 24 = .ok (.istore 5, 2) := by decide +kernel
theorem dM_registerOf_26 : decode cM_registerOf 26 = .ok (.iload_n 1, 1) := by decide +kernel
theorem dM_registerOf_27 : decode cM_registerOf 27 = .ok (.aload_n 0, 1) := by decide +kernel
theorem dM_registerOf_28 : decode cM_registerOf 28 = .ok (.getfield 13, 3) := by decide +kernel
theorem dM_registerOf_31 : decode cM_registerOf 31 = .ok (.iload 4, 2) := by decide +kernel
theorem dM_registerOf_33 : decode cM_registerOf 33 = .ok (.iaload, 1) := by decide +kernel
theorem dM_registerOf_34 : decode cM_registerOf 34 = .ok (.ishr, 1) := by decide +kernel
theorem dM_registerOf_35 : decode cM_registerOf 35 = .ok (.iconst 1, 1) := by decide +kernel
theorem dM_registerOf_36 : decode cM_registerOf 36 = .ok (.iand, 1) := by decide +kernel
theorem dM_registerOf_37 : decode cM_registerOf 37 = .ok (.iconst 1, 1) := by decide +kernel
theorem dM_registerOf_38 : decode cM_registerOf 38 = .ok (.if_icmp .ne 53, 3) := by decide +kernel
theorem dM_registerOf_41 : decode cM_registerOf 41 = .ok (.iload 5, 2) := by decide +kernel
theorem dM_registerOf_43 : decode cM_registerOf 43 = .ok (.bipush 15, 2) := by decide +kernel
theorem dM_registerOf_45 : decode cM_registerOf 45 = .ok (.iand, 1) := by decide +kernel
theorem dM_registerOf_46 : decode cM_registerOf 46 = .ok (.iload_n 2, 1) := by decide +kernel
theorem dM_registerOf_47 : decode cM_registerOf 47 = .ok (.if_icmp .ne 44, 3) := by decide +kernel
theorem dM_registerOf_50 : decode cM_registerOf 50 = .ok (.iconst 1, 1) := by decide +kernel
theorem dM_registerOf_51 : decode cM_registerOf 51 = .ok (.istore 6, 2) := by decide +kernel
theorem dM_registerOf_53 : decode cM_registerOf 53 = .ok (.iload 6, 2) := by decide +kernel
theorem dM_registerOf_55 : decode cM_registerOf 55 = .ok (.bipush 29, 2) := by decide +kernel
theorem dM_registerOf_57 : decode cM_registerOf 57 = .ok (.if_icmp .ge 21, 3) := by decide +kernel
theorem dM_registerOf_60 : decode cM_registerOf 60 = .ok (.iload 5, 2) := by decide +kernel
theorem dM_registerOf_62 : decode cM_registerOf 62 = .ok (.iconst 3, 1) := by decide +kernel
theorem dM_registerOf_63 : decode cM_registerOf 63 = .ok (.iload 6, 2) := by decide +kernel
theorem dM_registerOf_65 : decode cM_registerOf 65 = .ok (.iadd, 1) := by decide +kernel
theorem dM_registerOf_66 : decode cM_registerOf 66 = .ok (.iushr, 1) := by decide +kernel
theorem dM_registerOf_67 : decode cM_registerOf 67 = .ok (.iconst 1, 1) := by decide +kernel
theorem dM_registerOf_68 : decode cM_registerOf 68 = .ok (.iand, 1) := by decide +kernel
theorem dM_registerOf_69 : decode cM_registerOf 69 = .ok (.ifCond .ne 9, 3) := by decide +kernel
theorem dM_registerOf_72 : decode cM_registerOf 72 = .ok (.iinc 6 1, 3) := by decide +kernel
theorem dM_registerOf_75 : decode cM_registerOf 75 = .ok (.goto (-22), 3) := by decide +kernel
theorem dM_registerOf_78 : decode cM_registerOf 78 = .ok (.iload 6, 2) := by decide +kernel
theorem dM_registerOf_80 : decode cM_registerOf 80 = .ok (.iload_n 3, 1) := by decide +kernel
theorem dM_registerOf_81 : decode cM_registerOf 81 = .ok (.if_icmp .le 8, 3) := by decide +kernel
theorem dM_registerOf_84 : decode cM_registerOf 84 = .ok (.iload 6, 2) := by decide +kernel
theorem dM_registerOf_86 : decode cM_registerOf 86 = .ok (.goto 4, 3) := by decide +kernel
theorem dM_registerOf_89 : decode cM_registerOf 89 = .ok (.iload_n 3, 1) := by decide +kernel
theorem dM_registerOf_90 : decode cM_registerOf 90 = .ok (.istore_n 3, 1) := by decide +kernel
theorem dM_registerOf_91 : decode cM_registerOf 91 = .ok (.iinc 4 1, 3) := by decide +kernel
theorem dM_registerOf_94 : decode cM_registerOf 94 = .ok (.goto (-89), 3) := by decide +kernel
theorem dM_registerOf_97 : decode cM_registerOf 97 = .ok (.iload_n 3, 1) := by decide +kernel
theorem dM_registerOf_98 : decode cM_registerOf 98 = .ok (.ireturn, 1) := by decide +kernel
theorem dM_areBits_0 : decode cM_areBits 0 = .ok (.iload_n 0, 1) := by decide +kernel
theorem dM_areBits_1 : decode cM_areBits 1 = .ok (.ifCond .lt 14, 3) := by decide +kernel
theorem dM_areBits_4 : decode cM_areBits 4 = .ok (.iload_n 0, 1) := by decide +kernel
theorem dM_areBits_5 : decode cM_areBits 5 = .ok (.sipush 256, 3) := by decide +kernel
theorem dM_areBits_8 : decode cM_areBits 8 = .ok (.if_icmp .ge 7, 3) := by decide +kernel
theorem dM_areBits_11 : decode cM_areBits 11 = .ok (.iconst 1, 1) := by decide +kernel
theorem dM_areBits_12 : decode cM_areBits 12 = .ok (.goto 4, 3) := by decide +kernel
theorem dM_areBits_15 : decode cM_areBits 15 = .ok (.iconst 0, 1) := by decide +kernel
theorem dM_areBits_16 : decode cM_areBits 16 = .ok (.ireturn, 1) := by decide +kernel
theorem dM_register_0 : decode cM_register 0 = .ok (.iload_n 1, 1) := by decide +kernel
theorem dM_register_1 : decode cM_register 1 = .ok (.invokestatic 69, 3) := by decide +kernel
theorem dM_register_4 : decode cM_register 4 = .ok (.ifCond .eq 13, 3) := by decide +kernel
theorem dM_register_7 : decode cM_register 7 = .ok (.iload_n 2, 1) := by decide +kernel
theorem dM_register_8 : decode cM_register 8 = .ok (.ifCond .lt 9, 3) := by decide +kernel
theorem dM_register_11 : decode cM_register 11 = .ok (.iload_n 2, 1) := by decide +kernel
theorem dM_register_12 : decode cM_register 12 = .ok (.bipush 15, 2) := by decide +kernel
theorem dM_register_14 : decode cM_register 14 = .ok (.if_icmp .le 7, 3) := by decide +kernel
theorem dM_register_17 : decode cM_register 17 = .ok (.iconst (-1), 1) := by decide +kernel
theorem dM_register_18 : decode cM_register 18 = .ok (.goto 9, 3) := by decide +kernel
theorem dM_register_21 : decode cM_register 21 = .ok (.aload_n 0, 1) := by decide +kernel
theorem dM_register_22 : decode cM_register 22 = .ok (.iload_n 1, 1) := by decide +kernel
theorem dM_register_23 : decode cM_register 23 = .ok (.iload_n 2, 1) := by decide +kernel
theorem dM_register_24 : decode cM_register 24 = .ok (.invokevirtual 72, 3) := by decide +kernel
theorem dM_register_27 : decode cM_register 27 = .ok (.ireturn, 1) := by decide +kernel
theorem dM_aboutFew_0 : decode cM_aboutFew 0 = .ok (.iload_n 0, 1) := by decide +kernel
theorem dM_aboutFew_1 : decode cM_aboutFew 1 = .ok (.tableswitch 115 1 15 #[75, 78, 81, 84, 87, 90, 93, 96, 99, 102, 105, 107, 109, 111, 113], 75) := by decide +kernel
theorem dM_aboutFew_76 : decode cM_aboutFew 76 = .ok (.bipush 44, 2) := by decide +kernel
theorem dM_aboutFew_78 : decode cM_aboutFew 78 = .ok (.ireturn, 1) := by decide +kernel
theorem dM_aboutFew_79 : decode cM_aboutFew 79 = .ok (.bipush 33, 2) := by decide +kernel
theorem dM_aboutFew_81 : decode cM_aboutFew 81 = .ok (.ireturn, 1) := by decide +kernel
theorem dM_aboutFew_82 : decode cM_aboutFew 82 = .ok (.bipush 26, 2) := by decide +kernel
theorem dM_aboutFew_84 : decode cM_aboutFew 84 = .ok (.ireturn, 1) := by decide +kernel
theorem dM_aboutFew_85 : decode cM_aboutFew 85 = .ok (.bipush 22, 2) := by decide +kernel
theorem dM_aboutFew_87 : decode cM_aboutFew 87 = .ok (.ireturn, 1) := by decide +kernel
theorem dM_aboutFew_88 : decode cM_aboutFew 88 = .ok (.bipush 18, 2) := by decide +kernel
theorem dM_aboutFew_90 : decode cM_aboutFew 90 = .ok (.ireturn, 1) := by decide +kernel
theorem dM_aboutFew_91 : decode cM_aboutFew 91 = .ok (.bipush 15, 2) := by decide +kernel
theorem dM_aboutFew_93 : decode cM_aboutFew 93 = .ok (.ireturn, 1) := by decide +kernel
theorem dM_aboutFew_94 : decode cM_aboutFew 94 = .ok (.bipush 13, 2) := by decide +kernel
theorem dM_aboutFew_96 : decode cM_aboutFew 96 = .ok (.ireturn, 1) := by decide +kernel
theorem dM_aboutFew_97 : decode cM_aboutFew 97 = .ok (.bipush 11, 2) := by decide +kernel
theorem dM_aboutFew_99 : decode cM_aboutFew 99 = .ok (.ireturn, 1) := by decide +kernel
theorem dM_aboutFew_100 : decode cM_aboutFew 100 = .ok (.bipush 9, 2) := by decide +kernel
theorem dM_aboutFew_102 : decode cM_aboutFew 102 = .ok (.ireturn, 1) := by decide +kernel
theorem dM_aboutFew_103 : decode cM_aboutFew 103 = .ok (.bipush 7, 2) := by decide +kernel
theorem dM_aboutFew_105 : decode cM_aboutFew 105 = .ok (.ireturn, 1) := by decide +kernel
theorem dM_aboutFew_106 : decode cM_aboutFew 106 = .ok (.iconst 5, 1) := by decide +kernel
theorem dM_aboutFew_107 : decode cM_aboutFew 107 = .ok (.ireturn, 1) := by decide +kernel
theorem dM_aboutFew_108 : decode cM_aboutFew 108 = .ok (.iconst 4, 1) := by decide +kernel
theorem dM_aboutFew_109 : decode cM_aboutFew 109 = .ok (.ireturn, 1) := by decide +kernel
theorem dM_aboutFew_110 : decode cM_aboutFew 110 = .ok (.iconst 3, 1) := by decide +kernel
theorem dM_aboutFew_111 : decode cM_aboutFew 111 = .ok (.ireturn, 1) := by decide +kernel
theorem dM_aboutFew_112 : decode cM_aboutFew 112 = .ok (.iconst 2, 1) := by decide +kernel
theorem dM_aboutFew_113 : decode cM_aboutFew 113 = .ok (.ireturn, 1) := by decide +kernel
theorem dM_aboutFew_114 : decode cM_aboutFew 114 = .ok (.iconst 1, 1) := by decide +kernel
theorem dM_aboutFew_115 : decode cM_aboutFew 115 = .ok (.ireturn, 1) := by decide +kernel
theorem dM_aboutFew_116 : decode cM_aboutFew 116 = .ok (.iconst 0, 1) := by decide +kernel
theorem dM_aboutFew_117 : decode cM_aboutFew 117 = .ok (.ireturn, 1) := by decide +kernel
theorem dM_distinct_0 : decode cM_distinct 0 = .ok (.iload_n 1, 1) := by decide +kernel
theorem dM_distinct_1 : decode cM_distinct 1 = .ok (.invokestatic 69, 3) := by decide +kernel
theorem dM_distinct_4 : decode cM_distinct 4 = .ok (.ifCond .eq 7, 3) := by decide +kernel
theorem dM_distinct_7 : decode cM_distinct 7 = .ok (.iload_n 2, 1) := by decide +kernel
theorem dM_distinct_8 : decode cM_distinct 8 = .ok (.ifCond .ge 7, 3) := by decide +kernel
theorem dM_distinct_11 : decode cM_distinct 11 = .ok (.ldc2_w 64, 3) := by decide +kernel
theorem dM_distinct_14 : decode cM_distinct 14 = .ok (.lreturn, 1) := by decide +kernel
theorem dM_distinct_15 : decode cM_distinct 15 = .ok (.aload_n 0, 1) := by decide +kernel
theorem dM_distinct_16 : decode cM_distinct 16 = .ok (.iload_n 1, 1) := by decide +kernel
theorem dM_distinct_17 : decode cM_distinct 17 = .ok (.iconst 1, 1) := by decide +kernel
theorem dM_distinct_18 : decode cM_distinct 18 = .ok (.invokevirtual 48, 3) := by decide +kernel
theorem dM_distinct_21 : decode cM_distinct 21 = .ok (.istore_n 3, 1) := by decide +kernel
theorem dM_distinct_22 : decode cM_distinct 22 = .ok (.iload_n 3, 1) := by decide +kernel
theorem dM_distinct_23 : decode cM_distinct 23 = .ok (.iload_n 2, 1) := by decide +kernel
theorem dM_distinct_24 : decode cM_distinct 24 = .ok (.if_icmp .gt 6, 3) := by decide +kernel
theorem dM_distinct_27 : decode cM_distinct 27 = .ok (.iload_n 3, 1) := by decide +kernel
theorem dM_distinct_28 : decode cM_distinct 28 = .ok (.i2l, 1) := by decide +kernel
theorem dM_distinct_29 : decode cM_distinct 29 = .ok (.lreturn, 1) := by decide +kernel
theorem dM_distinct_30 : decode cM_distinct 30 = .ok (.iconst 0, 1) := by decide +kernel
theorem dM_distinct_31 : decode cM_distinct 31 = .ok (.istore 4, 2) := by decide +kernel
theorem dM_distinct_33 : decode cM_distinct 33 = .ok (.lconst 0, 1) := by decide +kernel
theorem dM_distinct_34 : decode cM_distinct 34 = .ok (.lstore 5, 2) := by decide +kernel
theorem dM_distinct_36 : decode cM_distinct 36 = .ok (.iconst 0, 1) := by decide +kernel
theorem dM_distinct_37 : decode cM_distinct 37 = .ok (.istore 7, 2) := by decide +kernel
theorem dM_distinct_39 : decode cM_distinct 39 = .ok (.iload 7, 2) := by decide +kernel
theorem dM_distinct_41 : decode cM_distinct 41 = .ok (.bipush 16, 2) := by decide +kernel
theorem dM_distinct_43 : decode cM_distinct 43 = .ok (.if_icmp .ge 46, 3) := by decide +kernel
theorem dM_distinct_46 : decode cM_distinct 46 = .ok (.aload_n 0, 1) := by decide +kernel
theorem dM_distinct_47 : decode cM_distinct 47 = .ok (.iload_n 1, 1) := by decide +kernel
theorem dM_distinct_48 : decode cM_distinct 48 = .ok (.iload 7, 2) := by decide +kernel
theorem dM_distinct_50 : decode cM_distinct 50 = .ok (.invokevirtual 72, 3) := by decide +kernel
theorem dM_distinct_53 : decode cM_distinct 53 = .ok (.istore 8, 2) := by decide +kernel
theorem dM_distinct_55 : decode cM_distinct 55 = .ok (.iload 8, 2) := by decide +kernel
theorem dM_distinct_57 : decode cM_distinct 57 = .ok (.ifCond .ne 10, 3) := by decide +kernel
theorem dM_distinct_60 : decode cM_distinct 60 = .ok (.iload 4, 2) := by decide +kernel
theorem dM_distinct_62 : decode cM_distinct 62 = .ok (.iconst 1, 1) := by decide +kernel
theorem dM_distinct_63 : decode cM_distinct 63 = .ok (.iadd, 1) := by decide +kernel
theorem dM_distinct_64 : decode cM_distinct 64 = .ok (.goto 5, 3) := by decide +kernel
theorem dM_distinct_67 : decode cM_distinct 67 = .ok (.iload 4, 2) := by decide +kernel
theorem dM_distinct_69 : decode cM_distinct 69 = .ok (.istore 4, 2) := by decide +kernel
theorem dM_distinct_71 : decode cM_distinct 71 = .ok (.lload 5, 2) := by decide +kernel
theorem dM_distinct_73 : decode cM_distinct 73 = .ok (.lconst 1, 1) := by decide +kernel
theorem dM_distinct_74 : decode cM_distinct 74 = .ok (.bipush 30, 2) := by decide +kernel
theorem dM_distinct_76 : decode cM_distinct 76 = .ok (.iload 8, 2) := by decide +kernel
theorem dM_distinct_78 : decode cM_distinct 78 = .ok (.isub, 1) := by decide +kernel
theorem dM_distinct_79 : decode cM_distinct 79 = .ok (.lshl, 1) := by decide +kernel
theorem dM_distinct_80 : decode cM_distinct 80 = .ok (.ladd, 1) := by decide +kernel
theorem dM_distinct_81 : decode cM_distinct 81 = .ok (.lstore 5, 2) := by decide +kernel
theorem dM_distinct_83 : decode cM_distinct 83 = .ok (.iinc 7 1, 3) := by decide +kernel
theorem dM_distinct_86 : decode cM_distinct 86 = .ok (.goto (-47), 3) := by decide +kernel
theorem dM_distinct_89 : decode cM_distinct 89 = .ok (.iload 4, 2) := by decide +kernel
theorem dM_distinct_91 : decode cM_distinct 91 = .ok (.ifCond .le 12, 3) := by decide +kernel
theorem dM_distinct_94 : decode cM_distinct 94 = .ok (.iload 4, 2) := by decide +kernel
theorem dM_distinct_96 : decode cM_distinct 96 = .ok (.invokestatic 76, 3) := by decide +kernel
theorem dM_distinct_99 : decode cM_distinct 99 = .ok (.i2l, 1) := by decide +kernel
theorem dM_distinct_100 : decode cM_distinct 100 = .ok (.goto 13, 3) := by decide +kernel
theorem dM_distinct_103 : decode cM_distinct 103 = .ok (.ldc2_w 79, 3) := by decide +kernel
theorem dM_distinct_106 : decode cM_distinct 106 = .ok (.ldc2_w 81, 3) := by decide +kernel
theorem dM_distinct_109 : decode cM_distinct 109 = .ok (.lload 5, 2) := by decide +kernel
theorem dM_distinct_111 : decode cM_distinct 111 = .ok (.lmul, 1) := by decide +kernel
theorem dM_distinct_112 : decode cM_distinct 112 = .ok (.ldiv, 1) := by decide +kernel
theorem dM_distinct_113 : decode cM_distinct 113 = .ok (.lreturn, 1) := by decide +kernel
theorem dM_greatest_0 : decode cM_greatest 0 = .ok (.iload_n 0, 1) := by decide +kernel
theorem dM_greatest_1 : decode cM_greatest 1 = .ok (.iload_n 1, 1) := by decide +kernel
theorem dM_greatest_2 : decode cM_greatest 2 = .ok (.if_icmp .le 7, 3) := by decide +kernel
theorem dM_greatest_5 : decode cM_greatest 5 = .ok (.iload_n 0, 1) := by decide +kernel
theorem dM_greatest_6 : decode cM_greatest 6 = .ok (.goto 4, 3) := by decide +kernel
theorem dM_greatest_9 : decode cM_greatest 9 = .ok (.iload_n 1, 1) := by decide +kernel
theorem dM_greatest_10 : decode cM_greatest 10 = .ok (.istore_n 2, 1) := by decide +kernel
theorem dM_greatest_11 : decode cM_greatest 11 = .ok (.iload_n 2, 1) := by decide +kernel
theorem dM_greatest_12 : decode cM_greatest 12 = .ok (.iconst 1, 1) := by decide +kernel
theorem dM_greatest_13 : decode cM_greatest 13 = .ok (.if_icmp .le 7, 3) := by decide +kernel
theorem dM_greatest_16 : decode cM_greatest 16 = .ok (.iload_n 2, 1) := by decide +kernel
theorem dM_greatest_17 : decode cM_greatest 17 = .ok (.goto 4, 3) := by decide +kernel
theorem dM_greatest_20 : decode cM_greatest 20 = .ok (.iconst 1, 1) := by decide +kernel
theorem dM_greatest_21 : decode cM_greatest 21 = .ok (.ireturn, 1) := by decide +kernel
theorem dM_estimate_0 : decode cM_estimate 0 = .ok (.iload_n 1, 1) := by decide +kernel
theorem dM_estimate_1 : decode cM_estimate 1 = .ok (.ifCond .lt 27, 3) := by decide +kernel
theorem dM_estimate_4 : decode cM_estimate 4 = .ok (.iload_n 1, 1) := by decide +kernel
theorem dM_estimate_5 : decode cM_estimate 5 = .ok (.iconst 4, 1) := by decide +kernel
theorem dM_estimate_6 : decode cM_estimate 6 = .ok (.if_icmp .gt 22, 3) := by decide +kernel
theorem dM_estimate_9 : decode cM_estimate 9 = .ok (.iload_n 2, 1) := by decide +kernel
theorem dM_estimate_10 : decode cM_estimate 10 = .ok (.invokestatic 37, 3) := by decide +kernel
theorem dM_estimate_13 : decode cM_estimate 13 = .ok (.ifCond .eq 15, 3) := by decide +kernel
theorem dM_estimate_16 : decode cM_estimate 16 = .ok (.iload_n 1, 1) := by decide +kernel
theorem dM_estimate_17 : decode cM_estimate 17 = .ok (.iconst 3, 1) := by decide +kernel
theorem dM_estimate_18 : decode cM_estimate 18 = .ok (.if_icmp .eq 14, 3) := by decide +kernel
theorem dM_estimate_21 : decode cM_estimate 21 = .ok (.iload_n 3, 1) := by decide +kernel
theorem dM_estimate_22 : decode cM_estimate 22 = .ok (.invokestatic 37, 3) := by decide +kernel
theorem dM_estimate_25 : decode cM_estimate 25 = .ok (.ifCond .ne 7, 3) := by decide +kernel
theorem dM_estimate_28 : decode cM_estimate 28 = .ok (.ldc2_w 64, 3) := by decide +kernel
theorem dM_estimate_31 : decode cM_estimate 31 = .ok (.lreturn, 1) := by decide +kernel
theorem dM_estimate_32 : decode cM_estimate 32 = .ok (.iload_n 1, 1) := by decide +kernel
theorem dM_estimate_33 : decode cM_estimate 33 = .ok (.iconst 3, 1) := by decide +kernel
theorem dM_estimate_34 : decode cM_estimate 34 = .ok (.if_icmp .ne 12, 3) := by decide +kernel
theorem dM_estimate_37 : decode cM_estimate 37 = .ok (.aload_n 0, 1) := by decide +kernel
theorem dM_estimate_38 : decode cM_estimate 38 = .ok (.iload_n 2, 1) := by decide +kernel
theorem dM_estimate_39 : decode cM_estimate 39 = .ok (.invokevirtual 44, 3) := by decide +kernel
theorem dM_estimate_42 : decode cM_estimate 42 = .ok (.iconst 3, 1) := by decide +kernel
theorem dM_estimate_43 : decode cM_estimate 43 = .ok (.idiv, 1) := by decide +kernel
theorem dM_estimate_44 : decode cM_estimate 44 = .ok (.i2l, 1) := by decide +kernel
theorem dM_estimate_45 : decode cM_estimate 45 = .ok (.lreturn, 1) := by decide +kernel
theorem dM_estimate_46 : decode cM_estimate 46 = .ok (.iload_n 1, 1) := by decide +kernel
theorem dM_estimate_47 : decode cM_estimate 47 = .ok (.iconst 4, 1) := by decide +kernel
theorem dM_estimate_48 : decode cM_estimate 48 = .ok (.if_icmp .ne 16, 3) := by decide +kernel
theorem dM_estimate_51 : decode cM_estimate 51 = .ok (.ldc2_w 83, 3) := by decide +kernel
theorem dM_estimate_54 : decode cM_estimate 54 = .ok (.aload_n 0, 1) := by decide +kernel
theorem dM_estimate_55 : decode cM_estimate 55 = .ok (.iload_n 2, 1) := by decide +kernel
theorem dM_estimate_56 : decode cM_estimate 56 = .ok (.iload_n 3, 1) := by decide +kernel
theorem dM_estimate_57 : decode cM_estimate 57 = .ok (.iconst 1, 1) := by decide +kernel
theorem dM_estimate_58 : decode cM_estimate 58 = .ok (.iconst 1, 1) := by decide +kernel
theorem dM_estimate_59 : decode cM_estimate 59 = .ok (.invokevirtual 60, 3) := by decide +kernel
theorem dM_estimate_62 : decode cM_estimate 62 = .ok (.lmul, 1) := by decide +kernel
theorem dM_estimate_63 : decode cM_estimate 63 = .ok (.lreturn, 1) := by decide +kernel
theorem dM_estimate_64 : decode cM_estimate 64 = .ok (.aload_n 0, 1) := by decide +kernel
theorem dM_estimate_65 : decode cM_estimate 65 = .ok (.iload_n 2, 1) := by decide +kernel
theorem dM_estimate_66 : decode cM_estimate 66 = .ok (.invokevirtual 44, 3) := by decide +kernel
theorem dM_estimate_69 : decode cM_estimate 69 = .ok (.i2l, 1) := by decide +kernel
theorem dM_estimate_70 : decode cM_estimate 70 = .ok (.aload_n 0, 1) := by decide +kernel
theorem dM_estimate_71 : decode cM_estimate 71 = .ok (.iload_n 3, 1) := by decide +kernel
theorem dM_estimate_72 : decode cM_estimate 72 = .ok (.invokevirtual 44, 3) := by decide +kernel
theorem dM_estimate_75 : decode cM_estimate 75 = .ok (.i2l, 1) := by decide +kernel
theorem dM_estimate_76 : decode cM_estimate 76 = .ok (.lmul, 1) := by decide +kernel
theorem dM_estimate_77 : decode cM_estimate 77 = .ok (.lstore 4, 2) := by decide +kernel
theorem dM_estimate_79 : decode cM_estimate 79 = .ok (.lload 4, 2) := by decide +kernel
theorem dM_estimate_81 : decode cM_estimate 81 = .ok (.aload_n 0, 1) := by decide +kernel
theorem dM_estimate_82 : decode cM_estimate 82 = .ok (.iconst 1, 1) := by decide +kernel
theorem dM_estimate_83 : decode cM_estimate 83 = .ok (.iload_n 2, 1) := by decide +kernel
theorem dM_estimate_84 : decode cM_estimate 84 = .ok (.ishl, 1) := by decide +kernel
theorem dM_estimate_85 : decode cM_estimate 85 = .ok (.iconst 0, 1) := by decide +kernel
theorem dM_estimate_86 : decode cM_estimate 86 = .ok (.invokevirtual 48, 3) := by decide +kernel
theorem dM_estimate_89 : decode cM_estimate 89 = .ok (.aload_n 0, 1) := by decide +kernel
theorem dM_estimate_90 : decode cM_estimate 90 = .ok (.iconst 1, 1) := by decide +kernel
theorem dM_estimate_91 : decode cM_estimate 91 = .ok (.iload_n 3, 1) := by decide +kernel
theorem dM_estimate_92 : decode cM_estimate 92 = .ok (.ishl, 1) := by decide +kernel
theorem dM_estimate_93 : decode cM_estimate 93 = .ok (.iconst 1, 1) := by decide +kernel
theorem dM_estimate_94 : decode cM_estimate 94 = .ok (.invokevirtual 48, 3) := by decide +kernel
theorem dM_estimate_97 : decode cM_estimate 97 = .ok (.invokestatic 85, 3) := by decide +kernel
theorem dM_estimate_100 : decode cM_estimate 100 = .ok (.i2l, 1) := by decide +kernel
theorem dM_estimate_101 : decode cM_estimate 101 = .ok (.ldiv, 1) := by decide +kernel
theorem dM_estimate_102 : decode cM_estimate 102 = .ok (.lstore 6, 2) := by decide +kernel
theorem dM_estimate_104 : decode cM_estimate 104 = .ok (.lload 4, 2) := by decide +kernel
theorem dM_estimate_106 : decode cM_estimate 106 = .ok (.aload_n 0, 1) := by decide +kernel
theorem dM_estimate_107 : decode cM_estimate 107 = .ok (.iconst 1, 1) := by decide +kernel
theorem dM_estimate_108 : decode cM_estimate 108 = .ok (.iload_n 2, 1) := by decide +kernel
theorem dM_estimate_109 : decode cM_estimate 109 = .ok (.ishl, 1) := by decide +kernel
theorem dM_estimate_110 : decode cM_estimate 110 = .ok (.iconst 1, 1) := by decide +kernel
theorem dM_estimate_111 : decode cM_estimate 111 = .ok (.invokevirtual 48, 3) := by decide +kernel
theorem dM_estimate_114 : decode cM_estimate 114 = .ok (.aload_n 0, 1) := by decide +kernel
theorem dM_estimate_115 : decode cM_estimate 115 = .ok (.iconst 1, 1) := by decide +kernel
theorem dM_estimate_116 : decode cM_estimate 116 = .ok (.iload_n 3, 1) := by decide +kernel
theorem dM_estimate_117 : decode cM_estimate 117 = .ok (.ishl, 1) := by decide +kernel
theorem dM_estimate_118 : decode cM_estimate 118 = .ok (.iconst 1, 1) := by decide +kernel
theorem dM_estimate_119 : decode cM_estimate 119 = .ok (.invokevirtual 48, 3) := by decide +kernel
theorem dM_estimate_122 : decode cM_estimate 122 = .ok (.invokestatic 85, 3) := by decide +kernel
theorem dM_estimate_125 : decode cM_estimate 125 = .ok (.i2l, 1) := by decide +kernel
theorem dM_estimate_126 : decode cM_estimate 126 = .ok (.ldiv, 1) := by decide +kernel
theorem dM_estimate_127 : decode cM_estimate 127 = .ok (.lstore 8, 2) := by decide +kernel
theorem dM_estimate_129 : decode cM_estimate 129 = .ok (.iload_n 1, 1) := by decide +kernel
theorem dM_estimate_130 : decode cM_estimate 130 = .ok (.ifCond .ne 8, 3) := by decide +kernel
theorem dM_estimate_133 : decode cM_estimate 133 = .ok (.lload 6, 2) := by decide +kernel
theorem dM_estimate_135 : decode cM_estimate 135 = .ok (.goto 25, 3) := by decide +kernel
theorem dM_estimate_138 : decode cM_estimate 138 = .ok (.iload_n 1, 1) := by decide +kernel
theorem dM_estimate_139 : decode cM_estimate 139 = .ok (.iconst 1, 1) := by decide +kernel
theorem dM_estimate_140 : decode cM_estimate 140 = .ok (.if_icmp .ne 8, 3) := by decide +kernel
theorem dM_estimate_143 : decode cM_estimate 143 = .ok (.lload 8, 2) := by decide +kernel
theorem dM_estimate_145 : decode cM_estimate 145 = .ok (.goto 15, 3) := by decide +kernel
theorem dM_estimate_148 : decode cM_estimate 148 = .ok (.aload_n 0, 1) := by decide +kernel
theorem dM_estimate_149 : decode cM_estimate 149 = .ok (.iload_n 2, 1) := by decide +kernel
theorem dM_estimate_150 : decode cM_estimate 150 = .ok (.invokevirtual 44, 3) := by decide +kernel
theorem dM_estimate_153 : decode cM_estimate 153 = .ok (.aload_n 0, 1) := by decide +kernel
theorem dM_estimate_154 : decode cM_estimate 154 = .ok (.iload_n 3, 1) := by decide +kernel
theorem dM_estimate_155 : decode cM_estimate 155 = .ok (.invokevirtual 44, 3) := by decide +kernel
theorem dM_estimate_158 : decode cM_estimate 158 = .ok (.iadd, 1) := by decide +kernel
theorem dM_estimate_159 : decode cM_estimate 159 = .ok (.i2l, 1) := by decide +kernel
theorem dM_estimate_160 : decode cM_estimate 160 = .ok (.lreturn, 1) := by decide +kernel
theorem dM_range_0 : decode cM_range 0 = .ok (.iload_n 1, 1) := by decide +kernel
theorem dM_range_1 : decode cM_range 1 = .ok (.invokestatic 37, 3) := by decide +kernel
theorem dM_range_4 : decode cM_range 4 = .ok (.ifCond .ne 5, 3) := by decide +kernel
theorem dM_range_7 : decode cM_range 7 = .ok (.iconst (-1), 1) := by decide +kernel
theorem dM_range_8 : decode cM_range 8 = .ok (.ireturn, 1) := by decide +kernel
theorem dM_range_9 : decode cM_range 9 = .ok (.iconst 0, 1) := by decide +kernel
theorem dM_range_10 : decode cM_range 10 = .ok (.istore 4, 2) := by decide +kernel
theorem dM_range_12 : decode cM_range 12 = .ok (.iconst 0, 1) := by decide +kernel
theorem dM_range_13 : decode cM_range 13 = .ok (.istore 5, 2) := by decide +kernel
theorem dM_range_15 : decode cM_range 15 = .ok (.iload 5, 2) := by decide +kernel
theorem dM_range_17 : decode cM_range 17 = .ok (.bipush 8, 2) := by decide +kernel
theorem dM_range_19 : decode cM_range 19 = .ok (.if_icmp .ge 90, 3) := by decide +kernel
theorem dM_range_22 : decode cM_range 22 = .ok (.iconst 0, 1) := by decide +kernel
theorem dM_range_23 : decode cM_range 23 = .ok (.istore 6, 2) := by decide +kernel
theorem dM_range_25 : decode cM_range 25 = .ok (.bipush 32, 2) := by decide +kernel
theorem dM_range_27 : decode cM_range 27 = .ok (.iload 5, 2) := by decide +kernel
theorem dM_range_29 : decode cM_range 29 = .ok (.imul, 1) := by decide +kernel
theorem dM_range_30 : decode cM_range 30 = .ok (.istore 7, 2) := by decide +kernel
theorem dM_range_32 : decode cM_range 32 = .ok (.iload 7, 2) := by decide +kernel
theorem dM_range_34 : decode cM_range 34 = .ok (.bipush 32, 2) := by decide +kernel
theorem dM_range_36 : decode cM_range 36 = .ok (.iload 5, 2) := by decide +kernel
theorem dM_range_38 : decode cM_range 38 = .ok (.imul, 1) := by decide +kernel
theorem dM_range_39 : decode cM_range 39 = .ok (.bipush 32, 2) := by decide +kernel
theorem dM_range_41 : decode cM_range 41 = .ok (.iadd, 1) := by decide +kernel
theorem dM_range_42 : decode cM_range 42 = .ok (.if_icmp .ge 32, 3) := by decide +kernel
theorem dM_range_45 : decode cM_range 45 = .ok (.iload 7, 2) := by decide +kernel
theorem dM_range_47 : decode cM_range 47 = .ok (.iload_n 2, 1) := by decide +kernel
theorem dM_range_48 : decode cM_range 48 = .ok (.if_icmp .lt 16, 3) := by decide +kernel
theorem dM_range_51 : decode cM_range 51 = .ok (.iload 7, 2) := by decide +kernel
theorem dM_range_53 : decode cM_range 53 = .ok (.iload_n 3, 1) := by decide +kernel
theorem dM_range_54 : decode cM_range 54 = .ok (.if_icmp .gt 10, 3) := by decide +kernel
theorem dM_range_57 : decode cM_range 57 = .ok (.iload 6, 2) := by decide +kernel
theorem dM_range_59 : decode cM_range 59 = .ok (.iconst 1, 1) := by decide +kernel
theorem dM_range_60 : decode cM_range 60 = .ok (.iadd, 1) := by decide +kernel
theorem dM_range_61 : decode cM_range 61 = .ok (.goto 5, 3) := by decide +kernel
theorem dM_range_64 : decode cM_range 64 = .ok (.iload 6, 2) := by decide +kernel
theorem dM_range_66 : decode cM_range 66 = .ok (.istore 6, 2) := by decide +kernel
theorem dM_range_68 : decode cM_range 68 = .ok (.iinc 7 1, 3) := by decide +kernel
theorem dM_range_71 : decode cM_range 71 = .ok (.goto (-39), 3) := by decide +kernel
theorem dM_range_74 : decode cM_range 74 = .ok (.iload 4, 2) := by decide +kernel
theorem dM_range_76 : decode cM_range 76 = .ok (.aload_n 0, 1) := by decide +kernel
theorem dM_range_77 : decode cM_range 77 = .ok (.iload_n 1, 1) := by decide +kernel
theorem dM_range_78 : decode cM_range 78 = .ok (.bipush 32, 2) := by decide +kernel
theorem dM_range_80 : decode cM_range 80 = .ok (.iload 5, 2) := by decide +kernel
theorem dM_range_82 : decode cM_range 82 = .ok (.imul, 1) := by decide +kernel
theorem dM_range_83 : decode cM_range 83 = .ok (.bipush 32, 2) := by decide +kernel
theorem dM_range_85 : decode cM_range 85 = .ok (.iload 5, 2) := by decide +kernel
theorem dM_range_87 : decode cM_range 87 = .ok (.imul, 1) := by decide +kernel
theorem dM_range_88 : decode cM_range 88 = .ok (.bipush 31, 2) := by decide +kernel
theorem dM_range_90 : decode cM_range 90 = .ok (.iadd, 1) := by decide +kernel
theorem dM_range_91 : decode cM_range 91 = .ok (.invokevirtual 66, 3) := by decide +kernel
theorem dM_range_94 : decode cM_range 94 = .ok (.iload 6, 2) := by decide +kernel
theorem dM_range_96 : decode cM_range 96 = .ok (.imul, 1) := by decide +kernel
theorem dM_range_97 : decode cM_range 97 = .ok (.bipush 32, 2) := by decide +kernel
theorem dM_range_99 : decode cM_range 99 = .ok (.idiv, 1) := by decide +kernel
theorem dM_range_100 : decode cM_range 100 = .ok (.iadd, 1) := by decide +kernel
theorem dM_range_101 : decode cM_range 101 = .ok (.istore 4, 2) := by decide +kernel
theorem dM_range_103 : decode cM_range 103 = .ok (.iinc 5 1, 3) := by decide +kernel
theorem dM_range_106 : decode cM_range 106 = .ok (.goto (-91), 3) := by decide +kernel
theorem dM_range_109 : decode cM_range 109 = .ok (.iload 4, 2) := by decide +kernel
theorem dM_range_111 : decode cM_range 111 = .ok (.ireturn, 1) := by decide +kernel
theorem dM_sample_0 : decode cM_sample 0 = .ok (.iload_n 1, 1) := by decide +kernel
theorem dM_sample_1 : decode cM_sample 1 = .ok (.invokestatic 37, 3) := by decide +kernel
theorem dM_sample_4 : decode cM_sample 4 = .ok (.ifCond .ne 5, 3) := by decide +kernel
theorem dM_sample_7 : decode cM_sample 7 = .ok (.iconst (-1), 1) := by decide +kernel
theorem dM_sample_8 : decode cM_sample 8 = .ok (.ireturn, 1) := by decide +kernel
theorem dM_sample_9 : decode cM_sample 9 = .ok (.iconst (-1), 1) := by decide +kernel
theorem dM_sample_10 : decode cM_sample 10 = .ok (.istore_n 3, 1) := by decide +kernel
theorem dM_sample_11 : decode cM_sample 11 = .ok (.iconst 0, 1) := by decide +kernel
theorem dM_sample_12 : decode cM_sample 12 = .ok (.istore 4, 2) := by decide +kernel
theorem dM_sample_14 : decode cM_sample 14 = .ok (.iload 4, 2) := by decide +kernel
theorem dM_sample_16 : decode cM_sample 16 = .ok (.iload_n 2, 1) := by decide +kernel
theorem dM_sample_17 : decode cM_sample 17 = .ok (.if_icmp .gt 107, 3) := by decide +kernel
theorem dM_sample_20 : decode cM_sample 20 = .ok (.ldc 88, 2) := by decide +kernel
theorem dM_sample_22 : decode cM_sample 22 = .ok (.istore 5, 2) := by decide +kernel
theorem dM_sample_24 : decode cM_sample 24 = .ok (.iconst 0, 1) := by decide +kernel
theorem dM_sample_25 : decode cM_sample 25 = .ok (.istore 6, 2) := by decide +kernel
theorem dM_sample_27 : decode cM_sample 27 = .ok (.iload 6, 2) := by decide +kernel
theorem dM_sample_29 : decode cM_sample 29 = .ok (.aload_n 0, 1) := by decide +kernel
theorem dM_sample_30 : decode cM_sample 30 = .ok (.getfield 29, 3) := by decide +kernel
theorem dM_sample_33 : decode cM_sample 33 = .ok (.if_icmp .ge 72, 3) := by decide +kernel
theorem dM_sample_36 : decode cM_sample 36 = .ok (.sipush 256, 3) := by decide +kernel
theorem dM_sample_39 : decode cM_sample 39 = .ok (.aload_n 0, 1) := by decide +kernel
theorem dM_sample_40 : decode cM_sample 40 = .ok (.getfield 7, 3) := by decide +kernel
theorem dM_sample_43 : decode cM_sample 43 = .ok (.iload 6, 2) := by decide +kernel
theorem dM_sample_45 : decode cM_sample 45 = .ok (.iaload, 1) := by decide +kernel
theorem dM_sample_46 : decode cM_sample 46 = .ok (.imul, 1) := by decide +kernel
theorem dM_sample_47 : decode cM_sample 47 = .ok (.aload_n 0, 1) := by decide +kernel
theorem dM_sample_48 : decode cM_sample 48 = .ok (.getfield 16, 3) := by decide +kernel
theorem dM_sample_51 : decode cM_sample 51 = .ok (.iload 6, 2) := by decide +kernel
theorem dM_sample_53 : decode cM_sample 53 = .ok (.iaload, 1) := by decide +kernel
theorem dM_sample_54 : decode cM_sample 54 = .ok (.iadd, 1) := by decide +kernel
theorem dM_sample_55 : decode cM_sample 55 = .ok (.istore 7, 2) := by decide +kernel
theorem dM_sample_57 : decode cM_sample 57 = .ok (.aload_n 0, 1) := by decide +kernel
theorem dM_sample_58 : decode cM_sample 58 = .ok (.getfield 13, 3) := by decide +kernel
theorem dM_sample_61 : decode cM_sample 61 = .ok (.iload 6, 2) := by decide +kernel
theorem dM_sample_63 : decode cM_sample 63 = .ok (.iaload, 1) := by decide +kernel
theorem dM_sample_64 : decode cM_sample 64 = .ok (.iload_n 1, 1) := by decide +kernel
theorem dM_sample_65 : decode cM_sample 65 = .ok (.if_icmp .ne 30, 3) := by decide +kernel
theorem dM_sample_68 : decode cM_sample 68 = .ok (.aload_n 0, 1) := by decide +kernel
theorem dM_sample_69 : decode cM_sample 69 = .ok (.iload 6, 2) := by decide +kernel
theorem dM_sample_71 : decode cM_sample 71 = .ok (.invokevirtual 57, 3) := by decide +kernel
theorem dM_sample_74 : decode cM_sample 74 = .ok (.ifCond .eq 21, 3) := by decide +kernel
theorem dM_sample_77 : decode cM_sample 77 = .ok (.iload 7, 2) := by decide +kernel
theorem dM_sample_79 : decode cM_sample 79 = .ok (.iload_n 3, 1) := by decide +kernel
theorem dM_sample_80 : decode cM_sample 80 = .ok (.if_icmp .le 15, 3) := by decide +kernel
theorem dM_sample_83 : decode cM_sample 83 = .ok (.iload 7, 2) := by decide +kernel
theorem dM_sample_85 : decode cM_sample 85 = .ok (.iload 5, 2) := by decide +kernel
theorem dM_sample_87 : decode cM_sample 87 = .ok (.if_icmp .ge 8, 3) := by decide +kernel
theorem dM_sample_90 : decode cM_sample 90 = .ok (.iload 7, 2) := by decide +kernel
theorem dM_sample_92 : decode cM_sample 92 = .ok (.goto 5, 3) := by decide +kernel
theorem dM_sample_95 : decode cM_sample 95 = .ok (.iload 5, 2) := by decide +kernel
theorem dM_sample_97 : decode cM_sample 97 = .ok (.istore 5, 2) := by decide +kernel
theorem dM_sample_99 : decode cM_sample 99 = .ok (.iinc 6 1, 3) := by decide +kernel
theorem dM_sample_102 : decode cM_sample 102 = .ok (.goto (-75), 3) := by decide +kernel
theorem dM_sample_105 : decode cM_sample 105 = .ok (.iload 5, 2) := by decide +kernel
theorem dM_sample_107 : decode cM_sample 107 = .ok (.ldc 88, 2) := by decide +kernel
theorem dM_sample_109 : decode cM_sample 109 = .ok (.if_icmp .ne 6, 3) := by decide +kernel
theorem dM_sample_112 : decode cM_sample 112 = .ok (.bipush (-2), 2) := by decide +kernel
theorem dM_sample_114 : decode cM_sample 114 = .ok (.ireturn, 1) := by decide +kernel
theorem dM_sample_115 : decode cM_sample 115 = .ok (.iload 5, 2) := by decide +kernel
theorem dM_sample_117 : decode cM_sample 117 = .ok (.istore_n 3, 1) := by decide +kernel
theorem dM_sample_118 : decode cM_sample 118 = .ok (.iinc 4 1, 3) := by decide +kernel
theorem dM_sample_121 : decode cM_sample 121 = .ok (.goto (-107), 3) := by decide +kernel
theorem dM_sample_124 : decode cM_sample 124 = .ok (.iload_n 2, 1) := by decide +kernel
theorem dM_sample_125 : decode cM_sample 125 = .ok (.ifCond .ge 8, 3) := by decide +kernel
theorem dM_sample_128 : decode cM_sample 128 = .ok (.bipush (-2), 2) := by decide +kernel
theorem dM_sample_130 : decode cM_sample 130 = .ok (.goto 4, 3) := by decide +kernel
theorem dM_sample_133 : decode cM_sample 133 = .ok (.iload_n 3, 1) := by decide +kernel
theorem dM_sample_134 : decode cM_sample 134 = .ok (.ireturn, 1) := by decide +kernel
theorem dM_pattern_0 : decode cM_pattern 0 = .ok (.iload_n 1, 1) := by decide +kernel
theorem dM_pattern_1 : decode cM_pattern 1 = .ok (.iconst (-1), 1) := by decide +kernel
theorem dM_pattern_2 : decode cM_pattern 2 = .ok (.if_icmp .lt 33, 3) := by decide +kernel
theorem dM_pattern_5 : decode cM_pattern 5 = .ok (.iload_n 1, 1) := by decide +kernel
theorem dM_pattern_6 : decode cM_pattern 6 = .ok (.sipush 255, 3) := by decide +kernel
theorem dM_pattern_9 : decode cM_pattern 9 = .ok (.if_icmp .gt 26, 3) := by decide +kernel
theorem dM_pattern_12 : decode cM_pattern 12 = .ok (.iload_n 2, 1) := by decide +kernel
theorem dM_pattern_13 : decode cM_pattern 13 = .ok (.iconst (-1), 1) := by decide +kernel
theorem dM_pattern_14 : decode cM_pattern 14 = .ok (.if_icmp .lt 21, 3) := by decide +kernel
theorem dM_pattern_17 : decode cM_pattern 17 = .ok (.iload_n 2, 1) := by decide +kernel
theorem dM_pattern_18 : decode cM_pattern 18 = .ok (.bipush 7, 2) := by decide +kernel
theorem dM_pattern_20 : decode cM_pattern 20 = .ok (.if_icmp .gt 15, 3) := by decide +kernel
theorem dM_pattern_23 : decode cM_pattern 23 = .ok (.iload_n 3, 1) := by decide +kernel
theorem dM_pattern_24 : decode cM_pattern 24 = .ok (.iconst (-1), 1) := by decide +kernel
theorem dM_pattern_25 : decode cM_pattern 25 = .ok (.if_icmp .lt 10, 3) := by decide +kernel
theorem dM_pattern_28 : decode cM_pattern 28 = .ok (.iload_n 3, 1) := by decide +kernel
theorem dM_pattern_29 : decode cM_pattern 29 = .ok (.sipush 255, 3) := by decide +kernel
theorem dM_pattern_32 : decode cM_pattern 32 = .ok (.if_icmp .le 5, 3) := by decide +kernel
theorem dM_pattern_35 : decode cM_pattern 35 = .ok (.iconst (-1), 1) := by decide +kernel
theorem dM_pattern_36 : decode cM_pattern 36 = .ok (.ireturn, 1) := by decide +kernel
theorem dM_pattern_37 : decode cM_pattern 37 = .ok (.iconst 0, 1) := by decide +kernel
theorem dM_pattern_38 : decode cM_pattern 38 = .ok (.istore 4, 2) := by decide +kernel
theorem dM_pattern_40 : decode cM_pattern 40 = .ok (.iload 4, 2) := by decide +kernel
theorem dM_pattern_42 : decode cM_pattern 42 = .ok (.aload_n 0, 1) := by decide +kernel
theorem dM_pattern_43 : decode cM_pattern 43 = .ok (.getfield 89, 3) := by decide +kernel
theorem dM_pattern_46 : decode cM_pattern 46 = .ok (.if_icmp .ge 55, 3) := by decide +kernel
theorem dM_pattern_49 : decode cM_pattern 49 = .ok (.aload_n 0, 1) := by decide +kernel
theorem dM_pattern_50 : decode cM_pattern 50 = .ok (.getfield 19, 3) := by decide +kernel
theorem dM_pattern_53 : decode cM_pattern 53 = .ok (.iconst 3, 1) := by decide +kernel
theorem dM_pattern_54 : decode cM_pattern 54 = .ok (.iload 4, 2) := by decide +kernel
theorem dM_pattern_56 : decode cM_pattern 56 = .ok (.imul, 1) := by decide +kernel
theorem dM_pattern_57 : decode cM_pattern 57 = .ok (.iaload, 1) := by decide +kernel
theorem dM_pattern_58 : decode cM_pattern 58 = .ok (.iload_n 1, 1) := by decide +kernel
theorem dM_pattern_59 : decode cM_pattern 59 = .ok (.if_icmp .ne 36, 3) := by decide +kernel
theorem dM_pattern_62 : decode cM_pattern 62 = .ok (.aload_n 0, 1) := by decide +kernel
theorem dM_pattern_63 : decode cM_pattern 63 = .ok (.getfield 19, 3) := by decide +kernel
theorem dM_pattern_66 : decode cM_pattern 66 = .ok (.iconst 3, 1) := by decide +kernel
theorem dM_pattern_67 : decode cM_pattern 67 = .ok (.iload 4, 2) := by decide +kernel
theorem dM_pattern_69 : decode cM_pattern 69 = .ok (.imul, 1) := by decide +kernel
theorem dM_pattern_70 : decode cM_pattern 70 = .ok (.iconst 1, 1) := by decide +kernel
theorem dM_pattern_71 : decode cM_pattern 71 = .ok (.iadd, 1) := by decide +kernel
theorem dM_pattern_72 : decode cM_pattern 72 = .ok (.iaload, 1) := by decide +kernel
theorem dM_pattern_73 : decode cM_pattern 73 = .ok (.iload_n 2, 1) := by decide +kernel
theorem dM_pattern_74 : decode cM_pattern 74 = .ok (.if_icmp .ne 21, 3) := by decide +kernel
theorem dM_pattern_77 : decode cM_pattern 77 = .ok (.aload_n 0, 1) := by decide +kernel
theorem dM_pattern_78 : decode cM_pattern 78 = .ok (.getfield 19, 3) := by decide +kernel
theorem dM_pattern_81 : decode cM_pattern 81 = .ok (.iconst 3, 1) := by decide +kernel
theorem dM_pattern_82 : decode cM_pattern 82 = .ok (.iload 4, 2) := by decide +kernel
theorem dM_pattern_84 : decode cM_pattern 84 = .ok (.imul, 1) := by decide +kernel
theorem dM_pattern_85 : decode cM_pattern 85 = .ok (.iconst 2, 1) := by decide +kernel
theorem dM_pattern_86 : decode cM_pattern 86 = .ok (.iadd, 1) := by decide +kernel
theorem dM_pattern_87 : decode cM_pattern 87 = .ok (.iaload, 1) := by decide +kernel
theorem dM_pattern_88 : decode cM_pattern 88 = .ok (.iload_n 3, 1) := by decide +kernel
theorem dM_pattern_89 : decode cM_pattern 89 = .ok (.if_icmp .ne 6, 3) := by decide +kernel
theorem dM_pattern_92 : decode cM_pattern 92 = .ok (.iload 4, 2) := by decide +kernel
theorem dM_pattern_94 : decode cM_pattern 94 = .ok (.ireturn, 1) := by decide +kernel
theorem dM_pattern_95 : decode cM_pattern 95 = .ok (.iinc 4 1, 3) := by decide +kernel
theorem dM_pattern_98 : decode cM_pattern 98 = .ok (.goto (-58), 3) := by decide +kernel
theorem dM_pattern_101 : decode cM_pattern 101 = .ok (.aload_n 0, 1) := by decide +kernel
theorem dM_pattern_102 : decode cM_pattern 102 = .ok (.getfield 89, 3) := by decide +kernel
theorem dM_pattern_105 : decode cM_pattern 105 = .ok (.bipush 30, 2) := by decide +kernel
theorem dM_pattern_107 : decode cM_pattern 107 = .ok (.if_icmp .ne 6, 3) := by decide +kernel
theorem dM_pattern_110 : decode cM_pattern 110 = .ok (.bipush (-3), 2) := by decide +kernel
theorem dM_pattern_112 : decode cM_pattern 112 = .ok (.ireturn, 1) := by decide +kernel
theorem dM_pattern_113 : decode cM_pattern 113 = .ok (.aload_n 0, 1) := by decide +kernel
theorem dM_pattern_114 : decode cM_pattern 114 = .ok (.getfield 19, 3) := by decide +kernel
theorem dM_pattern_117 : decode cM_pattern 117 = .ok (.iconst 3, 1) := by decide +kernel
theorem dM_pattern_118 : decode cM_pattern 118 = .ok (.aload_n 0, 1) := by decide +kernel
theorem dM_pattern_119 : decode cM_pattern 119 = .ok (.getfield 89, 3) := by decide +kernel
theorem dM_pattern_122 : decode cM_pattern 122 = .ok (.imul, 1) := by decide +kernel
theorem dM_pattern_123 : decode cM_pattern 123 = .ok (.iload_n 1, 1) := by decide +kernel
theorem dM_pattern_124 : decode cM_pattern 124 = .ok (.iastore, 1) := by decide +kernel
theorem dM_pattern_125 : decode cM_pattern 125 = .ok (.aload_n 0, 1) := by decide +kernel
theorem dM_pattern_126 : decode cM_pattern 126 = .ok (.getfield 19, 3) := by decide +kernel
theorem dM_pattern_129 : decode cM_pattern 129 = .ok (.iconst 3, 1) := by decide +kernel
theorem dM_pattern_130 : decode cM_pattern 130 = .ok (.aload_n 0, 1) := by decide +kernel
theorem dM_pattern_131 : decode cM_pattern 131 = .ok (.getfield 89, 3) := by decide +kernel
theorem dM_pattern_134 : decode cM_pattern 134 = .ok (.imul, 1) := by decide +kernel
theorem dM_pattern_135 : decode cM_pattern 135 = .ok (.iconst 1, 1) := by decide +kernel
theorem dM_pattern_136 : decode cM_pattern 136 = .ok (.iadd, 1) := by decide +kernel
theorem dM_pattern_137 : decode cM_pattern 137 = .ok (.iload_n 2, 1) := by decide +kernel
theorem dM_pattern_138 : decode cM_pattern 138 = .ok (.iastore, 1) := by decide +kernel
theorem dM_pattern_139 : decode cM_pattern 139 = .ok (.aload_n 0, 1) := by decide +kernel
theorem dM_pattern_140 : decode cM_pattern 140 = .ok (.getfield 19, 3) := by decide +kernel
theorem dM_pattern_143 : decode cM_pattern 143 = .ok (.iconst 3, 1) := by decide +kernel
theorem dM_pattern_144 : decode cM_pattern 144 = .ok (.aload_n 0, 1) := by decide +kernel
theorem dM_pattern_145 : decode cM_pattern 145 = .ok (.getfield 89, 3) := by decide +kernel
theorem dM_pattern_148 : decode cM_pattern 148 = .ok (.imul, 1) := by decide +kernel
theorem dM_pattern_149 : decode cM_pattern 149 = .ok (.iconst 2, 1) := by decide +kernel
theorem dM_pattern_150 : decode cM_pattern 150 = .ok (.iadd, 1) := by decide +kernel
theorem dM_pattern_151 : decode cM_pattern 151 = .ok (.iload_n 3, 1) := by decide +kernel
theorem dM_pattern_152 : decode cM_pattern 152 = .ok (.iastore, 1) := by decide +kernel
theorem dM_pattern_153 : decode cM_pattern 153 = .ok (.aload_n 0, 1) := by decide +kernel
theorem dM_pattern_154 : decode cM_pattern 154 = .ok (.dup, 1) := by decide +kernel
theorem dM_pattern_155 : decode cM_pattern 155 = .ok (.getfield 89, 3) := by decide +kernel
theorem dM_pattern_158 : decode cM_pattern 158 = .ok (.iconst 1, 1) := by decide +kernel
theorem dM_pattern_159 : decode cM_pattern 159 = .ok (.iadd, 1) := by decide +kernel
theorem dM_pattern_160 : decode cM_pattern 160 = .ok (.putfield 89, 3) := by decide +kernel
theorem dM_pattern_163 : decode cM_pattern 163 = .ok (.aload_n 0, 1) := by decide +kernel
theorem dM_pattern_164 : decode cM_pattern 164 = .ok (.getfield 89, 3) := by decide +kernel
theorem dM_pattern_167 : decode cM_pattern 167 = .ok (.iconst 1, 1) := by decide +kernel
theorem dM_pattern_168 : decode cM_pattern 168 = .ok (.isub, 1) := by decide +kernel
theorem dM_pattern_169 : decode cM_pattern 169 = .ok (.ireturn, 1) := by decide +kernel
theorem dM_fits_0 : decode cM_fits 0 = .ok (.iload_n 0, 1) := by decide +kernel
theorem dM_fits_1 : decode cM_fits 1 = .ok (.ifCond .lt 8, 3) := by decide +kernel
theorem dM_fits_4 : decode cM_fits 4 = .ok (.iload_n 0, 1) := by decide +kernel
theorem dM_fits_5 : decode cM_fits 5 = .ok (.iload_n 1, 1) := by decide +kernel
theorem dM_fits_6 : decode cM_fits 6 = .ok (.if_icmp .ne 7, 3) := by decide +kernel
theorem dM_fits_9 : decode cM_fits 9 = .ok (.iconst 1, 1) := by decide +kernel
theorem dM_fits_10 : decode cM_fits 10 = .ok (.goto 4, 3) := by decide +kernel
theorem dM_fits_13 : decode cM_fits 13 = .ok (.iconst 0, 1) := by decide +kernel
theorem dM_fits_14 : decode cM_fits 14 = .ok (.ireturn, 1) := by decide +kernel
theorem dM_matches_0 : decode cM_matches 0 = .ok (.iload_n 1, 1) := by decide +kernel
theorem dM_matches_1 : decode cM_matches 1 = .ok (.ifCond .lt 11, 3) := by decide +kernel
theorem dM_matches_4 : decode cM_matches 4 = .ok (.iload_n 1, 1) := by decide +kernel
theorem dM_matches_5 : decode cM_matches 5 = .ok (.aload_n 0, 1) := by decide +kernel
theorem dM_matches_6 : decode cM_matches 6 = .ok (.getfield 89, 3) := by decide +kernel
theorem dM_matches_9 : decode cM_matches 9 = .ok (.if_icmp .lt 5, 3) := by decide +kernel
theorem dM_matches_12 : decode cM_matches 12 = .ok (.iconst (-1), 1) := by decide +kernel
theorem dM_matches_13 : decode cM_matches 13 = .ok (.ireturn, 1) := by decide +kernel
theorem dM_matches_14 : decode cM_matches 14 = .ok (.iconst 0, 1) := by decide +kernel
theorem dM_matches_15 : decode cM_matches 15 = .ok (.istore_n 2, 1) := by decide +kernel
theorem dM_matches_16 : decode cM_matches 16 = .ok (.iconst 0, 1) := by decide +kernel
theorem dM_matches_17 : decode cM_matches 17 = .ok (.istore_n 3, 1) := by decide +kernel
theorem dM_matches_18 : decode cM_matches 18 = .ok (.iload_n 3, 1) := by decide +kernel
theorem dM_matches_19 : decode cM_matches 19 = .ok (.aload_n 0, 1) := by decide +kernel
theorem dM_matches_20 : decode cM_matches 20 = .ok (.getfield 29, 3) := by decide +kernel
theorem dM_matches_23 : decode cM_matches 23 = .ok (.if_icmp .ge 81, 3) := by decide +kernel
theorem dM_matches_26 : decode cM_matches 26 = .ok (.aload_n 0, 1) := by decide +kernel
theorem dM_matches_27 : decode cM_matches 27 = .ok (.getfield 19, 3) := by decide +kernel
theorem dM_matches_30 : decode cM_matches 30 = .ok (.iconst 3, 1) := by decide +kernel
theorem dM_matches_31 : decode cM_matches 31 = .ok (.iload_n 1, 1) := by decide +kernel
theorem dM_matches_32 : decode cM_matches 32 = .ok (.imul, 1) := by decide +kernel
theorem dM_matches_33 : decode cM_matches 33 = .ok (.iaload, 1) := by decide +kernel
theorem dM_matches_34 : decode cM_matches 34 = .ok (.aload_n 0, 1) := by decide +kernel
theorem dM_matches_35 : decode cM_matches 35 = .ok (.getfield 7, 3) := by decide +kernel
theorem dM_matches_38 : decode cM_matches 38 = .ok (.iload_n 3, 1) := by decide +kernel
theorem dM_matches_39 : decode cM_matches 39 = .ok (.iaload, 1) := by decide +kernel
theorem dM_matches_40 : decode cM_matches 40 = .ok (.invokestatic 92, 3) := by decide +kernel
theorem dM_matches_43 : decode cM_matches 43 = .ok (.ifCond .eq 53, 3) := by decide +kernel
theorem dM_matches_46 : decode cM_matches 46 = .ok (.aload_n 0, 1) := by decide +kernel
theorem dM_matches_47 : decode cM_matches 47 = .ok (.getfield 19, 3) := by decide +kernel
theorem dM_matches_50 : decode cM_matches 50 = .ok (.iconst 3, 1) := by decide +kernel
theorem dM_matches_51 : decode cM_matches 51 = .ok (.iload_n 1, 1) := by decide +kernel
theorem dM_matches_52 : decode cM_matches 52 = .ok (.imul, 1) := by decide +kernel
theorem dM_matches_53 : decode cM_matches 53 = .ok (.iconst 1, 1) := by decide +kernel
theorem dM_matches_54 : decode cM_matches 54 = .ok (.iadd, 1) := by decide +kernel
theorem dM_matches_55 : decode cM_matches 55 = .ok (.iaload, 1) := by decide +kernel
theorem dM_matches_56 : decode cM_matches 56 = .ok (.aload_n 0, 1) := by decide +kernel
theorem dM_matches_57 : decode cM_matches 57 = .ok (.getfield 13, 3) := by decide +kernel
theorem dM_matches_60 : decode cM_matches 60 = .ok (.iload_n 3, 1) := by decide +kernel
theorem dM_matches_61 : decode cM_matches 61 = .ok (.iaload, 1) := by decide +kernel
theorem dM_matches_62 : decode cM_matches 62 = .ok (.invokestatic 92, 3) := by decide +kernel
theorem dM_matches_65 : decode cM_matches 65 = .ok (.ifCond .eq 31, 3) := by decide +kernel
theorem dM_matches_68 : decode cM_matches 68 = .ok (.aload_n 0, 1) := by decide +kernel
theorem dM_matches_69 : decode cM_matches 69 = .ok (.getfield 19, 3) := by decide +kernel
theorem dM_matches_72 : decode cM_matches 72 = .ok (.iconst 3, 1) := by decide +kernel
theorem dM_matches_73 : decode cM_matches 73 = .ok (.iload_n 1, 1) := by decide +kernel
theorem dM_matches_74 : decode cM_matches 74 = .ok (.imul, 1) := by decide +kernel
theorem dM_matches_75 : decode cM_matches 75 = .ok (.iconst 2, 1) := by decide +kernel
theorem dM_matches_76 : decode cM_matches 76 = .ok (.iadd, 1) := by decide +kernel
theorem dM_matches_77 : decode cM_matches 77 = .ok (.iaload, 1) := by decide +kernel
theorem dM_matches_78 : decode cM_matches 78 = .ok (.aload_n 0, 1) := by decide +kernel
theorem dM_matches_79 : decode cM_matches 79 = .ok (.getfield 16, 3) := by decide +kernel
theorem dM_matches_82 : decode cM_matches 82 = .ok (.iload_n 3, 1) := by decide +kernel
theorem dM_matches_83 : decode cM_matches 83 = .ok (.iaload, 1) := by decide +kernel
theorem dM_matches_84 : decode cM_matches 84 = .ok (.invokestatic 92, 3) := by decide +kernel
theorem dM_matches_87 : decode cM_matches 87 = .ok (.ifCond .eq 9, 3) := by decide +kernel
theorem dM_matches_90 : decode cM_matches 90 = .ok (.iload_n 2, 1) := by decide +kernel
theorem dM_matches_91 : decode cM_matches 91 = .ok (.iconst 1, 1) := by decide +kernel
theorem dM_matches_92 : decode cM_matches 92 = .ok (.iadd, 1) := by decide +kernel
theorem dM_matches_93 : decode cM_matches 93 = .ok (.goto 4, 3) := by decide +kernel
theorem dM_matches_96 : decode cM_matches 96 = .ok (.iload_n 2, 1) := by decide +kernel
theorem dM_matches_97 : decode cM_matches 97 = .ok (.istore_n 2, 1) := by decide +kernel
theorem dM_matches_98 : decode cM_matches 98 = .ok (.iinc 3 1, 3) := by decide +kernel
theorem dM_matches_101 : decode cM_matches 101 = .ok (.goto (-83), 3) := by decide +kernel
theorem dM_matches_104 : decode cM_matches 104 = .ok (.iload_n 2, 1) := by decide +kernel
theorem dM_matches_105 : decode cM_matches 105 = .ok (.ireturn, 1) := by decide +kernel
theorem dM_version_0 : decode cM_version 0 = .ok (.aload_n 0, 1) := by decide +kernel
theorem dM_version_1 : decode cM_version 1 = .ok (.getfield 96, 3) := by decide +kernel
theorem dM_version_4 : decode cM_version 4 = .ok (.aload_n 0, 1) := by decide +kernel
theorem dM_version_5 : decode cM_version 5 = .ok (.getfield 99, 3) := by decide +kernel
theorem dM_version_8 : decode cM_version 8 = .ok (.isub, 1) := by decide +kernel
theorem dM_version_9 : decode cM_version 9 = .ok (.bipush 40, 2) := by decide +kernel
theorem dM_version_11 : decode cM_version 11 = .ok (.if_icmp .ne 6, 3) := by decide +kernel
theorem dM_version_14 : decode cM_version 14 = .ok (.bipush (-3), 2) := by decide +kernel
theorem dM_version_16 : decode cM_version 16 = .ok (.ireturn, 1) := by decide +kernel
theorem dM_version_17 : decode cM_version 17 = .ok (.iconst 0, 1) := by decide +kernel
theorem dM_version_18 : decode cM_version 18 = .ok (.istore_n 1, 1) := by decide +kernel
theorem dM_version_19 : decode cM_version 19 = .ok (.iload_n 1, 1) := by decide +kernel
theorem dM_version_20 : decode cM_version 20 = .ok (.bipush 8, 2) := by decide +kernel
theorem dM_version_22 : decode cM_version 22 = .ok (.if_icmp .ge 31, 3) := by decide +kernel
theorem dM_version_25 : decode cM_version 25 = .ok (.aload_n 0, 1) := by decide +kernel
theorem dM_version_26 : decode cM_version 26 = .ok (.getfield 22, 3) := by decide +kernel
theorem dM_version_29 : decode cM_version 29 = .ok (.bipush 8, 2) := by decide +kernel
theorem dM_version_31 : decode cM_version 31 = .ok (.aload_n 0, 1) := by decide +kernel
theorem dM_version_32 : decode cM_version 32 = .ok (.getfield 96, 3) := by decide +kernel
theorem dM_version_35 : decode cM_version 35 = .ok (.bipush 40, 2) := by decide +kernel
theorem dM_version_37 : decode cM_version 37 = .ok (.irem, 1) := by decide +kernel
theorem dM_version_38 : decode cM_version 38 = .ok (.imul, 1) := by decide +kernel
theorem dM_version_39 : decode cM_version 39 = .ok (.iload_n 1, 1) := by decide +kernel
theorem dM_version_40 : decode cM_version 40 = .ok (.iadd, 1) := by decide +kernel
theorem dM_version_41 : decode cM_version 41 = .ok (.aload_n 0, 1) := by decide +kernel
theorem dM_version_42 : decode cM_version 42 = .ok (.iload_n 1, 1) := by decide +kernel
theorem dM_version_43 : decode cM_version 43 = .ok (.invokevirtual 44, 3) := by decide +kernel
theorem dM_version_46 : decode cM_version 46 = .ok (.iastore, 1) := by decide +kernel
theorem dM_version_47 : decode cM_version 47 = .ok (.iinc 1 1, 3) := by decide +kernel
theorem dM_version_50 : decode cM_version 50 = .ok (.goto (-31), 3) := by decide +kernel
theorem dM_version_53 : decode cM_version 53 = .ok (.aload_n 0, 1) := by decide +kernel
theorem dM_version_54 : decode cM_version 54 = .ok (.dup, 1) := by decide +kernel
theorem dM_version_55 : decode cM_version 55 = .ok (.getfield 96, 3) := by decide +kernel
theorem dM_version_58 : decode cM_version 58 = .ok (.iconst 1, 1) := by decide +kernel
theorem dM_version_59 : decode cM_version 59 = .ok (.iadd, 1) := by decide +kernel
theorem dM_version_60 : decode cM_version 60 = .ok (.putfield 96, 3) := by decide +kernel
theorem dM_version_63 : decode cM_version 63 = .ok (.aload_n 0, 1) := by decide +kernel
theorem dM_version_64 : decode cM_version 64 = .ok (.getfield 96, 3) := by decide +kernel
theorem dM_version_67 : decode cM_version 67 = .ok (.iconst 1, 1) := by decide +kernel
theorem dM_version_68 : decode cM_version 68 = .ok (.isub, 1) := by decide +kernel
theorem dM_version_69 : decode cM_version 69 = .ok (.ireturn, 1) := by decide +kernel
theorem dM_countAt_0 : decode cM_countAt 0 = .ok (.iload_n 1, 1) := by decide +kernel
theorem dM_countAt_1 : decode cM_countAt 1 = .ok (.invokestatic 37, 3) := by decide +kernel
theorem dM_countAt_4 : decode cM_countAt 4 = .ok (.ifCond .eq 15, 3) := by decide +kernel
theorem dM_countAt_7 : decode cM_countAt 7 = .ok (.iload_n 2, 1) := by decide +kernel
theorem dM_countAt_8 : decode cM_countAt 8 = .ok (.ifCond .lt 11, 3) := by decide +kernel
theorem dM_countAt_11 : decode cM_countAt 11 = .ok (.iload_n 2, 1) := by decide +kernel
theorem dM_countAt_12 : decode cM_countAt 12 = .ok (.aload_n 0, 1) := by decide +kernel
theorem dM_countAt_13 : decode cM_countAt 13 = .ok (.getfield 96, 3) := by decide +kernel
theorem dM_countAt_16 : decode cM_countAt 16 = .ok (.if_icmp .lt 5, 3) := by decide +kernel
theorem dM_countAt_19 : decode cM_countAt 19 = .ok (.iconst (-1), 1) := by decide +kernel
theorem dM_countAt_20 : decode cM_countAt 20 = .ok (.ireturn, 1) := by decide +kernel
theorem dM_countAt_21 : decode cM_countAt 21 = .ok (.iload_n 2, 1) := by decide +kernel
theorem dM_countAt_22 : decode cM_countAt 22 = .ok (.aload_n 0, 1) := by decide +kernel
theorem dM_countAt_23 : decode cM_countAt 23 = .ok (.getfield 99, 3) := by decide +kernel
theorem dM_countAt_26 : decode cM_countAt 26 = .ok (.if_icmp .ge 8, 3) := by decide +kernel
theorem dM_countAt_29 : decode cM_countAt 29 = .ok (.bipush (-2), 2) := by decide +kernel
theorem dM_countAt_31 : decode cM_countAt 31 = .ok (.goto 17, 3) := by decide +kernel
theorem dM_countAt_34 : decode cM_countAt 34 = .ok (.aload_n 0, 1) := by decide +kernel
theorem dM_countAt_35 : decode cM_countAt 35 = .ok (.getfield 22, 3) := by decide +kernel
theorem dM_countAt_38 : decode cM_countAt 38 = .ok (.bipush 8, 2) := by decide +kernel
theorem dM_countAt_40 : decode cM_countAt 40 = .ok (.iload_n 2, 1) := by decide +kernel
theorem dM_countAt_41 : decode cM_countAt 41 = .ok (.bipush 40, 2) := by decide +kernel
theorem dM_countAt_43 : decode cM_countAt 43 = .ok (.irem, 1) := by decide +kernel
theorem dM_countAt_44 : decode cM_countAt 44 = .ok (.imul, 1) := by decide +kernel
theorem dM_countAt_45 : decode cM_countAt 45 = .ok (.iload_n 1, 1) := by decide +kernel
theorem dM_countAt_46 : decode cM_countAt 46 = .ok (.iadd, 1) := by decide +kernel
theorem dM_countAt_47 : decode cM_countAt 47 = .ok (.iaload, 1) := by decide +kernel
theorem dM_countAt_48 : decode cM_countAt 48 = .ok (.ireturn, 1) := by decide +kernel
theorem dM_forget_0 : decode cM_forget 0 = .ok (.iload_n 1, 1) := by decide +kernel
theorem dM_forget_1 : decode cM_forget 1 = .ok (.ifCond .lt 11, 3) := by decide +kernel
theorem dM_forget_4 : decode cM_forget 4 = .ok (.iload_n 1, 1) := by decide +kernel
theorem dM_forget_5 : decode cM_forget 5 = .ok (.aload_n 0, 1) := by decide +kernel
theorem dM_forget_6 : decode cM_forget 6 = .ok (.getfield 96, 3) := by decide +kernel
theorem dM_forget_9 : decode cM_forget 9 = .ok (.if_icmp .lt 5, 3) := by decide +kernel
theorem dM_forget_12 : decode cM_forget 12 = .ok (.iconst (-1), 1) := by decide +kernel
theorem dM_forget_13 : decode cM_forget 13 = .ok (.ireturn, 1) := by decide +kernel
theorem dM_forget_14 : decode cM_forget 14 = .ok (.iload_n 1, 1) := by decide +kernel
theorem dM_forget_15 : decode cM_forget 15 = .ok (.aload_n 0, 1) := by decide +kernel
theorem dM_forget_16 : decode cM_forget 16 = .ok (.getfield 99, 3) := by decide +kernel
theorem dM_forget_19 : decode cM_forget 19 = .ok (.if_icmp .le 12, 3) := by decide +kernel
theorem dM_forget_22 : decode cM_forget 22 = .ok (.iload_n 1, 1) := by decide +kernel
theorem dM_forget_23 : decode cM_forget 23 = .ok (.aload_n 0, 1) := by decide +kernel
theorem dM_forget_24 : decode cM_forget 24 = .ok (.getfield 99, 3) := by decide +kernel
theorem dM_forget_27 : decode cM_forget 27 = .ok (.isub, 1) := by decide +kernel
theorem dM_forget_28 : decode cM_forget 28 = .ok (.goto 4, 3) := by decide +kernel
theorem dM_forget_31 : decode cM_forget 31 = .ok (.iconst 0, 1) := by decide +kernel
theorem dM_forget_32 : decode cM_forget 32 = .ok (.istore_n 2, 1) := by decide +kernel
theorem dM_forget_33 : decode cM_forget 33 = .ok (.aload_n 0, 1) := by decide +kernel
theorem dM_forget_34 : decode cM_forget 34 = .ok (.aload_n 0, 1) := by decide +kernel
theorem dM_forget_35 : decode cM_forget 35 = .ok (.getfield 99, 3) := by decide +kernel
theorem dM_forget_38 : decode cM_forget 38 = .ok (.iload_n 2, 1) := by decide +kernel
theorem dM_forget_39 : decode cM_forget 39 = .ok (.iadd, 1) := by decide +kernel
theorem dM_forget_40 : decode cM_forget 40 = .ok (.putfield 99, 3) := by decide +kernel
theorem dM_forget_43 : decode cM_forget 43 = .ok (.iload_n 2, 1) := by decide +kernel
theorem dM_forget_44 : decode cM_forget 44 = .ok (.ireturn, 1) := by decide +kernel
theorem dM_told_0 : decode cM_told 0 = .ok (.iload_n 1, 1) := by decide +kernel
theorem dM_told_1 : decode cM_told 1 = .ok (.ifCond .ne 10, 3) := by decide +kernel
theorem dM_told_4 : decode cM_told 4 = .ok (.aload_n 0, 1) := by decide +kernel
theorem dM_told_5 : decode cM_told 5 = .ok (.getfield 29, 3) := by decide +kernel
theorem dM_told_8 : decode cM_told 8 = .ok (.goto 45, 3) := by decide +kernel
theorem dM_told_11 : decode cM_told 11 = .ok (.iload_n 1, 1) := by decide +kernel
theorem dM_told_12 : decode cM_told 12 = .ok (.iconst 1, 1) := by decide +kernel
theorem dM_told_13 : decode cM_told 13 = .ok (.if_icmp .ne 10, 3) := by decide +kernel
theorem dM_told_16 : decode cM_told 16 = .ok (.aload_n 0, 1) := by decide +kernel
theorem dM_told_17 : decode cM_told 17 = .ok (.getfield 89, 3) := by decide +kernel
theorem dM_told_20 : decode cM_told 20 = .ok (.goto 33, 3) := by decide +kernel
theorem dM_told_23 : decode cM_told 23 = .ok (.iload_n 1, 1) := by decide +kernel
theorem dM_told_24 : decode cM_told 24 = .ok (.iconst 2, 1) := by decide +kernel
theorem dM_told_25 : decode cM_told 25 = .ok (.if_icmp .ne 10, 3) := by decide +kernel
theorem dM_told_28 : decode cM_told 28 = .ok (.aload_n 0, 1) := by decide +kernel
theorem dM_told_29 : decode cM_told 29 = .ok (.getfield 96, 3) := by decide +kernel
theorem dM_told_32 : decode cM_told 32 = .ok (.goto 21, 3) := by decide +kernel
theorem dM_told_35 : decode cM_told 35 = .ok (.iload_n 1, 1) := by decide +kernel
theorem dM_told_36 : decode cM_told 36 = .ok (.iconst 3, 1) := by decide +kernel
theorem dM_told_37 : decode cM_told 37 = .ok (.if_icmp .ne 15, 3) := by decide +kernel
theorem dM_told_40 : decode cM_told 40 = .ok (.aload_n 0, 1) := by decide +kernel
theorem dM_told_41 : decode cM_told 41 = .ok (.getfield 96, 3) := by decide +kernel
theorem dM_told_44 : decode cM_told 44 = .ok (.aload_n 0, 1) := by decide +kernel
theorem dM_told_45 : decode cM_told 45 = .ok (.getfield 99, 3) := by decide +kernel
theorem dM_told_48 : decode cM_told 48 = .ok (.isub, 1) := by decide +kernel
theorem dM_told_49 : decode cM_told 49 = .ok (.goto 4, 3) := by decide +kernel
theorem dM_told_52 : decode cM_told 52 = .ok (.iconst (-1), 1) := by decide +kernel
theorem dM_told_53 : decode cM_told 53 = .ok (.ireturn, 1) := by decide +kernel
end
section
theorem dL_law_0 : decode code 0 = .ok (.new 7, 3) := by decide +kernel
theorem dL_law_3 : decode code 3 = .ok (.dup, 1) := by decide +kernel
theorem dL_law_4 : decode code 4 = .ok (.invokespecial 9, 3) := by decide +kernel
theorem dL_law_7 : decode code 7 = .ok (.astore_n 1, 1) := by decide +kernel
theorem dL_law_8 : decode code 8 = .ok (.new 10, 3) := by decide +kernel
theorem dL_law_11 : decode code 11 = .ok (.dup, 1) := by decide +kernel
theorem dL_law_12 : decode code 12 = .ok (.invokespecial 12, 3) := by decide +kernel
theorem dL_law_15 : decode code 15 = .ok (.astore_n 2, 1) := by decide +kernel
theorem dL_law_16 : decode code 16 = .ok (.iconst 0, 1) := by decide +kernel
theorem dL_law_17 : decode code 17 = .ok (.istore_n 3, 1) := by decide +kernel
theorem dL_law_18 : decode code 18 = .ok (.iload_n 3, 1) := by decide +kernel
theorem dL_law_19 : decode code 19 = .ok (.aload_n 0, 1) := by decide +kernel
theorem dL_law_20 : decode code 20 = .ok (.arraylength, 1) := by decide +kernel
theorem dL_law_21 : decode code 21 = .ok (.iconst 4, 1) := by decide +kernel
theorem dL_law_22 : decode code 22 = .ok (.isub, 1) := by decide +kernel
theorem dL_law_23 : decode code 23 = .ok (.if_icmp .gt 711, 3) := by decide +kernel
theorem dL_law_26 : decode code 26 = .ok (.aload_n 0, 1) := by decide +kernel
theorem dL_law_27 : decode code 27 = .ok (.iload_n 3, 1) := by decide +kernel
theorem dL_law_28 : decode code 28 = .ok (.iaload, 1) := by decide +kernel
theorem dL_law_29 : decode code 29 = .ok (.bipush 31, 2) := by decide +kernel
theorem dL_law_31 : decode code 31 = .ok (.iand, 1) := by decide +kernel
theorem dL_law_32 : decode code 32 = .ok (.tableswitch 696 0 17 #[88, 131, 174, 207, 241, 275, 318, 351, 384, 418, 462, 505, 538, 581, 604, 617, 650, 673], 88) := by decide +kernel
theorem dL_law_120 : decode code 120 = .ok (.aload_n 1, 1) := by decide +kernel
theorem dL_law_121 : decode code 121 = .ok (.aload_n 0, 1) := by decide +kernel
theorem dL_law_122 : decode code 122 = .ok (.iload_n 3, 1) := by decide +kernel
theorem dL_law_123 : decode code 123 = .ok (.iconst 1, 1) := by decide +kernel
theorem dL_law_124 : decode code 124 = .ok (.iadd, 1) := by decide +kernel
theorem dL_law_125 : decode code 125 = .ok (.iaload, 1) := by decide +kernel
theorem dL_law_126 : decode code 126 = .ok (.aload_n 0, 1) := by decide +kernel
theorem dL_law_127 : decode code 127 = .ok (.iload_n 3, 1) := by decide +kernel
theorem dL_law_128 : decode code 128 = .ok (.iconst 2, 1) := by decide +kernel
theorem dL_law_129 : decode code 129 = .ok (.iadd, 1) := by decide +kernel
theorem dL_law_130 : decode code 130 = .ok (.iaload, 1) := by decide +kernel
theorem dL_law_131 : decode code 131 = .ok (.aload_n 0, 1) := by decide +kernel
theorem dL_law_132 : decode code 132 = .ok (.iload_n 3, 1) := by decide +kernel
theorem dL_law_133 : decode code 133 = .ok (.iconst 3, 1) := by decide +kernel
theorem dL_law_134 : decode code 134 = .ok (.iadd, 1) := by decide +kernel
theorem dL_law_135 : decode code 135 = .ok (.iaload, 1) := by decide +kernel
theorem dL_law_136 : decode code 136 = .ok (.invokevirtual 13, 3) := by decide +kernel
theorem dL_law_139 : decode code 139 = .ok (.aload_n 2, 1) := by decide +kernel
theorem dL_law_140 : decode code 140 = .ok (.aload_n 0, 1) := by decide +kernel
theorem dL_law_141 : decode code 141 = .ok (.iload_n 3, 1) := by decide +kernel
theorem dL_law_142 : decode code 142 = .ok (.iconst 1, 1) := by decide +kernel
theorem dL_law_143 : decode code 143 = .ok (.iadd, 1) := by decide +kernel
theorem dL_law_144 : decode code 144 = .ok (.iaload, 1) := by decide +kernel
theorem dL_law_145 : decode code 145 = .ok (.aload_n 0, 1) := by decide +kernel
theorem dL_law_146 : decode code 146 = .ok (.iload_n 3, 1) := by decide +kernel
theorem dL_law_147 : decode code 147 = .ok (.iconst 2, 1) := by decide +kernel
theorem dL_law_148 : decode code 148 = .ok (.iadd, 1) := by decide +kernel
theorem dL_law_149 : decode code 149 = .ok (.iaload, 1) := by decide +kernel
theorem dL_law_150 : decode code 150 = .ok (.aload_n 0, 1) := by decide +kernel
theorem dL_law_151 : decode code 151 = .ok (.iload_n 3, 1) := by decide +kernel
theorem dL_law_152 : decode code 152 = .ok (.iconst 3, 1) := by decide +kernel
theorem dL_law_153 : decode code 153 = .ok (.iadd, 1) := by decide +kernel
theorem dL_law_154 : decode code 154 = .ok (.iaload, 1) := by decide +kernel
theorem dL_law_155 : decode code 155 = .ok (.invokevirtual 17, 3) := by decide +kernel
theorem dL_law_158 : decode code 158 = .ok (.if_icmp .eq 570, 3) := by decide +kernel
theorem dL_law_161 : decode code 161 = .ok (.iconst 0, 1) := by decide +kernel
theorem dL_law_162 : decode code 162 = .ok (.ireturn, 1) := by decide +kernel
theorem dL_law_163 : decode code 163 = .ok (.aload_n 1, 1) := by decide +kernel
theorem dL_law_164 : decode code 164 = .ok (.aload_n 0, 1) := by decide +kernel
theorem dL_law_165 : decode code 165 = .ok (.iload_n 3, 1) := by decide +kernel
theorem dL_law_166 : decode code 166 = .ok (.iconst 1, 1) := by decide +kernel
theorem dL_law_167 : decode code 167 = .ok (.iadd, 1) := by decide +kernel
theorem dL_law_168 : decode code 168 = .ok (.iaload, 1) := by decide +kernel
theorem dL_law_169 : decode code 169 = .ok (.aload_n 0, 1) := by decide +kernel
theorem dL_law_170 : decode code 170 = .ok (.iload_n 3, 1) := by decide +kernel
theorem dL_law_171 : decode code 171 = .ok (.iconst 2, 1) := by decide +kernel
theorem dL_law_172 : decode code 172 = .ok (.iadd, 1) := by decide +kernel
theorem dL_law_173 : decode code 173 = .ok (.iaload, 1) := by decide +kernel
theorem dL_law_174 : decode code 174 = .ok (.aload_n 0, 1) := by decide +kernel
theorem dL_law_175 : decode code 175 = .ok (.iload_n 3, 1) := by decide +kernel
theorem dL_law_176 : decode code 176 = .ok (.iconst 3, 1) := by decide +kernel
theorem dL_law_177 : decode code 177 = .ok (.iadd, 1) := by decide +kernel
theorem dL_law_178 : decode code 178 = .ok (.iaload, 1) := by decide +kernel
theorem dL_law_179 : decode code 179 = .ok (.invokevirtual 18, 3) := by decide +kernel
theorem dL_law_182 : decode code 182 = .ok (.aload_n 2, 1) := by decide +kernel
theorem dL_law_183 : decode code 183 = .ok (.aload_n 0, 1) := by decide +kernel
theorem dL_law_184 : decode code 184 = .ok (.iload_n 3, 1) := by decide +kernel
theorem dL_law_185 : decode code 185 = .ok (.iconst 1, 1) := by decide +kernel
theorem dL_law_186 : decode code 186 = .ok (.iadd, 1) := by decide +kernel
theorem dL_law_187 : decode code 187 = .ok (.iaload, 1) := by decide +kernel
theorem dL_law_188 : decode code 188 = .ok (.aload_n 0, 1) := by decide +kernel
theorem dL_law_189 : decode code 189 = .ok (.iload_n 3, 1) := by decide +kernel
theorem dL_law_190 : decode code 190 = .ok (.iconst 2, 1) := by decide +kernel
theorem dL_law_191 : decode code 191 = .ok (.iadd, 1) := by decide +kernel
theorem dL_law_192 : decode code 192 = .ok (.iaload, 1) := by decide +kernel
theorem dL_law_193 : decode code 193 = .ok (.aload_n 0, 1) := by decide +kernel
theorem dL_law_194 : decode code 194 = .ok (.iload_n 3, 1) := by decide +kernel
theorem dL_law_195 : decode code 195 = .ok (.iconst 3, 1) := by decide +kernel
theorem dL_law_196 : decode code 196 = .ok (.iadd, 1) := by decide +kernel
theorem dL_law_197 : decode code 197 = .ok (.iaload, 1) := by decide +kernel
theorem dL_law_198 : decode code 198 = .ok (.invokevirtual 21, 3) := by decide +kernel
theorem dL_law_201 : decode code 201 = .ok (.if_icmp .eq 527, 3) := by decide +kernel
theorem dL_law_204 : decode code 204 = .ok (.iconst 0, 1) := by decide +kernel
theorem dL_law_205 : decode code 205 = .ok (.ireturn, 1) := by decide +kernel
theorem dL_law_206 : decode code 206 = .ok (.aload_n 1, 1) := by decide +kernel
theorem dL_law_207 : decode code 207 = .ok (.aload_n 0, 1) := by decide +kernel
theorem dL_law_208 : decode code 208 = .ok (.iload_n 3, 1) := by decide +kernel
theorem dL_law_209 : decode code 209 = .ok (.iconst 1, 1) := by decide +kernel
theorem dL_law_210 : decode code 210 = .ok (.iadd, 1) := by decide +kernel
theorem dL_law_211 : decode code 211 = .ok (.iaload, 1) := by decide +kernel
theorem dL_law_212 : decode code 212 = .ok (.aload_n 0, 1) := by decide +kernel
theorem dL_law_213 : decode code 213 = .ok (.iload_n 3, 1) := by decide +kernel
theorem dL_law_214 : decode code 214 = .ok (.iconst 2, 1) := by decide +kernel
theorem dL_law_215 : decode code 215 = .ok (.iadd, 1) := by decide +kernel
theorem dL_law_216 : decode code 216 = .ok (.iaload, 1) := by decide +kernel
theorem dL_law_217 : decode code 217 = .ok (.invokevirtual 22, 3) := by decide +kernel
theorem dL_law_220 : decode code 220 = .ok (.aload_n 2, 1) := by decide +kernel
theorem dL_law_221 : decode code 221 = .ok (.aload_n 0, 1) := by decide +kernel
theorem dL_law_222 : decode code 222 = .ok (.iload_n 3, 1) := by decide +kernel
theorem dL_law_223 : decode code 223 = .ok (.iconst 1, 1) := by decide +kernel
theorem dL_law_224 : decode code 224 = .ok (.iadd, 1) := by decide +kernel
theorem dL_law_225 : decode code 225 = .ok (.iaload, 1) := by decide +kernel
theorem dL_law_226 : decode code 226 = .ok (.aload_n 0, 1) := by decide +kernel
theorem dL_law_227 : decode code 227 = .ok (.iload_n 3, 1) := by decide +kernel
theorem dL_law_228 : decode code 228 = .ok (.iconst 2, 1) := by decide +kernel
theorem dL_law_229 : decode code 229 = .ok (.iadd, 1) := by decide +kernel
theorem dL_law_230 : decode code 230 = .ok (.iaload, 1) := by decide +kernel
theorem dL_law_231 : decode code 231 = .ok (.invokevirtual 26, 3) := by decide +kernel
theorem dL_law_234 : decode code 234 = .ok (.if_icmp .eq 494, 3) := by decide +kernel
theorem dL_law_237 : decode code 237 = .ok (.iconst 0, 1) := by decide +kernel
theorem dL_law_238 : decode code 238 = .ok (.ireturn, 1) := by decide +kernel
theorem dL_law_239 : decode code 239 = .ok (.aload_n 1, 1) := by decide +kernel
theorem dL_law_240 : decode code 240 = .ok (.aload_n 0, 1) := by decide +kernel
theorem dL_law_241 : decode code 241 = .ok (.iload_n 3, 1) := by decide +kernel
theorem dL_law_242 : decode code 242 = .ok (.iconst 1, 1) := by decide +kernel
theorem dL_law_243 : decode code 243 = .ok (.iadd, 1) := by decide +kernel
theorem dL_law_244 : decode code 244 = .ok (.iaload, 1) := by decide +kernel
theorem dL_law_245 : decode code 245 = .ok (.aload_n 0, 1) := by decide +kernel
theorem dL_law_246 : decode code 246 = .ok (.iload_n 3, 1) := by decide +kernel
theorem dL_law_247 : decode code 247 = .ok (.iconst 2, 1) := by decide +kernel
end
section
theorem dL_law_248 : decode code 248 = .ok (.iadd, 1) := by decide +kernel
theorem dL_law_249 : decode code 249 = .ok (.iaload, 1) := by decide +kernel
theorem dL_law_250 : decode code 250 = .ok (.invokevirtual 27, 3) := by decide +kernel
theorem dL_law_253 : decode code 253 = .ok (.aload_n 2, 1) := by decide +kernel
theorem dL_law_254 : decode code 254 = .ok (.aload_n 0, 1) := by decide +kernel
theorem dL_law_255 : decode code 255 = .ok (.iload_n 3, 1) := by decide +kernel
theorem dL_law_256 : decode code 256 = .ok (.iconst 1, 1) := by decide +kernel
theorem dL_law_257 : decode code 257 = .ok (.iadd, 1) := by decide +kernel
theorem dL_law_258 : decode code 258 = .ok (.iaload, 1) := by decide +kernel
theorem dL_law_259 : decode code 259 = .ok (.aload_n 0, 1) := by decide +kernel
theorem dL_law_260 : decode code 260 = .ok (.iload_n 3, 1) := by decide +kernel
theorem dL_law_261 : decode code 261 = .ok (.iconst 2, 1) := by decide +kernel
theorem dL_law_262 : decode code 262 = .ok (.iadd, 1) := by decide +kernel
theorem dL_law_263 : decode code 263 = .ok (.iaload, 1) := by decide +kernel
theorem dL_law_264 : decode code 264 = .ok (.invokevirtual 31, 3) := by decide +kernel
theorem dL_law_267 : decode code 267 = .ok (.lcmp, 1) := by decide +kernel
theorem dL_law_268 : decode code 268 = .ok (.ifCond .eq 460, 3) := by decide +kernel
theorem dL_law_271 : decode code 271 = .ok (.iconst 0, 1) := by decide +kernel
theorem dL_law_272 : decode code 272 = .ok (.ireturn, 1) := by decide +kernel
theorem dL_law_273 : decode code 273 = .ok (.aload_n 1, 1) := by decide +kernel
theorem dL_law_274 : decode code 274 = .ok (.aload_n 0, 1) := by decide +kernel
theorem dL_law_275 : decode code 275 = .ok (.iload_n 3, 1) := by decide +kernel
theorem dL_law_276 : decode code 276 = .ok (.iconst 1, 1) := by decide +kernel
theorem dL_law_277 : decode code 277 = .ok (.iadd, 1) := by decide +kernel
theorem dL_law_278 : decode code 278 = .ok (.iaload, 1) := by decide +kernel
theorem dL_law_279 : decode code 279 = .ok (.aload_n 0, 1) := by decide +kernel
theorem dL_law_280 : decode code 280 = .ok (.iload_n 3, 1) := by decide +kernel
theorem dL_law_281 : decode code 281 = .ok (.iconst 2, 1) := by decide +kernel
theorem dL_law_282 : decode code 282 = .ok (.iadd, 1) := by decide +kernel
theorem dL_law_283 : decode code 283 = .ok (.iaload, 1) := by decide +kernel
theorem dL_law_284 : decode code 284 = .ok (.invokevirtual 32, 3) := by decide +kernel
theorem dL_law_287 : decode code 287 = .ok (.aload_n 2, 1) := by decide +kernel
theorem dL_law_288 : decode code 288 = .ok (.aload_n 0, 1) := by decide +kernel
theorem dL_law_289 : decode code 289 = .ok (.iload_n 3, 1) := by decide +kernel
theorem dL_law_290 : decode code 290 = .ok (.iconst 1, 1) := by decide +kernel
theorem dL_law_291 : decode code 291 = .ok (.iadd, 1) := by decide +kernel
theorem dL_law_292 : decode code 292 = .ok (.iaload, 1) := by decide +kernel
theorem dL_law_293 : decode code 293 = .ok (.aload_n 0, 1) := by decide +kernel
theorem dL_law_294 : decode code 294 = .ok (.iload_n 3, 1) := by decide +kernel
theorem dL_law_295 : decode code 295 = .ok (.iconst 2, 1) := by decide +kernel
theorem dL_law_296 : decode code 296 = .ok (.iadd, 1) := by decide +kernel
theorem dL_law_297 : decode code 297 = .ok (.iaload, 1) := by decide +kernel
theorem dL_law_298 : decode code 298 = .ok (.invokevirtual 35, 3) := by decide +kernel
theorem dL_law_301 : decode code 301 = .ok (.lcmp, 1) := by decide +kernel
theorem dL_law_302 : decode code 302 = .ok (.ifCond .eq 426, 3) := by decide +kernel
theorem dL_law_305 : decode code 305 = .ok (.iconst 0, 1) := by decide +kernel
theorem dL_law_306 : decode code 306 = .ok (.ireturn, 1) := by decide +kernel
theorem dL_law_307 : decode code 307 = .ok (.aload_n 1, 1) := by decide +kernel
theorem dL_law_308 : decode code 308 = .ok (.aload_n 0, 1) := by decide +kernel
theorem dL_law_309 : decode code 309 = .ok (.iload_n 3, 1) := by decide +kernel
theorem dL_law_310 : decode code 310 = .ok (.iconst 1, 1) := by decide +kernel
theorem dL_law_311 : decode code 311 = .ok (.iadd, 1) := by decide +kernel
theorem dL_law_312 : decode code 312 = .ok (.iaload, 1) := by decide +kernel
theorem dL_law_313 : decode code 313 = .ok (.aload_n 0, 1) := by decide +kernel
theorem dL_law_314 : decode code 314 = .ok (.iload_n 3, 1) := by decide +kernel
theorem dL_law_315 : decode code 315 = .ok (.iconst 2, 1) := by decide +kernel
theorem dL_law_316 : decode code 316 = .ok (.iadd, 1) := by decide +kernel
theorem dL_law_317 : decode code 317 = .ok (.iaload, 1) := by decide +kernel
theorem dL_law_318 : decode code 318 = .ok (.aload_n 0, 1) := by decide +kernel
theorem dL_law_319 : decode code 319 = .ok (.iload_n 3, 1) := by decide +kernel
theorem dL_law_320 : decode code 320 = .ok (.iconst 3, 1) := by decide +kernel
theorem dL_law_321 : decode code 321 = .ok (.iadd, 1) := by decide +kernel
theorem dL_law_322 : decode code 322 = .ok (.iaload, 1) := by decide +kernel
theorem dL_law_323 : decode code 323 = .ok (.invokevirtual 36, 3) := by decide +kernel
theorem dL_law_326 : decode code 326 = .ok (.aload_n 2, 1) := by decide +kernel
theorem dL_law_327 : decode code 327 = .ok (.aload_n 0, 1) := by decide +kernel
theorem dL_law_328 : decode code 328 = .ok (.iload_n 3, 1) := by decide +kernel
theorem dL_law_329 : decode code 329 = .ok (.iconst 1, 1) := by decide +kernel
theorem dL_law_330 : decode code 330 = .ok (.iadd, 1) := by decide +kernel
theorem dL_law_331 : decode code 331 = .ok (.iaload, 1) := by decide +kernel
theorem dL_law_332 : decode code 332 = .ok (.aload_n 0, 1) := by decide +kernel
theorem dL_law_333 : decode code 333 = .ok (.iload_n 3, 1) := by decide +kernel
theorem dL_law_334 : decode code 334 = .ok (.iconst 2, 1) := by decide +kernel
theorem dL_law_335 : decode code 335 = .ok (.iadd, 1) := by decide +kernel
theorem dL_law_336 : decode code 336 = .ok (.iaload, 1) := by decide +kernel
theorem dL_law_337 : decode code 337 = .ok (.aload_n 0, 1) := by decide +kernel
theorem dL_law_338 : decode code 338 = .ok (.iload_n 3, 1) := by decide +kernel
theorem dL_law_339 : decode code 339 = .ok (.iconst 3, 1) := by decide +kernel
theorem dL_law_340 : decode code 340 = .ok (.iadd, 1) := by decide +kernel
theorem dL_law_341 : decode code 341 = .ok (.iaload, 1) := by decide +kernel
theorem dL_law_342 : decode code 342 = .ok (.invokevirtual 39, 3) := by decide +kernel
theorem dL_law_345 : decode code 345 = .ok (.if_icmp .eq 383, 3) := by decide +kernel
theorem dL_law_348 : decode code 348 = .ok (.iconst 0, 1) := by decide +kernel
theorem dL_law_349 : decode code 349 = .ok (.ireturn, 1) := by decide +kernel
theorem dL_law_350 : decode code 350 = .ok (.aload_n 1, 1) := by decide +kernel
theorem dL_law_351 : decode code 351 = .ok (.aload_n 0, 1) := by decide +kernel
theorem dL_law_352 : decode code 352 = .ok (.iload_n 3, 1) := by decide +kernel
theorem dL_law_353 : decode code 353 = .ok (.iconst 1, 1) := by decide +kernel
theorem dL_law_354 : decode code 354 = .ok (.iadd, 1) := by decide +kernel
theorem dL_law_355 : decode code 355 = .ok (.iaload, 1) := by decide +kernel
theorem dL_law_356 : decode code 356 = .ok (.aload_n 0, 1) := by decide +kernel
theorem dL_law_357 : decode code 357 = .ok (.iload_n 3, 1) := by decide +kernel
theorem dL_law_358 : decode code 358 = .ok (.iconst 2, 1) := by decide +kernel
theorem dL_law_359 : decode code 359 = .ok (.iadd, 1) := by decide +kernel
theorem dL_law_360 : decode code 360 = .ok (.iaload, 1) := by decide +kernel
theorem dL_law_361 : decode code 361 = .ok (.invokevirtual 40, 3) := by decide +kernel
theorem dL_law_364 : decode code 364 = .ok (.aload_n 2, 1) := by decide +kernel
theorem dL_law_365 : decode code 365 = .ok (.aload_n 0, 1) := by decide +kernel
theorem dL_law_366 : decode code 366 = .ok (.iload_n 3, 1) := by decide +kernel
theorem dL_law_367 : decode code 367 = .ok (.iconst 1, 1) := by decide +kernel
theorem dL_law_368 : decode code 368 = .ok (.iadd, 1) := by decide +kernel
theorem dL_law_369 : decode code 369 = .ok (.iaload, 1) := by decide +kernel
theorem dL_law_370 : decode code 370 = .ok (.aload_n 0, 1) := by decide +kernel
theorem dL_law_371 : decode code 371 = .ok (.iload_n 3, 1) := by decide +kernel
theorem dL_law_372 : decode code 372 = .ok (.iconst 2, 1) := by decide +kernel
theorem dL_law_373 : decode code 373 = .ok (.iadd, 1) := by decide +kernel
theorem dL_law_374 : decode code 374 = .ok (.iaload, 1) := by decide +kernel
theorem dL_law_375 : decode code 375 = .ok (.invokevirtual 43, 3) := by decide +kernel
theorem dL_law_378 : decode code 378 = .ok (.if_icmp .eq 350, 3) := by decide +kernel
theorem dL_law_381 : decode code 381 = .ok (.iconst 0, 1) := by decide +kernel
theorem dL_law_382 : decode code 382 = .ok (.ireturn, 1) := by decide +kernel
theorem dL_law_383 : decode code 383 = .ok (.aload_n 1, 1) := by decide +kernel
theorem dL_law_384 : decode code 384 = .ok (.aload_n 0, 1) := by decide +kernel
theorem dL_law_385 : decode code 385 = .ok (.iload_n 3, 1) := by decide +kernel
theorem dL_law_386 : decode code 386 = .ok (.iconst 1, 1) := by decide +kernel
theorem dL_law_387 : decode code 387 = .ok (.iadd, 1) := by decide +kernel
theorem dL_law_388 : decode code 388 = .ok (.iaload, 1) := by decide +kernel
theorem dL_law_389 : decode code 389 = .ok (.aload_n 0, 1) := by decide +kernel
theorem dL_law_390 : decode code 390 = .ok (.iload_n 3, 1) := by decide +kernel
theorem dL_law_391 : decode code 391 = .ok (.iconst 2, 1) := by decide +kernel
theorem dL_law_392 : decode code 392 = .ok (.iadd, 1) := by decide +kernel
theorem dL_law_393 : decode code 393 = .ok (.iaload, 1) := by decide +kernel
theorem dL_law_394 : decode code 394 = .ok (.invokevirtual 44, 3) := by decide +kernel
theorem dL_law_397 : decode code 397 = .ok (.aload_n 2, 1) := by decide +kernel
theorem dL_law_398 : decode code 398 = .ok (.aload_n 0, 1) := by decide +kernel
theorem dL_law_399 : decode code 399 = .ok (.iload_n 3, 1) := by decide +kernel
theorem dL_law_400 : decode code 400 = .ok (.iconst 1, 1) := by decide +kernel
theorem dL_law_401 : decode code 401 = .ok (.iadd, 1) := by decide +kernel
theorem dL_law_402 : decode code 402 = .ok (.iaload, 1) := by decide +kernel
theorem dL_law_403 : decode code 403 = .ok (.aload_n 0, 1) := by decide +kernel
theorem dL_law_404 : decode code 404 = .ok (.iload_n 3, 1) := by decide +kernel
theorem dL_law_405 : decode code 405 = .ok (.iconst 2, 1) := by decide +kernel
end
section
theorem dL_law_406 : decode code 406 = .ok (.iadd, 1) := by decide +kernel
theorem dL_law_407 : decode code 407 = .ok (.iaload, 1) := by decide +kernel
theorem dL_law_408 : decode code 408 = .ok (.invokevirtual 47, 3) := by decide +kernel
theorem dL_law_411 : decode code 411 = .ok (.if_icmp .eq 317, 3) := by decide +kernel
theorem dL_law_414 : decode code 414 = .ok (.iconst 0, 1) := by decide +kernel
theorem dL_law_415 : decode code 415 = .ok (.ireturn, 1) := by decide +kernel
theorem dL_law_416 : decode code 416 = .ok (.aload_n 1, 1) := by decide +kernel
theorem dL_law_417 : decode code 417 = .ok (.aload_n 0, 1) := by decide +kernel
theorem dL_law_418 : decode code 418 = .ok (.iload_n 3, 1) := by decide +kernel
theorem dL_law_419 : decode code 419 = .ok (.iconst 1, 1) := by decide +kernel
theorem dL_law_420 : decode code 420 = .ok (.iadd, 1) := by decide +kernel
theorem dL_law_421 : decode code 421 = .ok (.iaload, 1) := by decide +kernel
theorem dL_law_422 : decode code 422 = .ok (.aload_n 0, 1) := by decide +kernel
theorem dL_law_423 : decode code 423 = .ok (.iload_n 3, 1) := by decide +kernel
theorem dL_law_424 : decode code 424 = .ok (.iconst 2, 1) := by decide +kernel
theorem dL_law_425 : decode code 425 = .ok (.iadd, 1) := by decide +kernel
theorem dL_law_426 : decode code 426 = .ok (.iaload, 1) := by decide +kernel
theorem dL_law_427 : decode code 427 = .ok (.invokevirtual 48, 3) := by decide +kernel
theorem dL_law_430 : decode code 430 = .ok (.aload_n 2, 1) := by decide +kernel
theorem dL_law_431 : decode code 431 = .ok (.aload_n 0, 1) := by decide +kernel
theorem dL_law_432 : decode code 432 = .ok (.iload_n 3, 1) := by decide +kernel
theorem dL_law_433 : decode code 433 = .ok (.iconst 1, 1) := by decide +kernel
theorem dL_law_434 : decode code 434 = .ok (.iadd, 1) := by decide +kernel
theorem dL_law_435 : decode code 435 = .ok (.iaload, 1) := by decide +kernel
theorem dL_law_436 : decode code 436 = .ok (.aload_n 0, 1) := by decide +kernel
theorem dL_law_437 : decode code 437 = .ok (.iload_n 3, 1) := by decide +kernel
theorem dL_law_438 : decode code 438 = .ok (.iconst 2, 1) := by decide +kernel
theorem dL_law_439 : decode code 439 = .ok (.iadd, 1) := by decide +kernel
theorem dL_law_440 : decode code 440 = .ok (.iaload, 1) := by decide +kernel
theorem dL_law_441 : decode code 441 = .ok (.invokevirtual 51, 3) := by decide +kernel
theorem dL_law_444 : decode code 444 = .ok (.lcmp, 1) := by decide +kernel
theorem dL_law_445 : decode code 445 = .ok (.ifCond .eq 283, 3) := by decide +kernel
theorem dL_law_448 : decode code 448 = .ok (.iconst 0, 1) := by decide +kernel
theorem dL_law_449 : decode code 449 = .ok (.ireturn, 1) := by decide +kernel
theorem dL_law_450 : decode code 450 = .ok (.aload_n 1, 1) := by decide +kernel
theorem dL_law_451 : decode code 451 = .ok (.aload_n 0, 1) := by decide +kernel
theorem dL_law_452 : decode code 452 = .ok (.iload_n 3, 1) := by decide +kernel
theorem dL_law_453 : decode code 453 = .ok (.iconst 1, 1) := by decide +kernel
theorem dL_law_454 : decode code 454 = .ok (.iadd, 1) := by decide +kernel
theorem dL_law_455 : decode code 455 = .ok (.iaload, 1) := by decide +kernel
theorem dL_law_456 : decode code 456 = .ok (.aload_n 0, 1) := by decide +kernel
theorem dL_law_457 : decode code 457 = .ok (.iload_n 3, 1) := by decide +kernel
theorem dL_law_458 : decode code 458 = .ok (.iconst 2, 1) := by decide +kernel
theorem dL_law_459 : decode code 459 = .ok (.iadd, 1) := by decide +kernel
theorem dL_law_460 : decode code 460 = .ok (.iaload, 1) := by decide +kernel
theorem dL_law_461 : decode code 461 = .ok (.aload_n 0, 1) := by decide +kernel
theorem dL_law_462 : decode code 462 = .ok (.iload_n 3, 1) := by decide +kernel
theorem dL_law_463 : decode code 463 = .ok (.iconst 3, 1) := by decide +kernel
theorem dL_law_464 : decode code 464 = .ok (.iadd, 1) := by decide +kernel
theorem dL_law_465 : decode code 465 = .ok (.iaload, 1) := by decide +kernel
theorem dL_law_466 : decode code 466 = .ok (.invokevirtual 52, 3) := by decide +kernel
theorem dL_law_469 : decode code 469 = .ok (.aload_n 2, 1) := by decide +kernel
theorem dL_law_470 : decode code 470 = .ok (.aload_n 0, 1) := by decide +kernel
theorem dL_law_471 : decode code 471 = .ok (.iload_n 3, 1) := by decide +kernel
theorem dL_law_472 : decode code 472 = .ok (.iconst 1, 1) := by decide +kernel
theorem dL_law_473 : decode code 473 = .ok (.iadd, 1) := by decide +kernel
theorem dL_law_474 : decode code 474 = .ok (.iaload, 1) := by decide +kernel
theorem dL_law_475 : decode code 475 = .ok (.aload_n 0, 1) := by decide +kernel
theorem dL_law_476 : decode code 476 = .ok (.iload_n 3, 1) := by decide +kernel
theorem dL_law_477 : decode code 477 = .ok (.iconst 2, 1) := by decide +kernel
theorem dL_law_478 : decode code 478 = .ok (.iadd, 1) := by decide +kernel
theorem dL_law_479 : decode code 479 = .ok (.iaload, 1) := by decide +kernel
theorem dL_law_480 : decode code 480 = .ok (.aload_n 0, 1) := by decide +kernel
theorem dL_law_481 : decode code 481 = .ok (.iload_n 3, 1) := by decide +kernel
theorem dL_law_482 : decode code 482 = .ok (.iconst 3, 1) := by decide +kernel
theorem dL_law_483 : decode code 483 = .ok (.iadd, 1) := by decide +kernel
theorem dL_law_484 : decode code 484 = .ok (.iaload, 1) := by decide +kernel
theorem dL_law_485 : decode code 485 = .ok (.invokevirtual 56, 3) := by decide +kernel
theorem dL_law_488 : decode code 488 = .ok (.lcmp, 1) := by decide +kernel
theorem dL_law_489 : decode code 489 = .ok (.ifCond .eq 239, 3) := by decide +kernel
theorem dL_law_492 : decode code 492 = .ok (.iconst 0, 1) := by decide +kernel
theorem dL_law_493 : decode code 493 = .ok (.ireturn, 1) := by decide +kernel
theorem dL_law_494 : decode code 494 = .ok (.aload_n 1, 1) := by decide +kernel
theorem dL_law_495 : decode code 495 = .ok (.aload_n 0, 1) := by decide +kernel
theorem dL_law_496 : decode code 496 = .ok (.iload_n 3, 1) := by decide +kernel
theorem dL_law_497 : decode code 497 = .ok (.iconst 1, 1) := by decide +kernel
theorem dL_law_498 : decode code 498 = .ok (.iadd, 1) := by decide +kernel
theorem dL_law_499 : decode code 499 = .ok (.iaload, 1) := by decide +kernel
theorem dL_law_500 : decode code 500 = .ok (.aload_n 0, 1) := by decide +kernel
theorem dL_law_501 : decode code 501 = .ok (.iload_n 3, 1) := by decide +kernel
theorem dL_law_502 : decode code 502 = .ok (.iconst 2, 1) := by decide +kernel
theorem dL_law_503 : decode code 503 = .ok (.iadd, 1) := by decide +kernel
theorem dL_law_504 : decode code 504 = .ok (.iaload, 1) := by decide +kernel
theorem dL_law_505 : decode code 505 = .ok (.aload_n 0, 1) := by decide +kernel
theorem dL_law_506 : decode code 506 = .ok (.iload_n 3, 1) := by decide +kernel
theorem dL_law_507 : decode code 507 = .ok (.iconst 3, 1) := by decide +kernel
theorem dL_law_508 : decode code 508 = .ok (.iadd, 1) := by decide +kernel
theorem dL_law_509 : decode code 509 = .ok (.iaload, 1) := by decide +kernel
theorem dL_law_510 : decode code 510 = .ok (.invokevirtual 57, 3) := by decide +kernel
theorem dL_law_513 : decode code 513 = .ok (.aload_n 2, 1) := by decide +kernel
theorem dL_law_514 : decode code 514 = .ok (.aload_n 0, 1) := by decide +kernel
theorem dL_law_515 : decode code 515 = .ok (.iload_n 3, 1) := by decide +kernel
theorem dL_law_516 : decode code 516 = .ok (.iconst 1, 1) := by decide +kernel
theorem dL_law_517 : decode code 517 = .ok (.iadd, 1) := by decide +kernel
theorem dL_law_518 : decode code 518 = .ok (.iaload, 1) := by decide +kernel
theorem dL_law_519 : decode code 519 = .ok (.aload_n 0, 1) := by decide +kernel
theorem dL_law_520 : decode code 520 = .ok (.iload_n 3, 1) := by decide +kernel
theorem dL_law_521 : decode code 521 = .ok (.iconst 2, 1) := by decide +kernel
theorem dL_law_522 : decode code 522 = .ok (.iadd, 1) := by decide +kernel
theorem dL_law_523 : decode code 523 = .ok (.iaload, 1) := by decide +kernel
theorem dL_law_524 : decode code 524 = .ok (.aload_n 0, 1) := by decide +kernel
theorem dL_law_525 : decode code 525 = .ok (.iload_n 3, 1) := by decide +kernel
theorem dL_law_526 : decode code 526 = .ok (.iconst 3, 1) := by decide +kernel
theorem dL_law_527 : decode code 527 = .ok (.iadd, 1) := by decide +kernel
theorem dL_law_528 : decode code 528 = .ok (.iaload, 1) := by decide +kernel
theorem dL_law_529 : decode code 529 = .ok (.invokevirtual 60, 3) := by decide +kernel
theorem dL_law_532 : decode code 532 = .ok (.if_icmp .eq 196, 3) := by decide +kernel
theorem dL_law_535 : decode code 535 = .ok (.iconst 0, 1) := by decide +kernel
theorem dL_law_536 : decode code 536 = .ok (.ireturn, 1) := by decide +kernel
theorem dL_law_537 : decode code 537 = .ok (.aload_n 1, 1) := by decide +kernel
theorem dL_law_538 : decode code 538 = .ok (.aload_n 0, 1) := by decide +kernel
theorem dL_law_539 : decode code 539 = .ok (.iload_n 3, 1) := by decide +kernel
theorem dL_law_540 : decode code 540 = .ok (.iconst 1, 1) := by decide +kernel
theorem dL_law_541 : decode code 541 = .ok (.iadd, 1) := by decide +kernel
theorem dL_law_542 : decode code 542 = .ok (.iaload, 1) := by decide +kernel
theorem dL_law_543 : decode code 543 = .ok (.aload_n 0, 1) := by decide +kernel
theorem dL_law_544 : decode code 544 = .ok (.iload_n 3, 1) := by decide +kernel
theorem dL_law_545 : decode code 545 = .ok (.iconst 2, 1) := by decide +kernel
theorem dL_law_546 : decode code 546 = .ok (.iadd, 1) := by decide +kernel
theorem dL_law_547 : decode code 547 = .ok (.iaload, 1) := by decide +kernel
theorem dL_law_548 : decode code 548 = .ok (.invokevirtual 61, 3) := by decide +kernel
theorem dL_law_551 : decode code 551 = .ok (.aload_n 2, 1) := by decide +kernel
theorem dL_law_552 : decode code 552 = .ok (.aload_n 0, 1) := by decide +kernel
theorem dL_law_553 : decode code 553 = .ok (.iload_n 3, 1) := by decide +kernel
theorem dL_law_554 : decode code 554 = .ok (.iconst 1, 1) := by decide +kernel
theorem dL_law_555 : decode code 555 = .ok (.iadd, 1) := by decide +kernel
theorem dL_law_556 : decode code 556 = .ok (.iaload, 1) := by decide +kernel
theorem dL_law_557 : decode code 557 = .ok (.aload_n 0, 1) := by decide +kernel
theorem dL_law_558 : decode code 558 = .ok (.iload_n 3, 1) := by decide +kernel
theorem dL_law_559 : decode code 559 = .ok (.iconst 2, 1) := by decide +kernel
theorem dL_law_560 : decode code 560 = .ok (.iadd, 1) := by decide +kernel
theorem dL_law_561 : decode code 561 = .ok (.iaload, 1) := by decide +kernel
end
section
theorem dL_law_562 : decode code 562 = .ok (.invokevirtual 64, 3) := by decide +kernel
theorem dL_law_565 : decode code 565 = .ok (.if_icmp .eq 163, 3) := by decide +kernel
theorem dL_law_568 : decode code 568 = .ok (.iconst 0, 1) := by decide +kernel
theorem dL_law_569 : decode code 569 = .ok (.ireturn, 1) := by decide +kernel
theorem dL_law_570 : decode code 570 = .ok (.aload_n 1, 1) := by decide +kernel
theorem dL_law_571 : decode code 571 = .ok (.aload_n 0, 1) := by decide +kernel
theorem dL_law_572 : decode code 572 = .ok (.iload_n 3, 1) := by decide +kernel
theorem dL_law_573 : decode code 573 = .ok (.iconst 1, 1) := by decide +kernel
theorem dL_law_574 : decode code 574 = .ok (.iadd, 1) := by decide +kernel
theorem dL_law_575 : decode code 575 = .ok (.iaload, 1) := by decide +kernel
theorem dL_law_576 : decode code 576 = .ok (.aload_n 0, 1) := by decide +kernel
theorem dL_law_577 : decode code 577 = .ok (.iload_n 3, 1) := by decide +kernel
theorem dL_law_578 : decode code 578 = .ok (.iconst 2, 1) := by decide +kernel
theorem dL_law_579 : decode code 579 = .ok (.iadd, 1) := by decide +kernel
theorem dL_law_580 : decode code 580 = .ok (.iaload, 1) := by decide +kernel
theorem dL_law_581 : decode code 581 = .ok (.aload_n 0, 1) := by decide +kernel
theorem dL_law_582 : decode code 582 = .ok (.iload_n 3, 1) := by decide +kernel
theorem dL_law_583 : decode code 583 = .ok (.iconst 3, 1) := by decide +kernel
theorem dL_law_584 : decode code 584 = .ok (.iadd, 1) := by decide +kernel
theorem dL_law_585 : decode code 585 = .ok (.iaload, 1) := by decide +kernel
theorem dL_law_586 : decode code 586 = .ok (.invokevirtual 65, 3) := by decide +kernel
theorem dL_law_589 : decode code 589 = .ok (.aload_n 2, 1) := by decide +kernel
theorem dL_law_590 : decode code 590 = .ok (.aload_n 0, 1) := by decide +kernel
theorem dL_law_591 : decode code 591 = .ok (.iload_n 3, 1) := by decide +kernel
theorem dL_law_592 : decode code 592 = .ok (.iconst 1, 1) := by decide +kernel
theorem dL_law_593 : decode code 593 = .ok (.iadd, 1) := by decide +kernel
theorem dL_law_594 : decode code 594 = .ok (.iaload, 1) := by decide +kernel
theorem dL_law_595 : decode code 595 = .ok (.aload_n 0, 1) := by decide +kernel
theorem dL_law_596 : decode code 596 = .ok (.iload_n 3, 1) := by decide +kernel
theorem dL_law_597 : decode code 597 = .ok (.iconst 2, 1) := by decide +kernel
theorem dL_law_598 : decode code 598 = .ok (.iadd, 1) := by decide +kernel
theorem dL_law_599 : decode code 599 = .ok (.iaload, 1) := by decide +kernel
theorem dL_law_600 : decode code 600 = .ok (.aload_n 0, 1) := by decide +kernel
theorem dL_law_601 : decode code 601 = .ok (.iload_n 3, 1) := by decide +kernel
theorem dL_law_602 : decode code 602 = .ok (.iconst 3, 1) := by decide +kernel
theorem dL_law_603 : decode code 603 = .ok (.iadd, 1) := by decide +kernel
theorem dL_law_604 : decode code 604 = .ok (.iaload, 1) := by decide +kernel
theorem dL_law_605 : decode code 605 = .ok (.invokevirtual 68, 3) := by decide +kernel
theorem dL_law_608 : decode code 608 = .ok (.if_icmp .eq 120, 3) := by decide +kernel
theorem dL_law_611 : decode code 611 = .ok (.iconst 0, 1) := by decide +kernel
theorem dL_law_612 : decode code 612 = .ok (.ireturn, 1) := by decide +kernel
theorem dL_law_613 : decode code 613 = .ok (.aload_n 1, 1) := by decide +kernel
theorem dL_law_614 : decode code 614 = .ok (.aload_n 0, 1) := by decide +kernel
theorem dL_law_615 : decode code 615 = .ok (.iload_n 3, 1) := by decide +kernel
theorem dL_law_616 : decode code 616 = .ok (.iconst 1, 1) := by decide +kernel
theorem dL_law_617 : decode code 617 = .ok (.iadd, 1) := by decide +kernel
theorem dL_law_618 : decode code 618 = .ok (.iaload, 1) := by decide +kernel
theorem dL_law_619 : decode code 619 = .ok (.invokevirtual 69, 3) := by decide +kernel
theorem dL_law_622 : decode code 622 = .ok (.aload_n 2, 1) := by decide +kernel
theorem dL_law_623 : decode code 623 = .ok (.aload_n 0, 1) := by decide +kernel
theorem dL_law_624 : decode code 624 = .ok (.iload_n 3, 1) := by decide +kernel
theorem dL_law_625 : decode code 625 = .ok (.iconst 1, 1) := by decide +kernel
theorem dL_law_626 : decode code 626 = .ok (.iadd, 1) := by decide +kernel
theorem dL_law_627 : decode code 627 = .ok (.iaload, 1) := by decide +kernel
theorem dL_law_628 : decode code 628 = .ok (.invokevirtual 73, 3) := by decide +kernel
theorem dL_law_631 : decode code 631 = .ok (.if_icmp .eq 97, 3) := by decide +kernel
theorem dL_law_634 : decode code 634 = .ok (.iconst 0, 1) := by decide +kernel
theorem dL_law_635 : decode code 635 = .ok (.ireturn, 1) := by decide +kernel
theorem dL_law_636 : decode code 636 = .ok (.aload_n 1, 1) := by decide +kernel
theorem dL_law_637 : decode code 637 = .ok (.invokevirtual 74, 3) := by decide +kernel
theorem dL_law_640 : decode code 640 = .ok (.aload_n 2, 1) := by decide +kernel
theorem dL_law_641 : decode code 641 = .ok (.invokevirtual 78, 3) := by decide +kernel
theorem dL_law_644 : decode code 644 = .ok (.if_icmp .eq 84, 3) := by decide +kernel
theorem dL_law_647 : decode code 647 = .ok (.iconst 0, 1) := by decide +kernel
theorem dL_law_648 : decode code 648 = .ok (.ireturn, 1) := by decide +kernel
theorem dL_law_649 : decode code 649 = .ok (.aload_n 1, 1) := by decide +kernel
theorem dL_law_650 : decode code 650 = .ok (.aload_n 0, 1) := by decide +kernel
theorem dL_law_651 : decode code 651 = .ok (.iload_n 3, 1) := by decide +kernel
theorem dL_law_652 : decode code 652 = .ok (.iconst 1, 1) := by decide +kernel
theorem dL_law_653 : decode code 653 = .ok (.iadd, 1) := by decide +kernel
theorem dL_law_654 : decode code 654 = .ok (.iaload, 1) := by decide +kernel
theorem dL_law_655 : decode code 655 = .ok (.aload_n 0, 1) := by decide +kernel
theorem dL_law_656 : decode code 656 = .ok (.iload_n 3, 1) := by decide +kernel
theorem dL_law_657 : decode code 657 = .ok (.iconst 2, 1) := by decide +kernel
theorem dL_law_658 : decode code 658 = .ok (.iadd, 1) := by decide +kernel
theorem dL_law_659 : decode code 659 = .ok (.iaload, 1) := by decide +kernel
theorem dL_law_660 : decode code 660 = .ok (.invokevirtual 79, 3) := by decide +kernel
theorem dL_law_663 : decode code 663 = .ok (.aload_n 2, 1) := by decide +kernel
theorem dL_law_664 : decode code 664 = .ok (.aload_n 0, 1) := by decide +kernel
theorem dL_law_665 : decode code 665 = .ok (.iload_n 3, 1) := by decide +kernel
theorem dL_law_666 : decode code 666 = .ok (.iconst 1, 1) := by decide +kernel
theorem dL_law_667 : decode code 667 = .ok (.iadd, 1) := by decide +kernel
theorem dL_law_668 : decode code 668 = .ok (.iaload, 1) := by decide +kernel
theorem dL_law_669 : decode code 669 = .ok (.aload_n 0, 1) := by decide +kernel
theorem dL_law_670 : decode code 670 = .ok (.iload_n 3, 1) := by decide +kernel
theorem dL_law_671 : decode code 671 = .ok (.iconst 2, 1) := by decide +kernel
theorem dL_law_672 : decode code 672 = .ok (.iadd, 1) := by decide +kernel
theorem dL_law_673 : decode code 673 = .ok (.iaload, 1) := by decide +kernel
theorem dL_law_674 : decode code 674 = .ok (.invokevirtual 82, 3) := by decide +kernel
theorem dL_law_677 : decode code 677 = .ok (.if_icmp .eq 51, 3) := by decide +kernel
theorem dL_law_680 : decode code 680 = .ok (.iconst 0, 1) := by decide +kernel
theorem dL_law_681 : decode code 681 = .ok (.ireturn, 1) := by decide +kernel
theorem dL_law_682 : decode code 682 = .ok (.aload_n 1, 1) := by decide +kernel
theorem dL_law_683 : decode code 683 = .ok (.aload_n 0, 1) := by decide +kernel
theorem dL_law_684 : decode code 684 = .ok (.iload_n 3, 1) := by decide +kernel
theorem dL_law_685 : decode code 685 = .ok (.iconst 1, 1) := by decide +kernel
theorem dL_law_686 : decode code 686 = .ok (.iadd, 1) := by decide +kernel
theorem dL_law_687 : decode code 687 = .ok (.iaload, 1) := by decide +kernel
theorem dL_law_688 : decode code 688 = .ok (.invokevirtual 83, 3) := by decide +kernel
theorem dL_law_691 : decode code 691 = .ok (.aload_n 2, 1) := by decide +kernel
theorem dL_law_692 : decode code 692 = .ok (.aload_n 0, 1) := by decide +kernel
theorem dL_law_693 : decode code 693 = .ok (.iload_n 3, 1) := by decide +kernel
theorem dL_law_694 : decode code 694 = .ok (.iconst 1, 1) := by decide +kernel
theorem dL_law_695 : decode code 695 = .ok (.iadd, 1) := by decide +kernel
theorem dL_law_696 : decode code 696 = .ok (.iaload, 1) := by decide +kernel
theorem dL_law_697 : decode code 697 = .ok (.invokevirtual 86, 3) := by decide +kernel
theorem dL_law_700 : decode code 700 = .ok (.if_icmp .eq 28, 3) := by decide +kernel
theorem dL_law_703 : decode code 703 = .ok (.iconst 0, 1) := by decide +kernel
theorem dL_law_704 : decode code 704 = .ok (.ireturn, 1) := by decide +kernel
theorem dL_law_705 : decode code 705 = .ok (.aload_n 1, 1) := by decide +kernel
theorem dL_law_706 : decode code 706 = .ok (.aload_n 0, 1) := by decide +kernel
theorem dL_law_707 : decode code 707 = .ok (.iload_n 3, 1) := by decide +kernel
theorem dL_law_708 : decode code 708 = .ok (.iconst 1, 1) := by decide +kernel
theorem dL_law_709 : decode code 709 = .ok (.iadd, 1) := by decide +kernel
theorem dL_law_710 : decode code 710 = .ok (.iaload, 1) := by decide +kernel
theorem dL_law_711 : decode code 711 = .ok (.invokevirtual 87, 3) := by decide +kernel
theorem dL_law_714 : decode code 714 = .ok (.aload_n 2, 1) := by decide +kernel
theorem dL_law_715 : decode code 715 = .ok (.aload_n 0, 1) := by decide +kernel
theorem dL_law_716 : decode code 716 = .ok (.iload_n 3, 1) := by decide +kernel
theorem dL_law_717 : decode code 717 = .ok (.iconst 1, 1) := by decide +kernel
theorem dL_law_718 : decode code 718 = .ok (.iadd, 1) := by decide +kernel
theorem dL_law_719 : decode code 719 = .ok (.iaload, 1) := by decide +kernel
theorem dL_law_720 : decode code 720 = .ok (.invokevirtual 90, 3) := by decide +kernel
theorem dL_law_723 : decode code 723 = .ok (.if_icmp .eq 5, 3) := by decide +kernel
theorem dL_law_726 : decode code 726 = .ok (.iconst 0, 1) := by decide +kernel
theorem dL_law_727 : decode code 727 = .ok (.ireturn, 1) := by decide +kernel
theorem dL_law_728 : decode code 728 = .ok (.iinc 3 4, 3) := by decide +kernel
theorem dL_law_731 : decode code 731 = .ok (.goto (-713), 3) := by decide +kernel
theorem dL_law_734 : decode code 734 = .ok (.iconst 1, 1) := by decide +kernel
theorem dL_law_735 : decode code 735 = .ok (.ireturn, 1) := by decide +kernel
end
section
/-! Rows of my own over the kit: starts and ends of contracts, calls, arrays by Nat places. -/
def NW (U : State) : Prop := va_Nw (.methodLinkNest "StatRows$TripleRow" 25 yX_hash "StatRows") U ∧ va_Nw (.methodLinkNest "StatRows$RegisterRow" 19 yX_hash "StatRows") U
theorem NW.warm {s U : State} (hW : s.WarmedH U.vm) (h : NW s) : NW U := ⟨va_Nw.warmM hW h.1, va_Nw.warmM hW h.2⟩
theorem NW.same {u U : State} (e : u.vm = U.vm) (h : NW u) : NW U := ⟨va_Nw.same rfl e h.1, va_Nw.same rfl e h.2⟩
def zz_R (D : va_G) (cl : List vw_C) (tys : List (ClassId × FieldType)) (av : List Value) (w : va_W) : Array Value → State → Prop := va_Pc av (fun U => va_P D cl w U.heap ∧ va_K D cl tys U ∧ NW U)
def zz_N (av : List Value) : Array Value → State → Prop := fun v _ => v = av.toArray
def zz_P (D : va_G) (cl : List vw_C) (tys : List (ClassId × FieldType)) (av : List Value) (w : va_W) (sz : Nat) : Array Value → State → Prop := va_Pc av (fun U => U.heap.size = sz ∧ va_P D cl w U.heap ∧ va_K D cl tys U ∧ va_D (fun _ => True) w ∧ NW U)
def zz_B (D : va_G) (cl : List vw_C) (tys : List (ClassId × FieldType)) (A : Nat → Prop) (w : va_W) (t : State) : Prop := va_P D cl w t.heap ∧ va_K D cl tys t ∧ va_D A w
theorem zz_R_blind {D : va_G} {cl : List vw_C} {tys : List (ClassId × FieldType)} {av : List Value} {w : va_W} : FrameBlind (zz_R D cl tys av w) := fun a U g mk q => ⟨q.1, q.2.1, va_K.moved (u := U) (U := U.calling g mk a) (Vm.Alike.refl U.vm) q.2.2.1, NW.same rfl q.2.2.2⟩
theorem zz_P_blind {D : va_G} {cl : List vw_C} {tys : List (ClassId × FieldType)} {av : List Value} {w : va_W} {sz : Nat} : FrameBlind (zz_P D cl tys av w sz) := fun a U g mk q => ⟨q.1, q.2.1, q.2.2.1, va_K.moved (u := U) (U := U.calling g mk a) (Vm.Alike.refl U.vm) q.2.2.2.1, q.2.2.2.2.1, NW.same rfl q.2.2.2.2.2⟩
theorem zz_N_S {s : State} {H : Heap} {As : List Value} : PreS s H (zz_N As) As := ⟨fun _ _ _ _ q => q, fun _ _ _ => rfl⟩
theorem zz_R_S {s : State} {H : Heap} {D : va_G} {cl : List vw_C} {tys : List (ClassId × FieldType)} {As : List Value} {w : va_W} (hN : NW s) (hK : va_K D cl tys s) (hP : va_P D cl w H) : PreS s H (zz_R D cl tys As w) As :=
  ⟨zz_R_blind, fun U hU hW => ⟨rfl, by rw [hU]; exact hP, va_K.moved hW.alike hK, hN.warm hW⟩⟩
theorem zz_R_V {s : State} {H : Heap} {D : va_G} {cl : List vw_C} {tys : List (ClassId × FieldType)} {b : Addr} {As : List Value} {w : va_W} (hN : NW s) (hK : va_K D cl tys s) (hP : va_P D cl w H) (ci q0 : Nat) {C : String} {T : u_T} {N : Nat} {fs : List Value} (hc : cl[ci]? = some (C, T, N)) (he : w[q0]? = some (b, .inr (ci, fs))) : PreV s H C b (zz_R D cl tys (.ref b :: As) w) As :=
  ⟨zz_R_blind, va_recv hK hP hc he, fun U hU hW => ⟨rfl, by rw [hU]; exact hP, va_K.moved hW.alike hK, hN.warm hW⟩⟩
theorem zz_N_V {s : State} {H : Heap} {D : va_G} {cl : List vw_C} {tys : List (ClassId × FieldType)} {b : Addr} {As : List Value} {w : va_W} (hK : va_K D cl tys s) (hP : va_P D cl w H) (ci q0 : Nat) {C : String} {T : u_T} {N : Nat} {fs : List Value} (hc : cl[ci]? = some (C, T, N)) (he : w[q0]? = some (b, .inr (ci, fs))) : PreV s H C b (zz_N (.ref b :: As)) As :=
  ⟨fun _ _ _ _ q => q, va_recv hK hP hc he, fun _ _ _ => rfl⟩
theorem zz_P_S {s : State} {H : Heap} {D : va_G} {cl : List vw_C} {tys : List (ClassId × FieldType)} {A : Nat → Prop} {As : List Value} {w : va_W} (hN : NW s) (hK : va_K D cl tys s) (hP : va_P D cl w H) (hD : va_D A w) : PreS s H (zz_P D cl tys As w H.size) As :=
  ⟨zz_P_blind, fun U hU hW => ⟨rfl, by rw [hU], by rw [hU]; exact hP, va_K.moved hW.alike hK, hD.weaken (fun _ _ _ _ => trivial), hN.warm hW⟩⟩
theorem zz_P_V {s : State} {H : Heap} {D : va_G} {cl : List vw_C} {tys : List (ClassId × FieldType)} {A : Nat → Prop} {b : Addr} {As : List Value} {w : va_W} (hN : NW s) (hK : va_K D cl tys s) (hP : va_P D cl w H) (hD : va_D A w) (ci q0 : Nat) {C : String} {T : u_T} {N : Nat} {fs : List Value} (hc : cl[ci]? = some (C, T, N)) (he : w[q0]? = some (b, .inr (ci, fs))) : PreV s H C b (zz_P D cl tys (.ref b :: As) w H.size) As :=
  ⟨zz_P_blind, va_recv hK hP hc he, fun U hU hW => ⟨rfl, by rw [hU], by rw [hU]; exact hP, va_K.moved hW.alike hK, hD.weaken (fun _ _ _ _ => trivial), hN.warm hW⟩⟩
section ZZ
variable {p : Program} {l : Launch} {e : Env} {R : Room} {s : State} {m : MethodId} {args : Array Value} {below : List Frame} {meth : Method} {c : Code} {H : Heap} {locs : List Loc} {cells slots : Nat} {Q : State → Prop}
variable {cc : ByteArray} {pc : Nat} {ls : Array Slot} {rest st0 : List Value} {a : Array Value} {D : va_G} {cl : List vw_C} {A : Nat → Prop} {tys : List (ClassId × FieldType)} {ws : va_W} {H0 : Heap} {mc ms : Nat} {free : Addr → Prop}
theorem zz_run {g : JFrame} {Qa : State → Outcome → State → Prop} (h : va_Run p l e R s m args below meth c H locs cells slots mc ms g rest Qa free) : CallRun p l e R s m args below meth c H locs cells slots mc ms g rest Qa free := by
  intro T hT X
  obtain ⟨v, st₀, t, T', L, h0, X', hL, e1, -, hq, st⟩ := h T hT X
  exact ⟨v, st₀, t, T', L, h0, X', hL, e1, hq, st⟩
theorem zz_ci {v : Int32} (hr : CallRun p l e R s m args below meth c H locs cells slots 0 0 (F0 m pc ls st0) rest (vp_Si (fun r => r = v) a) (fun _ => False)) (kk : W p l e R s m args below meth c H locs cells slots Q (F0 m (pc + 3) ls (.int v :: rest))) : W p l e R s m args below meth c H locs cells slots Q (F0 m pc ls st0) :=
  vp_callSi hr (fun r h => by rw [h]; exact kk)
theorem zz_cl {v : Int64} (hr : CallRun p l e R s m args below meth c H locs cells slots 0 0 (F0 m pc ls st0) rest (vp_Sl (fun r => r = v) a) (fun _ => False)) (kk : W p l e R s m args below meth c H locs cells slots Q (F0 m (pc + 3) ls (.long v :: rest))) : W p l e R s m args below meth c H locs cells slots Q (F0 m pc ls st0) :=
  vp_callSl hr (fun r h => by rw [h]; exact kk)
theorem zz_top {x y : Int32} (h : x = y) (k : W p l e R s m args below meth c H locs cells slots Q (F0 m pc ls (.int y :: rest))) : W p l e R s m args below meth c H locs cells slots Q (F0 m pc ls (.int x :: rest)) := by rw [h]; exact k
theorem zz_topl {x y : Int64} (h : x = y) (k : W p l e R s m args below meth c H locs cells slots Q (F0 m pc ls (.long y :: rest))) : W p l e R s m args below meth c H locs cells slots Q (F0 m pc ls (.long x :: rest)) := by rw [h]; exact k
theorem zz_iald {aa : Nat} (hexec : p.tables.exec = Jvm.exec) (hb : c.code = cc) (hK : va_K D cl tys s) (hP : va_P D cl ws H) (q0 t0 : Nat) {cA : ClassId} {n : Nat} {f : Nat → Int32} (ha : ws[q0]? = some (aa, .inl (cA, n, .inl f))) (ht : tys[t0]? = some (cA, .int)) {k : Nat} (hk : k < n) (hn : n < 2 ^ 31) (hdg : decode cc pc = .ok (.iaload, 1))
    (kk : W p l e R s m args below meth c H locs cells slots Q (F0 m (pc + 1) ls (.int (f k) :: rest))) : W p l e R s m args below meth c H locs cells slots Q (F0 m pc ls (.int (nI k) :: .ref aa :: rest)) := by
  refine va_iald hexec hb hK hP q0 t0 ha ht (vp_in_nI hk hn) hdg ?_
  rw [nI_clamp (by omega)]
  exact kk
theorem zz_iast {aa : Nat} (hexec : p.tables.exec = Jvm.exec) (hb : c.code = cc) (hK : va_K D cl tys s) (hP : va_P D cl ws H) (hD : va_D A ws) (hS : va_S A H0 H locs) (q0 t0 : Nat) {cA : ClassId} {n : Nat} {f : Nat → Int32} (ha : ws[q0]? = some (aa, .inl (cA, n, .inl f))) (ht : tys[t0]? = some (cA, .int)) {k : Nat} {x : Int32} (hk : k < n) (hn : n < 2 ^ 31) (hdg : decode cc pc = .ok (.iastore, 1))
    (kk : ∀ (H1 : Heap) (locs1 : List Loc), va_P D cl (ws.set q0 (aa, .inl (cA, n, .inl (upd f k x)))) H1 → va_D A (ws.set q0 (aa, .inl (cA, n, .inl (upd f k x)))) → va_S A H0 H1 locs1 → W p l e R s m args below meth c H1 locs1 cells slots Q (F0 m (pc + 1) ls rest)) : W p l e R s m args below meth c H locs cells slots Q (F0 m pc ls (.int x :: .int (nI k) :: .ref aa :: rest)) := by
  refine va_iast hexec hb hK hP hD hS q0 t0 ha ht (vp_in_nI hk hn) hdg ?_
  rw [nI_clamp (by omega)]
  exact kk
theorem zz_zald {aa : Nat} (hexec : p.tables.exec = Jvm.exec) (hb : c.code = cc) (hK : va_K D cl tys s) (hP : va_P D cl ws H) (q0 t0 : Nat) {cA : ClassId} {n : Nat} {f : Nat → Int32} (ha : ws[q0]? = some (aa, .inl (cA, n, .inl f))) (ht : tys[t0]? = some (cA, .boolean)) {k : Nat} (hk : k < n) (hn : n < 2 ^ 31) (hdg : decode cc pc = .ok (.baload, 1))
    (kk : W p l e R s m args below meth c H locs cells slots Q (F0 m (pc + 1) ls (.int (f k) :: rest))) : W p l e R s m args below meth c H locs cells slots Q (F0 m pc ls (.int (nI k) :: .ref aa :: rest)) := by
  refine va_zald hexec hb hK hP q0 t0 ha ht (vp_in_nI hk hn) hdg ?_
  rw [nI_clamp (by omega)]
  exact kk
theorem zz_zast {aa : Nat} (hexec : p.tables.exec = Jvm.exec) (hb : c.code = cc) (hK : va_K D cl tys s) (hP : va_P D cl ws H) (hD : va_D A ws) (hS : va_S A H0 H locs) (q0 t0 : Nat) {cA : ClassId} {n : Nat} {f : Nat → Int32} (ha : ws[q0]? = some (aa, .inl (cA, n, .inl f))) (ht : tys[t0]? = some (cA, .boolean)) {k : Nat} {x : Int32} (hx2 : vp_nar .boolean x = x) (hk : k < n) (hn : n < 2 ^ 31) (hdg : decode cc pc = .ok (.bastore, 1))
    (kk : ∀ (H1 : Heap) (locs1 : List Loc), va_P D cl (ws.set q0 (aa, .inl (cA, n, .inl (upd f k x)))) H1 → va_D A (ws.set q0 (aa, .inl (cA, n, .inl (upd f k x)))) → va_S A H0 H1 locs1 → W p l e R s m args below meth c H1 locs1 cells slots Q (F0 m (pc + 1) ls rest)) : W p l e R s m args below meth c H locs cells slots Q (F0 m pc ls (.int x :: .int (nI k) :: .ref aa :: rest)) := by
  refine va_zast hexec hb hK hP hD hS q0 t0 ha ht (vp_in_nI hk hn) hdg ?_
  rw [nI_clamp (by omega), hx2]
  exact kk
theorem zz_iretR {v : Int32} {post : Int32 → Prop} (hexec : p.tables.exec = Jvm.exec) (hb : c.code = cc) (hr : meth.sig.returnType = some .int) (hlocks : meth.locks = false) (hp : post v) (hdg : decode cc pc = .ok (.ireturn, 1)) : W p l e R s m args below meth c s.heap [] 0 0 (MQ below (vp_Si post) args s 0 0 (fun _ => False)) (F0 m pc ls [.int v]) :=
  W.iret hexec hb hr (fun t ht _ => ⟨v, rfl, hp, ht⟩) (fun _ h => by cases h) hdg hlocks
theorem zz_zretR {v : Int32} {post : Int32 → Prop} (hexec : p.tables.exec = Jvm.exec) (hb : c.code = cc) (hr : meth.sig.returnType = some .boolean) (hlocks : meth.locks = false) (hn : narrow .boolean (.int v) = .int v) (hp : post v) (hdg : decode cc pc = .ok (.ireturn, 1)) : W p l e R s m args below meth c s.heap [] 0 0 (MQ below (vp_Si post) args s 0 0 (fun _ => False)) (F0 m pc ls [.int v]) :=
  W.zret hexec hb hr hn (fun t ht _ => ⟨v, rfl, hp, ht⟩) (fun _ h => by cases h) hdg hlocks
theorem zz_lretR {v : Int64} {post : Int64 → Prop} (hexec : p.tables.exec = Jvm.exec) (hb : c.code = cc) (hr : meth.sig.returnType = some .long) (hlocks : meth.locks = false) (hp : post v) (hdg : decode cc pc = .ok (.lreturn, 1)) : W p l e R s m args below meth c s.heap [] 0 0 (MQ below (vp_Sl post) args s 0 0 (fun _ => False)) (F0 m pc ls [.long v]) :=
  W.lret hexec hb hr (fun t ht _ => ⟨v, rfl, hp, ht⟩) (fun _ h => by cases h) hdg hlocks
theorem zz_iretW {S : Type} {post : Int32 → S → Prop} {w1 : S → va_W} {v : Int32} (u : S) (hexec : p.tables.exec = Jvm.exec) (hb : c.code = cc) (hr : meth.sig.returnType = some .int) (hlocks : meth.locks = false) (hp : post v u) (hP : va_P D cl (w1 u) H) (hK : va_K D cl tys s) (hD : va_D A (w1 u)) (hS : va_S A s.heap H locs) (hdg : decode cc pc = .ok (.ireturn, 1)) : W p l e R s m args below meth c H locs cells slots (MQ below (va_Qi post (fun u => zz_B D cl tys A (w1 u)) A) args s cells slots A) (F0 m pc ls [.int v]) :=
  W.iret hexec hb hr (fun t ht hW => ⟨⟨v, u, rfl, hp, by rw [ht]; exact hP, va_K.moved hW.alike hK, hD⟩, hS.F ht⟩) hS.2.2 hdg hlocks
theorem zz_lretW {S : Type} {post : Int64 → S → Prop} {w1 : S → va_W} {v : Int64} (u : S) (hexec : p.tables.exec = Jvm.exec) (hb : c.code = cc) (hr : meth.sig.returnType = some .long) (hlocks : meth.locks = false) (hp : post v u) (hP : va_P D cl (w1 u) H) (hK : va_K D cl tys s) (hD : va_D A (w1 u)) (hS : va_S A s.heap H locs) (hdg : decode cc pc = .ok (.lreturn, 1)) : W p l e R s m args below meth c H locs cells slots (MQ below (va_Ql post (fun u => zz_B D cl tys A (w1 u)) A) args s cells slots A) (F0 m pc ls [.long v]) :=
  W.lret hexec hb hr (fun t ht hW => ⟨⟨v, u, rfl, hp, by rw [ht]; exact hP, va_K.moved hW.alike hK, hD⟩, hS.F ht⟩) hS.2.2 hdg hlocks
theorem zz_vretW {S : Type} {post : S → Prop} {w1 : S → va_W} (u : S) (hexec : p.tables.exec = Jvm.exec) (hb : c.code = cc) (hr : meth.sig.returnType = none) (hlocks : meth.locks = false) (hp : post u) (hP : va_P D cl (w1 u) H) (hK : va_K D cl tys s) (hD : va_D A (w1 u)) (hS : va_S A s.heap H locs) (hdg : decode cc pc = .ok (.return_, 1)) : W p l e R s m args below meth c H locs cells slots (MQ below (va_Qv post (fun u => zz_B D cl tys A (w1 u)) A) args s cells slots A) (F0 m pc ls []) :=
  W.vret hexec hb hr (fun t ht hW => ⟨⟨u, rfl, hp, by rw [ht]; exact hP, va_K.moved hW.alike hK, hD⟩, hS.F ht⟩) hS.2.2 hdg hlocks
theorem zz_wi {S : Type} {post : Int32 → S → Prop} {w1 : S → va_W} {wc wr : va_W} (hr : va_Run p l e R s m args below meth c H locs cells slots mc ms (F0 m pc ls st0) rest (va_Qi post (fun u => zz_B D cl tys (va_A wc H.size) (w1 u)) (va_A wc H.size) a) (va_A wc H.size)) (hP : va_P D cl ws H) (hD : va_D A ws) (hS : va_S A s.heap H locs) (hA : ∀ q, s.heap.size ≤ q → A q) (isC isR : List Nat) (hC : isC.map (fun i => ws[i]?) = wc.map some) (hR : isR.map (fun i => ws[i]?) = wr.map some) (hn : va_nd isR = true) (hdis : ∀ i ∈ isR, i ∉ isC)
    (kk : ∀ (r : Int32) (u : S) (H1 : Heap) (locs1 : List Loc), post r u → va_P D cl (wr ++ w1 u) H1 → va_D A (wr ++ w1 u) → va_S A s.heap H1 locs1 → W p l e R s m args below meth c H1 locs1 (cells + mc) (slots + ms) Q (F0 m (pc + 3) ls (.int r :: rest))) : W p l e R s m args below meth c H locs cells slots Q (F0 m pc ls st0) := by
  have hF := va_free hD hS hA isC hC
  refine va_calli hr hS (fun q _ h => hF q h) hF (fun r u t H1 locs1 ht _ hp hB _ hk hS1 => ?_)
  obtain ⟨hP1, -, hD1⟩ := hB
  rw [ht] at hP1
  obtain ⟨g1, g2⟩ := va_join hP hD isC isR hC hR hn hdis hk hF hP1 hD1
  exact kk r u H1 locs1 hp g1 g2 hS1
theorem zz_wl {S : Type} {post : Int64 → S → Prop} {w1 : S → va_W} {wc wr : va_W} (hr : va_Run p l e R s m args below meth c H locs cells slots mc ms (F0 m pc ls st0) rest (va_Ql post (fun u => zz_B D cl tys (va_A wc H.size) (w1 u)) (va_A wc H.size) a) (va_A wc H.size)) (hP : va_P D cl ws H) (hD : va_D A ws) (hS : va_S A s.heap H locs) (hA : ∀ q, s.heap.size ≤ q → A q) (isC isR : List Nat) (hC : isC.map (fun i => ws[i]?) = wc.map some) (hR : isR.map (fun i => ws[i]?) = wr.map some) (hn : va_nd isR = true) (hdis : ∀ i ∈ isR, i ∉ isC)
    (kk : ∀ (r : Int64) (u : S) (H1 : Heap) (locs1 : List Loc), post r u → va_P D cl (wr ++ w1 u) H1 → va_D A (wr ++ w1 u) → va_S A s.heap H1 locs1 → W p l e R s m args below meth c H1 locs1 (cells + mc) (slots + ms) Q (F0 m (pc + 3) ls (.long r :: rest))) : W p l e R s m args below meth c H locs cells slots Q (F0 m pc ls st0) := by
  have hF := va_free hD hS hA isC hC
  refine va_calll hr hS (fun q _ h => hF q h) hF (fun r u t H1 locs1 ht _ hp hB _ hk hS1 => ?_)
  obtain ⟨hP1, -, hD1⟩ := hB
  rw [ht] at hP1
  obtain ⟨g1, g2⟩ := va_join hP hD isC isR hC hR hn hdis hk hF hP1 hD1
  exact kk r u H1 locs1 hp g1 g2 hS1
theorem zz_wv {S : Type} {post : S → Prop} {w1 : S → va_W} {wc wr : va_W} (hr : va_Run p l e R s m args below meth c H locs cells slots mc ms (F0 m pc ls st0) rest (va_Qv post (fun u => zz_B D cl tys (va_A wc H.size) (w1 u)) (va_A wc H.size) a) (va_A wc H.size)) (hP : va_P D cl ws H) (hD : va_D A ws) (hS : va_S A s.heap H locs) (hA : ∀ q, s.heap.size ≤ q → A q) (isC isR : List Nat) (hC : isC.map (fun i => ws[i]?) = wc.map some) (hR : isR.map (fun i => ws[i]?) = wr.map some) (hn : va_nd isR = true) (hdis : ∀ i ∈ isR, i ∉ isC)
    (kk : ∀ (u : S) (H1 : Heap) (locs1 : List Loc), post u → va_P D cl (wr ++ w1 u) H1 → va_D A (wr ++ w1 u) → va_S A s.heap H1 locs1 → W p l e R s m args below meth c H1 locs1 (cells + mc) (slots + ms) Q (F0 m (pc + 3) ls rest)) : W p l e R s m args below meth c H locs cells slots Q (F0 m pc ls st0) := by
  have hF := va_free hD hS hA isC hC
  refine va_callv hr hS (fun q _ h => hF q h) hF (fun u t H1 locs1 ht _ hp hB _ hk hS1 => ?_)
  obtain ⟨hP1, -, hD1⟩ := hB
  rw [ht] at hP1
  obtain ⟨g1, g2⟩ := va_join hP hD isC isR hC hR hn hdis hk hF hP1 hD1
  exact kk u H1 locs1 hp g1 g2 hS1
end ZZ
theorem zz_lne0 {n : Nat} (h0 : 0 < n) (h : n < 2 ^ 63) : ¬ lN n = 0 := fun q => by
  have a := pk_lT h
  rw [q] at a
  have b : (0 : Int64).toInt = 0 := rfl
  rw [b] at a
  omega
theorem zz_s31 : ∀ k, k < 32 → ((nI k &&& 31).toBitVec.smod 32).toNat = k := by decide +kernel
theorem zz_shrV {n k : Nat} (h : n < 2 ^ 31) (hk : k < 32) : nI n >>> (nI k &&& 31) = nI (n / 2 ^ k) := pk_shrN h _ k (zz_s31 k hk)
end
section
/-! The mathematics that class and reference are both tied to. -/
def hsh (x : Int32) : Int32 :=
  let h1 := (x + 1) * (-1640531535)
  let h2 := h1 ^^^ (h1.toUInt32 >>> ((15 : Int32).toUInt32 &&& Int32.toUInt32 31)).toInt32
  let h3 := h2 * (-2048144777)
  h3 ^^^ (h3.toUInt32 >>> ((13 : Int32).toUInt32 &&& Int32.toUInt32 31)).toInt32
def smp (a : Nat) : Bool := hsh (nI a) &&& nI 3 == 0
theorem bt0 {b : Bool} (h : b.toNat = 0) : b = false := by cases b <;> simp_all
theorem bt1 {b : Bool} (h : ¬ b.toNat = 0) : b = true := by cases b <;> simp_all
theorem btl (b : Bool) : b.toNat < 2 := by cases b <;> decide
end
section
/-! TripleRow: eight sorted rows, one behind another. -/
def tr_off (Ls : Nat → List Nat) : Nat → Nat
  | 0 => 0
  | p + 1 => tr_off Ls p + (Ls p).length
def RT (Ls : Nat → List Nat) (f g : Nat → Int32) : Prop :=
  (∀ p, p < 9 → g p = nI (tr_off Ls p)) ∧ (∀ p, p < 8 → ∀ i, i < (Ls p).length → f (tr_off Ls p + i) = nI ((Ls p).getD i 0)) ∧ tr_off Ls 8 ≤ 400 ∧ (∀ p, p < 8 → ∀ i, i < (Ls p).length → (Ls p).getD i 0 < 65536) ∧ (∀ p, p < 8 → ∀ i j, i < j → j < (Ls p).length → (Ls p).getD i 0 < (Ls p).getD j 0)
theorem tr_mono {Ls : Nat → List Nat} {p q : Nat} (h : p ≤ q) : tr_off Ls p ≤ tr_off Ls q := by
  induction q with
  | zero => have : p = 0 := by omega
            subst this; exact Nat.le_refl _
  | succ q ih =>
    rcases Nat.lt_or_ge p (q + 1) with h1 | h1
    · have := ih (by omega); simp only [tr_off]; omega
    · have : p = q + 1 := by omega
      subst this; exact Nat.le_refl _
theorem tr_next (Ls : Nat → List Nat) (p : Nat) : tr_off Ls (p + 1) = tr_off Ls p + (Ls p).length := rfl
theorem tr_top {Ls : Nat → List Nat} {p : Nat} (h : p < 8) : tr_off Ls p + (Ls p).length ≤ tr_off Ls 8 := by
  have := tr_mono (Ls := Ls) (show p + 1 ≤ 8 by omega)
  rw [tr_next] at this; exact this
def tr_ins (Ls : Nat → List Nat) (p k c : Nat) : Nat → List Nat := fun q => if q = p then (Ls p).take k ++ c :: (Ls p).drop k else Ls q
def tr_del (Ls : Nat → List Nat) (p k : Nat) : Nat → List Nat := fun q => if q = p then (Ls p).take k ++ (Ls p).drop (k + 1) else Ls q
theorem tr_gi (xs : List Nat) (k c i : Nat) (hk : k ≤ xs.length) : (xs.take k ++ c :: xs.drop k).getD i 0 = if i < k then xs.getD i 0 else if i = k then c else xs.getD (i - 1) 0 := by
  have hl : (xs.take k).length = k := by rw [List.length_take]; omega
  simp only [List.getD_eq_getElem?_getD]
  by_cases h1 : i < k
  · rw [if_pos h1, List.getElem?_append_left (by omega), List.getElem?_take, if_pos h1]
  · rw [if_neg h1, List.getElem?_append_right (by omega), hl]
    by_cases h2 : i = k
    · subst h2; simp
    · rw [if_neg h2, show i - k = (i - k - 1) + 1 by omega, List.getElem?_cons_succ, List.getElem?_drop, show k + (i - k - 1) = i - 1 by omega]
theorem tr_gd (xs : List Nat) (k i : Nat) (hk : k < xs.length) : (xs.take k ++ xs.drop (k + 1)).getD i 0 = if i < k then xs.getD i 0 else xs.getD (i + 1) 0 := by
  have hl : (xs.take k).length = k := by rw [List.length_take]; omega
  simp only [List.getD_eq_getElem?_getD]
  by_cases h1 : i < k
  · rw [if_pos h1, List.getElem?_append_left (by omega), List.getElem?_take, if_pos h1]
  · rw [if_neg h1, List.getElem?_append_right (by omega), hl, List.getElem?_drop, show k + 1 + (i - k) = i + 1 by omega]
theorem tr_insl {Ls : Nat → List Nat} {p k c : Nat} (hk : k ≤ (Ls p).length) : (tr_ins Ls p k c p).length = (Ls p).length + 1 := by
  unfold tr_ins; rw [if_pos rfl]; simp; omega
theorem tr_dell {Ls : Nat → List Nat} {p k : Nat} (hk : k < (Ls p).length) : (tr_del Ls p k p).length = (Ls p).length - 1 := by
  unfold tr_del; rw [if_pos rfl]; simp; omega
theorem tr_offi {Ls : Nat → List Nat} {p k c : Nat} (hk : k ≤ (Ls p).length) (q : Nat) : tr_off (tr_ins Ls p k c) q = if p < q then tr_off Ls q + 1 else tr_off Ls q := by
  induction q with
  | zero => rfl
  | succ q ih =>
    rw [tr_next, tr_next, ih]
    by_cases h : q = p
    · subst h; rw [tr_insl hk]; simp; omega
    · have : tr_ins Ls p k c q = Ls q := by unfold tr_ins; rw [if_neg h]
      rw [this]; split <;> split <;> omega
theorem tr_offd {Ls : Nat → List Nat} {p k : Nat} (hk : k < (Ls p).length) (q : Nat) : tr_off (tr_del Ls p k) q = if p < q then tr_off Ls q - 1 else tr_off Ls q := by
  induction q with
  | zero => rfl
  | succ q ih =>
    rw [tr_next, tr_next, ih]
    by_cases h : q = p
    · subst h; rw [tr_dell hk]; simp; omega
    · have : tr_del Ls p k q = Ls q := by unfold tr_del; rw [if_neg h]
      rw [this]
      by_cases h2 : p < q
      · have := tr_mono (Ls := Ls) (show p + 1 ≤ q by omega)
        rw [tr_next] at this
        rw [if_pos h2, if_pos (by omega)]; omega
      · rw [if_neg h2, if_neg (by omega)]
theorem RT_ins {Ls : Nat → List Nat} {f g f' g' : Nat → Int32} (h : RT Ls f g) {p c k : Nat} (hp : p < 8) (hc : c < 65536) (hk : k ≤ (Ls p).length) (h1 : ∀ j, j < k → (Ls p).getD j 0 < c) (h2 : ∀ j, k ≤ j → j < (Ls p).length → c < (Ls p).getD j 0) (h4 : tr_off Ls 8 < 400)
    (hf : ∀ j, j < 400 → f' j = if j = tr_off Ls p + k then nI c else if tr_off Ls p + k < j ∧ j ≤ tr_off Ls 8 then f (j - 1) else f j) (hg : ∀ j, j < 9 → g' j = if p < j then g j + nI 1 else g j) : RT (tr_ins Ls p k c) f' g' := by
  obtain ⟨a1, a2, a3, a4, a5⟩ := h
  have hne : ∀ q, q ≠ p → tr_ins Ls p k c q = Ls q := fun q h => by unfold tr_ins; rw [if_neg h]
  have hpe : tr_ins Ls p k c p = (Ls p).take k ++ c :: (Ls p).drop k := by unfold tr_ins; rw [if_pos rfl]
  refine ⟨fun q hq => ?_, fun q hq i hi => ?_, ?_, fun q hq i hi => ?_, fun q hq i j hij hj => ?_⟩
  · rw [hg q hq, tr_offi hk, a1 q hq]; split
    · exact nI_1 _
    · rfl
  · have ht := tr_top (Ls := Ls) hq
    rw [tr_offi hk]
    by_cases h : q = p
    · subst h
      rw [tr_insl hk] at hi
      rw [if_neg (Nat.lt_irrefl _), hpe, tr_gi _ _ _ _ hk, hf _ (by omega)]
      by_cases c1 : i < k
      · rw [if_neg (by omega), if_neg (by omega), if_pos c1, a2 q hq i (by omega)]
      · by_cases c2 : i = k
        · subst c2; rw [if_pos rfl, if_neg c1, if_pos rfl]
        · rw [if_neg (by omega), if_pos (by omega), if_neg c1, if_neg c2, show tr_off Ls q + i - 1 = tr_off Ls q + (i - 1) by omega, a2 q hq (i - 1) (by omega)]
    · rw [hne q h] at hi ⊢
      by_cases c1 : p < q
      · have hm := tr_mono (Ls := Ls) (show p + 1 ≤ q by omega)
        rw [tr_next] at hm
        rw [if_pos c1, hf _ (by omega), if_neg (by omega), if_pos (by omega), show tr_off Ls q + 1 + i - 1 = tr_off Ls q + i by omega, a2 q hq i hi]
      · have hm := tr_mono (Ls := Ls) (show q + 1 ≤ p by omega)
        rw [tr_next] at hm
        rw [if_neg c1, hf _ (by omega), if_neg (by omega), if_neg (by omega), a2 q hq i hi]
  · rw [tr_offi hk, if_pos hp]; omega
  · by_cases h : q = p
    · subst h
      rw [tr_insl hk] at hi
      rw [hpe, tr_gi _ _ _ _ hk]
      split
      · exact a4 q hq i (by omega)
      · split
        · exact hc
        · exact a4 q hq _ (by omega)
    · rw [hne q h] at hi ⊢; exact a4 q hq i hi
  · by_cases h : q = p
    · subst h
      rw [tr_insl hk] at hj
      rw [hpe, tr_gi _ _ _ _ hk, tr_gi _ _ _ _ hk]
      by_cases c1 : j < k
      · rw [if_pos (by omega), if_pos c1]; exact a5 q hq i j hij (by omega)
      · rw [if_neg c1]
        by_cases c2 : j = k
        · rw [if_pos c2, if_pos (by omega)]; exact h1 i (by omega)
        · rw [if_neg c2]
          by_cases c3 : i < k
          · rw [if_pos c3]; exact a5 q hq i (j - 1) (by omega) (by omega)
          · rw [if_neg c3]
            by_cases c4 : i = k
            · rw [if_pos c4]; exact h2 (j - 1) (by omega) (by omega)
            · rw [if_neg c4]; exact a5 q hq (i - 1) (j - 1) (by omega) (by omega)
    · rw [hne q h] at hj ⊢; exact a5 q hq i j hij hj
theorem RT_del {Ls : Nat → List Nat} {f g f' g' : Nat → Int32} (h : RT Ls f g) {p k : Nat} (hp : p < 8) (hk : k < (Ls p).length)
    (hf : ∀ j, j < 400 → f' j = if tr_off Ls p + k ≤ j ∧ j + 1 < tr_off Ls 8 then f (j + 1) else f j) (hg : ∀ j, j < 9 → g' j = if p < j then g j + (-1) else g j) : RT (tr_del Ls p k) f' g' := by
  obtain ⟨a1, a2, a3, a4, a5⟩ := h
  have hne : ∀ q, q ≠ p → tr_del Ls p k q = Ls q := fun q h => by unfold tr_del; rw [if_neg h]
  have hpe : tr_del Ls p k p = (Ls p).take k ++ (Ls p).drop (k + 1) := by unfold tr_del; rw [if_pos rfl]
  refine ⟨fun q hq => ?_, fun q hq i hi => ?_, ?_, fun q hq i hi => ?_, fun q hq i j hij hj => ?_⟩
  · rw [hg q hq, tr_offd hk, a1 q hq]
    by_cases c1 : p < q
    · have hm := tr_mono (Ls := Ls) (show p + 1 ≤ q by omega)
      rw [tr_next] at hm
      rw [if_pos c1, if_pos c1, show tr_off Ls q = (tr_off Ls q - 1) + 1 by omega, pk_m1, Nat.add_sub_cancel]
    · rw [if_neg c1, if_neg c1]
  · have ht := tr_top (Ls := Ls) hq
    rw [tr_offd hk]
    by_cases h : q = p
    · subst h
      rw [tr_dell hk] at hi
      rw [if_neg (Nat.lt_irrefl _), hpe, tr_gd _ _ _ hk, hf _ (by omega)]
      by_cases c1 : i < k
      · rw [if_neg (by omega), if_pos c1, a2 q hq i (by omega)]
      · rw [if_pos (by omega), if_neg c1, Nat.add_assoc, a2 q hq (i + 1) (by omega)]
    · rw [hne q h] at hi ⊢
      by_cases c1 : p < q
      · have hm := tr_mono (Ls := Ls) (show p + 1 ≤ q by omega)
        rw [tr_next] at hm
        rw [if_pos c1, hf _ (by omega), if_pos (by omega), show tr_off Ls q - 1 + i + 1 = tr_off Ls q + i by omega, a2 q hq i hi]
      · have hm := tr_mono (Ls := Ls) (show q + 1 ≤ p by omega)
        rw [tr_next] at hm
        rw [if_neg c1, hf _ (by omega), if_neg (by omega), a2 q hq i hi]
  · rw [tr_offd hk, if_pos hp]; omega
  · by_cases h : q = p
    · subst h
      rw [tr_dell hk] at hi
      rw [hpe, tr_gd _ _ _ hk]
      split
      · exact a4 q hq i (by omega)
      · exact a4 q hq _ (by omega)
    · rw [hne q h] at hi ⊢; exact a4 q hq i hi
  · by_cases h : q = p
    · subst h
      rw [tr_dell hk] at hj
      rw [hpe, tr_gd _ _ _ hk, tr_gd _ _ _ hk]
      by_cases c1 : j < k
      · rw [if_pos (by omega), if_pos c1]; exact a5 q hq i j hij (by omega)
      · rw [if_neg c1]
        by_cases c3 : i < k
        · rw [if_pos c3]; exact a5 q hq i (j + 1) (by omega) (by omega)
        · rw [if_neg c3]; exact a5 q hq (i + 1) (j + 1) (by omega) (by omega)
    · rw [hne q h] at hj ⊢; exact a5 q hq i j hij hj
/-- the place of c in a sorted row -/
theorem tr_place (xs : List Nat) (c : Nat) : ∃ k, k ≤ xs.length ∧ (∀ j, j < k → xs.getD j 0 < c) ∧ (k < xs.length → c ≤ xs.getD k 0) := by
  induction xs with
  | nil => exact ⟨0, Nat.le_refl _, fun j h => absurd h (Nat.not_lt_zero _), fun h => absurd h (Nat.not_lt_zero _)⟩
  | cons x xs ih =>
    by_cases h : x < c
    · obtain ⟨k, h1, h2, h3⟩ := ih
      refine ⟨k + 1, by simp; exact h1, fun j hj => ?_, fun hk => ?_⟩
      · cases j with
        | zero => exact h
        | succ j => exact h2 j (by omega)
      · exact h3 (by simpa using hk)
    · exact ⟨0, Nat.zero_le _, fun j h => absurd h (Nat.not_lt_zero _), fun _ => by simpa using Nat.le_of_not_lt h⟩
end
section
section ZZ2
variable {p : Program} {l : Launch} {e : Env} {R : Room} {s : State} {m : MethodId} {args : Array Value} {below : List Frame} {meth : Method} {c : Code} {H : Heap} {locs : List Loc} {cells slots : Nat} {Q : State → Prop}
variable {cc : ByteArray} {pc : Nat} {ls : Array Slot} {rest st0 : List Value} {D : va_G} {cl : List vw_C} {A : Nat → Prop} {tys : List (ClassId × FieldType)} {ws : va_W} {H0 : Heap}
theorem zz_copyi {aa : Nat} (hexec : p.tables.exec = Jvm.exec) (hb : c.code = cc) (hml : c.maxLocals = ls.size) {own : String} {index : Nat} (hown : s.vm.findClass own = some m.cls) (hlink : (Cond.methodLink own index arraycopyName).before args s = true) (hnat : (Cond.native arraycopyName).before args s = true) (hstat : (Cond.static arraycopyName).before args s = true) (hini : (Cond.initialized "java/lang/System").before args s = true)
    (hK : va_K D cl tys s) (hP : va_P D cl ws H) (hD : va_D A ws) (hS : va_S A H0 H locs) (q0 t0 : Nat) {c0 : ClassId} {n0 : Nat} {f : Nat → Int32} (ha0 : ws[q0]? = some (aa, .inl (c0, n0, .inl f))) (ht0 : tys[t0]? = some (c0, .int)) {sp dp n : Nat} (hn0 : n0 < 2 ^ 31) (h4 : sp + n ≤ n0) (h5 : dp + n ≤ n0)
    (hframes : 1 ≤ R.frames) (hlocals : (rest.map fun v => v.category).sum + (nativeFrameWords "java/lang/System" "arraycopy" 5 + 11) ≤ R.locals) (hdg : decode cc pc = .ok (.invokestatic index, 3))
    (kk : ∀ (H1 : Heap) (locs1 : List Loc), va_P D cl (ws.set q0 (aa, .inl (c0, n0, .inl (va_cpy f f sp dp n)))) H1 → va_D A (ws.set q0 (aa, .inl (c0, n0, .inl (va_cpy f f sp dp n)))) → va_S A H0 H1 locs1 → W p l e R s m args below meth c H1 locs1 cells slots Q (F0 m (pc + 3) ls rest)) : W p l e R s m args below meth c H locs cells slots Q (F0 m pc ls (.int (nI n) :: .int (nI dp) :: .ref aa :: .int (nI sp) :: .ref aa :: rest)) := by
  refine va_copyi hexec hb hml hown hlink hnat hstat hini hK hP hD hS q0 q0 t0 t0 ha0 ha0 ht0 ht0 rfl (nI_pos (by omega)) (nI_pos (by omega)) (nI_pos (by omega)) (by rw [nI_clamp (by omega), nI_clamp (by omega)]; exact h4) (by rw [nI_clamp (by omega), nI_clamp (by omega)]; exact h5) (fun _ _ => rfl) hframes hlocals hdg ?_
  rw [nI_clamp (show sp < 2 ^ 31 by omega), nI_clamp (show dp < 2 ^ 31 by omega), nI_clamp (show n < 2 ^ 31 by omega)]
  exact kk
end ZZ2
end
section
/-! Patterns, versions, registers. -/
def pal (a h : Int32) : Bool := decide (a = -1 ∨ a = h)
theorem bt_and3 (a b c : Bool) : (a && b && c) = (a && (b && c)) := Bool.and_assoc a b c
theorem vmax {v k : Nat} (hv : v < 2 ^ 30) (hk : k < 2 ^ 30) : (if nI 0 < nI v - nI k then nI v - nI k else nI 0) = nI (v - k) := by
  by_cases h : k ≤ v
  · rw [pk_sub h]
    by_cases h2 : v - k = 0
    · rw [h2, if_neg (by decide)]
    · rw [if_pos (nI_lt (by omega) (by omega))]
  · have h3 := pk_sneg (a := v) (b := k) hk (by omega)
    have h4 : ¬ nI 0 < nI v - nI k := fun q => by
      have a : (nI v - nI k).toInt < 0 := Int32.lt_iff_toInt_lt.mp h3
      have b : (nI 0).toInt < (nI v - nI k).toInt := Int32.lt_iff_toInt_lt.mp q
      have c : (nI 0).toInt = 0 := rfl
      omega
    rw [if_neg h4, show v - k = 0 by omega]
/-- how many of the lowest bits are 0, at most fu -/
def rz (N : Nat) : Nat → Nat
  | 0 => 0
  | fu + 1 => if N % 2 = 0 then rz (N / 2) fu + 1 else 0
theorem rz_le (fu : Nat) : ∀ N, rz N fu ≤ fu := by
  induction fu with
  | zero => intro N; exact Nat.le_refl _
  | succ fu ih => intro N; unfold rz; split; have := ih (N / 2); omega; omega
theorem rz_lo (fu : Nat) : ∀ N j, j < rz N fu → N / 2 ^ j % 2 = 0 := by
  induction fu with
  | zero => intro N j h; exact absurd h (Nat.not_lt_zero _)
  | succ fu ih =>
    intro N j h
    unfold rz at h
    split at h
    · cases j with
      | zero => simpa using ‹N % 2 = 0›
      | succ j => rw [Nat.pow_succ, Nat.mul_comm, ← Nat.div_div_eq_div_mul]; exact ih (N / 2) j (by omega)
    · exact absurd h (Nat.not_lt_zero _)
theorem rz_hi (fu : Nat) : ∀ N, rz N fu < fu → N / 2 ^ rz N fu % 2 = 1 := by
  induction fu with
  | zero => intro N h; exact absurd h (Nat.not_lt_zero _)
  | succ fu ih =>
    intro N h
    unfold rz at h ⊢
    split at h
    · rw [if_pos ‹N % 2 = 0›, Nat.pow_succ, Nat.mul_comm, ← Nat.div_div_eq_div_mul]; exact ih (N / 2) (by omega)
    · rw [if_neg ‹¬ N % 2 = 0›]; simp; omega
def bn (x : Int32) : Nat := x.toBitVec.toNat
theorem bn_lt (x : Int32) : bn x < 4294967296 := x.toBitVec.isLt
def hix (h : Int32) : Nat := bn h % 16
def rnk (h : Int32) : Nat := rz (bn h / 16) 28 + 1
theorem rnk_lt (h : Int32) : rnk h ≤ 29 := by unfold rnk; have := rz_le 28 (bn h / 16); omega
theorem zz_u31 : ∀ k, k < 32 → (((nI k).toUInt32 &&& Int32.toUInt32 31).toBitVec % 32).toNat = k := by decide +kernel
theorem zz_bit (x : Int32) {k : Nat} (hk : k < 32) : (x.toUInt32 >>> ((nI k).toUInt32 &&& Int32.toUInt32 31)).toInt32 &&& nI 1 = nI (bn x / 2 ^ k % 2) := by
  have h := pk_ushr x (nI k) k (zz_u31 k hk)
  rw [pk_and _ 1 (by decide), h]; rfl
theorem zz_ush4 (x : Int32) : bn (x.toUInt32 >>> ((nI 4).toUInt32 &&& Int32.toUInt32 31)).toInt32 = bn x / 16 := pk_ushr x (nI 4) 4 (zz_u31 4 (by decide))
theorem zz_and15 (x : Int32) : x &&& nI 15 = nI (hix x) := pk_and x 4 (by decide)
/-- register i of the numbers below n that are there -/
def rkf (pr : Nat → Bool) (i : Nat) : Nat → Nat
  | 0 => 0
  | n + 1 => if pr n = true ∧ hix (hsh (nI n)) = i then max (rkf pr i n) (rnk (hsh (nI n))) else rkf pr i n
theorem rkf_s (pr : Nat → Bool) (i n : Nat) : rkf pr i (n + 1) = if pr n = true ∧ hix (hsh (nI n)) = i then max (rkf pr i n) (rnk (hsh (nI n))) else rkf pr i n := rfl
theorem rkf_le (pr : Nat → Bool) (i n : Nat) : rkf pr i n ≤ 29 := by
  induction n with
  | zero => exact Nat.zero_le _
  | succ n ih => unfold rkf; split; have := rnk_lt (hsh (nI n)); omega; exact ih
theorem imax {a b : Nat} (ha : a < 2 ^ 31) (hb : b < 2 ^ 31) : (if nI a < nI b then nI b else nI a) = nI (max a b) := by
  by_cases h : a < b
  · rw [if_pos ((nI_ltI ha hb).mpr h)]; congr 1; omega
  · rw [if_neg (fun q => h ((nI_ltI ha hb).mp q))]; congr 1; omega
theorem imin {a b : Nat} (ha : a < 2 ^ 31) (hb : b < 2 ^ 31) : (if nI b < nI a then nI b else nI a) = nI (min a b) := by
  by_cases h : b < a
  · rw [if_pos ((nI_ltI hb ha).mpr h)]; congr 1; omega
  · rw [if_neg (fun q => h ((nI_ltI hb ha).mp q))]; congr 1; omega
/-- ABOUT -/
def few (z : Nat) : Nat := [0, 44, 33, 26, 22, 18, 15, 13, 11, 9, 7, 5, 4, 3, 2, 1, 0].getD z 0
def zer (R : Nat → Nat) : Nat → Nat
  | 0 => 0
  | n + 1 => if R n = 0 then zer R n + 1 else zer R n
def smr (R : Nat → Nat) : Nat → Nat
  | 0 => 0
  | n + 1 => smr R n + 2 ^ (30 - R n)
def abt (R : Nat → Nat) : Nat := if 0 < zer R 16 then few (zer R 16) else 184992831373312 / (1000 * smr R 16)
theorem zer_le (R : Nat → Nat) (n : Nat) : zer R n ≤ n := by
  induction n with
  | zero => exact Nat.le_refl _
  | succ n ih => unfold zer; split <;> omega
theorem p30 (r : Nat) : 1 ≤ 2 ^ (30 - r) ∧ 2 ^ (30 - r) ≤ 1073741824 := ⟨Nat.one_le_two_pow, by
  calc 2 ^ (30 - r) ≤ 2 ^ 30 := Nat.pow_le_pow_right (by omega) (by omega)
    _ = 1073741824 := by decide⟩
theorem smr_le (R : Nat → Nat) (n : Nat) : n ≤ smr R n ∧ smr R n ≤ n * 1073741824 := by
  induction n with
  | zero => exact ⟨Nat.le_refl _, Nat.le_refl _⟩
  | succ n ih => unfold smr; have := p30 (R n); omega
theorem zer_congr {R S : Nat → Nat} (n : Nat) (h : ∀ i, i < n → R i = S i) : zer R n = zer S n := by
  induction n with
  | zero => rfl
  | succ n ih => unfold zer; rw [h n (by omega), ih (fun i hi => h i (by omega))]
theorem smr_congr {R S : Nat → Nat} (n : Nat) (h : ∀ i, i < n → R i = S i) : smr R n = smr S n := by
  induction n with
  | zero => rfl
  | succ n ih => unfold smr; rw [h n (by omega), ih (fun i hi => h i (by omega))]
theorem abt_congr {R S : Nat → Nat} (h : ∀ i, i < 16 → R i = S i) : abt R = abt S := by unfold abt; rw [zer_congr 16 h, smr_congr 16 h]
theorem zz_shlc : ∀ k, k < 64 → lN 1 <<< ((nI k).toInt64 &&& 63) = lN (2 ^ k) := by decide +kernel
end
section
theorem zz_tout {x : Int32} (lo hi : Nat) (hn : hi < 2 ^ 31) (h : ∀ k : Nat, lo ≤ k → k ≤ hi → x = nI k → False) : x.toInt < (lo : Int) ∨ (hi : Int) < x.toInt := by
  rcases Int.lt_or_le x.toInt (lo : Int) with a | a
  · exact Or.inl a
  · rcases Int.lt_or_le (hi : Int) x.toInt with b | b
    · exact Or.inr b
    · exfalso
      have e : x = nI x.toInt.toNat := by
        apply Int32.toInt_inj.mp
        rw [nI_toInt (by omega)]; omega
      exact h x.toInt.toNat (by omega) (by omega) e
theorem zz_in {x : Int32} {n : Nat} (hn : n < 2 ^ 31) (h0 : ¬ x < 0) (h1 : ¬ nI n ≤ x) : ∃ j, j < n ∧ x = nI j := by
  rcases pk_ix x hn with a | a | a
  · exact absurd a h0
  · exact absurd a h1
  · exact a
end
section
/-! The static table of the register row. -/
theorem few_lt (z : Nat) : few z ≤ 44 := by
  unfold few
  rcases Nat.lt_or_ge z 17 with h | h
  · have : ∀ z, z < 17 → [0, 44, 33, 26, 22, 18, 15, 13, 11, 9, 7, 5, 4, 3, 2, 1, 0].getD z 0 ≤ 44 := by decide
    exact this z h
  · rw [List.getD_eq_getElem?_getD, List.getElem?_eq_none (by simpa using h)]; decide
def ZT (A : Nat → Prop) (U : State) (H : Heap) : Prop := ∃ t : Nat, va_Z "StatRows$RegisterRow" "ABOUT_BY_ZEROS" "[I" (.ref t) A U H ∧ va_T .int t 17 (fun j => .int (nI (few j))) A U H
theorem ZT.moved {A : Nat → Prop} {u U : State} {H : Heap} (hvm : u.vm.Alike U.vm) (h : ZT A u H) : ZT A U H := by
  obtain ⟨t, a, b⟩ := h; exact ⟨t, a.moved hvm, b.moved hvm⟩
theorem ZT.kept {A : Nat → Prop} {U : State} {H H1 : Heap} (h : ZT A U H) (hq : ∀ a : Nat, a < H.size → ¬ A a → H1[a]? = H[a]?) : ZT A U H1 := by
  obtain ⟨t, a, b⟩ := h; exact ⟨t, a.kept hq, b.kept hq⟩
theorem ZT.narrow {A B : Nat → Prop} {U : State} {H : Heap} (h : ZT A U H) (hAB : ∀ q, B q → A q) : ZT B U H := by
  obtain ⟨t, a, b⟩ := h; exact ⟨t, a.narrow hAB, b.narrow hAB⟩
def zz_RZ (D : va_G) (cl : List vw_C) (tys : List (ClassId × FieldType)) (av : List Value) (w : va_W) : Array Value → State → Prop := fun v U => zz_R D cl tys av w v U ∧ ZT (fun _ => False) U U.heap
def zz_PZ (D : va_G) (cl : List vw_C) (tys : List (ClassId × FieldType)) (av : List Value) (w : va_W) (sz : Nat) : Array Value → State → Prop := fun v U => zz_P D cl tys av w sz v U ∧ ZT (va_A w sz) U U.heap
theorem zz_RZ_V {s : State} {H : Heap} {D : va_G} {cl : List vw_C} {tys : List (ClassId × FieldType)} {b : Addr} {As : List Value} {w : va_W} (hZ : ZT (fun _ => False) s H) (hN : NW s) (hK : va_K D cl tys s) (hP : va_P D cl w H) (ci q0 : Nat) {C : String} {T : u_T} {N : Nat} {fs : List Value} (hc : cl[ci]? = some (C, T, N)) (he : w[q0]? = some (b, .inr (ci, fs))) : PreV s H C b (zz_RZ D cl tys (.ref b :: As) w) As :=
  ⟨fun a U g mk q => ⟨zz_R_blind a U g mk q.1, ZT.moved (u := U) (U := U.calling g mk a) (Vm.Alike.refl U.vm) q.2⟩, va_recv hK hP hc he, fun U hU hW => ⟨⟨rfl, by rw [hU]; exact hP, va_K.moved hW.alike hK, hN.warm hW⟩, by rw [hU]; exact hZ.moved hW.alike⟩⟩
theorem zz_PZ_V {s : State} {H : Heap} {D : va_G} {cl : List vw_C} {tys : List (ClassId × FieldType)} {A : Nat → Prop} {b : Addr} {As : List Value} {w : va_W} (hZ : ZT (va_A w H.size) s H) (hN : NW s) (hK : va_K D cl tys s) (hP : va_P D cl w H) (hD : va_D A w) (ci q0 : Nat) {C : String} {T : u_T} {N : Nat} {fs : List Value} (hc : cl[ci]? = some (C, T, N)) (he : w[q0]? = some (b, .inr (ci, fs))) : PreV s H C b (zz_PZ D cl tys (.ref b :: As) w H.size) As :=
  ⟨fun a U g mk q => ⟨zz_P_blind a U g mk q.1, ZT.moved (u := U) (U := U.calling g mk a) (Vm.Alike.refl U.vm) q.2⟩, va_recv hK hP hc he, fun U hU hW => ⟨⟨rfl, by rw [hU], by rw [hU]; exact hP, va_K.moved hW.alike hK, hD.weaken (fun _ _ _ _ => trivial), hN.warm hW⟩, by rw [hU]; exact hZ.moved hW.alike⟩⟩
/-! Counting. -/
def inr_ (n : Nat) (x : Int32) : Bool := decide (¬ x < 0 ∧ ¬ nI n ≤ x)
theorem inr_t {n : Nat} {x : Int32} (hn : n < 2 ^ 31) (h : inr_ n x = true) : ∃ j, j < n ∧ x = nI j := by
  have h := of_decide_eq_true h
  exact zz_in hn h.1 h.2
theorem inr_n {n j : Nat} (hn : n < 2 ^ 31) (h : j < n) : inr_ n (nI j) = true := decide_eq_true ⟨nI_pos (by omega), nI_ge h hn⟩
theorem tk1 {α : Type} (xs : List α) (i : Nat) (d : α) (h : i < xs.length) : xs.take (i + 1) = xs.take i ++ [xs.getD i d] := by
  rw [List.take_succ_eq_append_getElem h, List.getD_eq_getElem?_getD, List.getElem?_eq_getElem h]; rfl
theorem tkl {α : Type} (xs : List α) (i : Nat) (h : xs.length ≤ i) : xs.take i = xs := List.take_of_length_le h
def cnt (pr : Nat → Bool) : Nat → Nat
  | 0 => 0
  | n + 1 => cnt pr n + (pr n).toNat
theorem cnt_s (pr : Nat → Bool) (n : Nat) : cnt pr (n + 1) = cnt pr n + (pr n).toNat := rfl
theorem cnt_le (pr : Nat → Bool) (n : Nat) : cnt pr n ≤ n := by
  induction n with
  | zero => exact Nat.le_refl _
  | succ n ih => rw [cnt_s]; have := btl (pr n); omega
theorem cnt_congr {p q : Nat → Bool} (n : Nat) (h : ∀ i, i < n → p i = q i) : cnt p n = cnt q n := by
  induction n with
  | zero => rfl
  | succ n ih => rw [cnt_s, cnt_s, h n (by omega), ih (fun i hi => h i (by omega))]
theorem cp1 (p : Nat → Bool) (xs : List Nat) (x : Nat) : (xs ++ [x]).countP p = xs.countP p + (p x).toNat := by
  rw [List.countP_append]
  cases h : p x <;> simp [h]
theorem cpl (p : Nat → Bool) (xs : List Nat) : xs.countP p ≤ xs.length := List.countP_le_length
/-- some element has the key v -/
def anyk (key : Nat → Nat) (xs : List Nat) (v : Nat) : Bool := xs.any (fun c => key c == v)
theorem anyk_pos (key : Nat → Nat) (xs : List Nat) (v : Nat) : decide (0 < xs.countP (fun c => key c == v)) = anyk key xs v := by
  unfold anyk
  rw [Bool.eq_iff_iff]
  simp [List.countP_pos_iff]
def sub_ (c : Nat) : Nat := c / 256
def obj_ (c : Nat) : Nat := c % 256
/-- tallies of several rows -/
def bit_ (b p : Nat) : Bool := b / 2 ^ p % 2 == 1
def tsm (Ls : Nat → List Nat) (b v : Nat) : Nat → Nat
  | 0 => 0
  | p + 1 => tsm Ls b v p + if bit_ b p = true then (Ls p).countP (fun c => sub_ c == v) else 0
theorem tsm_s (Ls : Nat → List Nat) (b v p : Nat) : tsm Ls b v (p + 1) = tsm Ls b v p + if bit_ b p = true then (Ls p).countP (fun c => sub_ c == v) else 0 := rfl
theorem tsm_le (Ls : Nat → List Nat) (b v p : Nat) : tsm Ls b v p ≤ tr_off Ls p := by
  induction p with
  | zero => exact Nat.le_refl _
  | succ p ih => rw [tsm_s, tr_next]; split; have := cpl (fun c => sub_ c == v) (Ls p); omega; omega
def anyb (Ls : Nat → List Nat) (b v : Nat) : Nat → Bool
  | 0 => false
  | p + 1 => anyb Ls b v p || (bit_ b p && anyk sub_ (Ls p) v)
theorem tsm_pos (Ls : Nat → List Nat) (b v p : Nat) : decide (0 < tsm Ls b v p) = anyb Ls b v p := by
  induction p with
  | zero => rfl
  | succ p ih =>
    show _ = (anyb Ls b v p || (bit_ b p && anyk sub_ (Ls p) v))
    rw [tsm_s, ← ih, ← anyk_pos]
    cases h : bit_ b p
    · simp
    · rw [if_pos rfl, Bool.eq_iff_iff]; simp only [Bool.or_eq_true, Bool.true_and, decide_eq_true_eq]; omega
end
section
theorem tal_step {key : Nat → Nat} {xs : List Nat} {i : Nat} (hi : i < xs.length) {tl : Nat → Int32} {tv : Nat → Nat} (ok : Nat → Bool) (h : ∀ v, v < 256 → tl v = nI (tv v + (xs.take i).countP (fun c => ok c && key c == v))) (hok : ok (xs.getD i 0) = true) :
    ∀ v, v < 256 → upd tl (key (xs.getD i 0)) (nI (tv (key (xs.getD i 0)) + (xs.take i).countP (fun c => ok c && key c == key (xs.getD i 0)) + 1)) v = nI (tv v + (xs.take (i + 1)).countP (fun c => ok c && key c == v)) := by
  intro v hv
  rw [tk1 xs i 0 hi, cp1]
  by_cases q : v = key (xs.getD i 0)
  · rw [q, pk_us, hok]; simp [Nat.add_assoc]
  · rw [pk_un q, h v hv]
    have : (key (xs.getD i 0) == v) = false := by simpa using fun e => q e.symm
    rw [this, Bool.and_false]; rfl
theorem tal_skip {key : Nat → Nat} {xs : List Nat} {i : Nat} (hi : i < xs.length) {tl : Nat → Int32} {tv : Nat → Nat} (ok : Nat → Bool) (h : ∀ v, v < 256 → tl v = nI (tv v + (xs.take i).countP (fun c => ok c && key c == v))) (hok : ok (xs.getD i 0) = false) :
    ∀ v, v < 256 → tl v = nI (tv v + (xs.take (i + 1)).countP (fun c => ok c && key c == v)) := by
  intro v hv
  rw [tk1 xs i 0 hi, cp1, h v hv, hok]; rfl
def sumf (F : Nat → Nat) (xs : List Nat) : Nat := (xs.map F).sum
theorem sumf1 (F : Nat → Nat) (xs : List Nat) (x : Nat) : sumf F (xs ++ [x]) = sumf F xs + F x := by unfold sumf; simp
def okf (fl : Bool) (c : Nat) : Bool := !fl || smp c
def btw (fr to : Int32) (o : Nat) : Bool := decide (¬ nI o < fr ∧ ¬ to < nI o)
def many (a : Nat) (fr to : Int32) : Nat := cnt (fun i => btw fr to (a + i)) 32
theorem cnt_iv (lo hi : Int) (n : Nat) : cnt (fun i => decide (lo ≤ (i : Int) ∧ (i : Int) ≤ hi)) n = (min hi ((n : Int) - 1) - max lo 0 + 1).toNat := by
  induction n with
  | zero => rw [show cnt _ 0 = 0 from rfl]; omega
  | succ n ih =>
    rw [cnt_s, ih]
    by_cases h : lo ≤ (n : Int) ∧ (n : Int) ≤ hi
    · rw [decide_eq_true h]; simp only [Bool.toNat_true]; omega
    · rw [decide_eq_false h]; simp only [Bool.toNat_false]; omega
theorem many_eq (a : Nat) (ha : a < 2 ^ 30) (fr to : Int32) : many a fr to = (min (to.toInt - a) 31 - max (fr.toInt - a) 0 + 1).toNat := by
  have h := cnt_iv (fr.toInt - a) (to.toInt - a) 32
  have e : many a fr to = cnt (fun i => decide (fr.toInt - a ≤ (i : Int) ∧ (i : Int) ≤ to.toInt - a)) 32 := by
    unfold many
    refine cnt_congr 32 (fun i hi => ?_)
    unfold btw
    rw [Bool.eq_iff_iff, decide_eq_true_eq, decide_eq_true_eq, Int32.lt_iff_toInt_lt, Int32.lt_iff_toInt_lt, nI_toInt (by omega)]
    omega
  rw [e, h]; omega
theorem lo_toInt (x y : Int32) : (if x < y then y else x).toInt = max x.toInt y.toInt := by
  by_cases h : x < y
  · rw [if_pos h]; have := Int32.lt_iff_toInt_lt.mp h; omega
  · rw [if_neg h]; have : ¬ x.toInt < y.toInt := fun q => h (Int32.lt_iff_toInt_lt.mpr q); omega
theorem hi_toInt (x y : Int32) : (if y < x then y else x).toInt = min x.toInt y.toInt := by
  by_cases h : y < x
  · rw [if_pos h]; have := Int32.lt_iff_toInt_lt.mp h; omega
  · rw [if_neg h]; have : ¬ y.toInt < x.toInt := fun q => h (Int32.lt_iff_toInt_lt.mpr q); omega
theorem shared0 {a : Nat} (ha : a ≤ 224) {fr to lo hi : Int32} (e1 : lo = if nI a < fr then fr else nI a) (e2 : hi = if to < nI (a + 31) then to else nI (a + 31)) (h : ¬ lo ≤ hi) : nI 0 = nI (many a fr to) := by
  have h1 := congrArg Int32.toInt e1
  have h2 := congrArg Int32.toInt e2
  rw [lo_toInt, nI_toInt (by omega)] at h1
  rw [hi_toInt, nI_toInt (by omega)] at h2
  have h3 : ¬ lo.toInt ≤ hi.toInt := fun q => h (Int32.le_iff_toInt_le.mpr q)
  rw [many_eq a (by omega)]; congr 1; omega
theorem shared1 {a : Nat} (ha : a ≤ 224) {fr to lo hi : Int32} (e1 : lo = if nI a < fr then fr else nI a) (e2 : hi = if to < nI (a + 31) then to else nI (a + 31)) (h : lo ≤ hi) : hi - lo + nI 1 = nI (many a fr to) := by
  have h1 := congrArg Int32.toInt e1
  have h2 := congrArg Int32.toInt e2
  rw [lo_toInt, nI_toInt (by omega)] at h1
  rw [hi_toInt, nI_toInt (by omega)] at h2
  have h3 : lo.toInt ≤ hi.toInt := Int32.le_iff_toInt_le.mp h
  have f1 : lo = nI lo.toInt.toNat := Int32.toInt_inj.mp (by rw [nI_toInt (by omega)]; omega)
  have f2 : hi = nI hi.toInt.toNat := Int32.toInt_inj.mp (by rw [nI_toInt (by omega)]; omega)
  rw [f1, f2, pk_sub (by omega), nI_add, many_eq a (by omega)]; congr 1; omega
theorem many_le (a : Nat) (fr to : Int32) : many a fr to ≤ 32 := cnt_le _ _
end
section
def clt (xs : List Nat) (o : Nat) : Nat := xs.countP (fun c => decide (obj_ c < o))
theorem clt_s (xs : List Nat) (o : Nat) : clt xs (o + 1) = clt xs o + xs.countP (fun c => obj_ c == o) := by
  unfold clt
  induction xs with
  | nil => rfl
  | cons x xs ih =>
    rw [List.countP_cons, List.countP_cons, List.countP_cons, ih]
    by_cases h1 : obj_ x < o
    · rw [if_pos (by simp; omega), if_pos (by simp; omega), if_neg (by simp; omega)]; omega
    · by_cases h2 : obj_ x = o
      · rw [if_pos (by simp; omega), if_neg (by simp; omega), if_pos (by simp; omega)]; omega
      · rw [if_neg (by simp; omega), if_neg (by simp; omega), if_neg (by simp; omega)]; omega
theorem clt_0 (xs : List Nat) : clt xs 0 = 0 := by
  unfold clt; rw [List.countP_eq_zero]; intro a _; simp
theorem clt_top (xs : List Nat) : clt xs 256 = xs.length := by
  unfold clt; rw [List.countP_eq_length]; intro a _; exact decide_eq_true (Nat.mod_lt _ (by decide))
/-- chains and stars -/
def chn (fl : Bool) (key : Nat → Nat) (xs ys : List Nat) : Nat := sumf (fun c => if okf fl c = true then (0 + xs.countP (fun d => okf fl d && key d == sub_ c)) else 0) ys
theorem tsm_iff (Ls : Nat → List Nat) (b v p : Nat) (h : tr_off Ls p ≤ 400) : nI 0 < nI (tsm Ls b v p) ↔ anyb Ls b v p = true := by
  have := tsm_le Ls b v p
  rw [nI_ltI (by omega) (by omega), ← tsm_pos, decide_eq_true_eq]
def rgs (xs : List Nat) (fr to : Int32) : Nat → Nat
  | 0 => 0
  | j + 1 => rgs xs fr to j + xs.countP (fun c => btw (nI (32 * j)) (nI (32 * j + 31)) (obj_ c)) * many (32 * j) fr to / 32
theorem rgs_s (xs : List Nat) (fr to : Int32) (j : Nat) : rgs xs fr to (j + 1) = rgs xs fr to j + xs.countP (fun c => btw (nI (32 * j)) (nI (32 * j + 31)) (obj_ c)) * many (32 * j) fr to / 32 := rfl
theorem flt_at (p : Nat → Bool) (xs : List Nat) (i : Nat) (h : i < xs.length) (hp : p (xs.getD i 0) = true) : ((xs.take i).filter p).length < (xs.filter p).length ∧ (xs.filter p).getD ((xs.take i).filter p).length 0 = xs.getD i 0 := by
  have e : xs.filter p = (xs.take i).filter p ++ (xs.getD i 0 :: (xs.drop (i + 1)).filter p) := by
    have e1 : xs = xs.take i ++ xs.getD i 0 :: xs.drop (i + 1) := by
      have := List.take_append_drop (i + 1) xs
      rw [tk1 xs i 0 h, List.append_assoc] at this
      exact this.symm
    have e2 : xs.filter p = (xs.take i ++ xs.getD i 0 :: xs.drop (i + 1)).filter p := congrArg (List.filter p) e1
    rw [e2, List.filter_append, List.filter_cons_of_pos hp]
  rw [e]
  refine ⟨by simp, ?_⟩
  rw [List.getD_eq_getElem?_getD, List.getElem?_append_right (Nat.le_refl _)]; simp
def gow (a b d : Int32) (p c : Nat) : Bool := pal a (nI (sub_ c)) && pal b (nI p) && pal d (nI (obj_ c))
def mts (Ls : Nat → List Nat) (G : Nat → Nat → Bool) : Nat → Nat
  | 0 => 0
  | p + 1 => mts Ls G p + (Ls p).countP (G p)
theorem mts_s (Ls : Nat → List Nat) (G : Nat → Nat → Bool) (p : Nat) : mts Ls G (p + 1) = mts Ls G p + (Ls p).countP (G p) := rfl
theorem mts_le (Ls : Nat → List Nat) (G : Nat → Nat → Bool) (p : Nat) : mts Ls G p ≤ tr_off Ls p := by
  induction p with
  | zero => exact Nat.le_refl _
  | succ p ih => rw [mts_s, tr_next]; have := cpl (G p) (Ls p); omega
theorem tr_mem {xs : List Nat} {c k : Nat} (hs : ∀ i j, i < j → j < xs.length → xs.getD i 0 < xs.getD j 0) (h1 : ∀ j, j < k → xs.getD j 0 < c) (h2 : k < xs.length → c ≤ xs.getD k 0) : (k < xs.length ∧ xs.getD k 0 = c) ↔ c ∈ xs := by
  constructor
  · rintro ⟨a, b⟩
    rw [← b, List.getD_eq_getElem?_getD, List.getElem?_eq_getElem a]; exact List.getElem_mem a
  · intro h
    obtain ⟨j, hj, e⟩ := List.getElem_of_mem h
    have e2 : xs.getD j 0 = c := by rw [List.getD_eq_getElem?_getD, List.getElem?_eq_getElem hj]; exact e
    have hjk : k ≤ j := Nat.le_of_not_lt (fun q => by have := h1 j q; omega)
    have hk : k < xs.length := by omega
    refine ⟨hk, ?_⟩
    have := h2 hk
    rcases Nat.lt_or_ge k j with q | q
    · have := hs k j q hj; omega
    · have : k = j := by omega
      subst this; exact e2
theorem anyk_pos0 (key : Nat → Nat) (xs : List Nat) (v : Nat) : decide (0 < 0 + xs.countP (fun c => key c == v)) = anyk key xs v := by
  simp only [Nat.zero_add]; exact anyk_pos key xs v
end
section
abbrev rm_X_hash : Room := { frames := 0, cells := 0, slots := 0, locals := 0 }
set_option maxHeartbeats 4000000 in
set_option maxRecDepth 100000 in
theorem c_X_hash (l : Launch) (x : Int32) : Met l yX_hash wX_hash rm_X_hash (zz_N [.int x]) (vp_Si (fun r : Int32 => r = hsh x)) 0 0 (fun _ => False) := by
  refine Met.ofW (cc := cX_hash) (maxL := 2) (ret := (some .int)) (by decide) rfl ?_
  intro pg ev s mt args below meth kd s₁ B hml hv
  have hv : args = _ := hv
  subst hv
  have hx := B.exec
  have hb := B.bytes
  have hr := B.returns
  have ht : ∀ w ∈ W0, w.before _ s = true := fun w h => atoms_spec (ws := wX_hash) B.pre w (List.mem_cons_of_mem _ h)
  have hown : s.vm.findClass "StatRows" = some mt.cls := findClass_of_methodNamed B.named
  have hlocks := B.notSynchronized
  have hl := lv_entry ([.int x]) (n := 2) (Nat.le_of_ble_eq_true rfl)
  rw [lg_entry_eq]
  generalize (lg_sl ([.int x]) ++ List.replicate (2 - (lg_sl ([.int x])).length) Slot.unset).toArray = ls at hl ⊢
  have hl : lv_has ls 2 [(0, .int x)] := hl
  refine lv_iload_n hx hb dX_hash_0 rfl (lv_at hl 0 rfl) ?_
  refine lv_iconst (v := nI 1) hx hb dX_hash_1 (by decide) ?_
  refine lv_iadd hx hb dX_hash_2 ?_
  refine lv_ldc (v := (-1640531535)) hx hb hown (ht _ wd196) dX_hash_3 ?_
  refine lv_imul hx hb dX_hash_5 ?_
  refine lv_istore_n (lv' := [(1, .int ((x + (nI 1)) * (-1640531535))), (0, .int x)]) hx hb dX_hash_6 rfl hl (by decide) rfl (fun ls hl => ?_)
  refine lv_iload_n hx hb dX_hash_7 rfl (lv_at hl 0 rfl) ?_
  refine lv_iload_n hx hb dX_hash_8 rfl (lv_at hl 0 rfl) ?_
  refine lv_bipush (v := nI 15) hx hb dX_hash_9 (by decide) ?_
  refine lv_iushr (v := (((x + (nI 1)) * (-1640531535)).toUInt32 >>> ((nI 15).toUInt32 &&& Int32.toUInt32 31)).toInt32) hx hb dX_hash_11 (rfl) ?_
  refine lv_ixor hx hb dX_hash_12 ?_
  refine lv_istore_n (lv' := [(1, .int (((x + (nI 1)) * (-1640531535)) ^^^ ((((x + (nI 1)) * (-1640531535)).toUInt32 >>> ((nI 15).toUInt32 &&& Int32.toUInt32 31)).toInt32))), (0, .int x)]) hx hb dX_hash_13 rfl hl (by decide) rfl (fun ls hl => ?_)
  refine lv_iload_n hx hb dX_hash_14 rfl (lv_at hl 0 rfl) ?_
  refine lv_ldc (v := (-2048144777)) hx hb hown (ht _ wd197) dX_hash_15 ?_
  refine lv_imul hx hb dX_hash_17 ?_
  refine lv_istore_n (lv' := [(1, .int ((((x + (nI 1)) * (-1640531535)) ^^^ ((((x + (nI 1)) * (-1640531535)).toUInt32 >>> ((nI 15).toUInt32 &&& Int32.toUInt32 31)).toInt32)) * (-2048144777))), (0, .int x)]) hx hb dX_hash_18 rfl hl (by decide) rfl (fun ls hl => ?_)
  refine lv_iload_n hx hb dX_hash_19 rfl (lv_at hl 0 rfl) ?_
  refine lv_iload_n hx hb dX_hash_20 rfl (lv_at hl 0 rfl) ?_
  refine lv_bipush (v := nI 13) hx hb dX_hash_21 (by decide) ?_
  refine lv_iushr (v := (((((x + (nI 1)) * (-1640531535)) ^^^ ((((x + (nI 1)) * (-1640531535)).toUInt32 >>> ((nI 15).toUInt32 &&& Int32.toUInt32 31)).toInt32)) * (-2048144777)).toUInt32 >>> ((nI 13).toUInt32 &&& Int32.toUInt32 31)).toInt32) hx hb dX_hash_23 (rfl) ?_
  refine lv_ixor hx hb dX_hash_24 ?_
  exact zz_iretR (v := ((((x + (nI 1)) * (-1640531535)) ^^^ ((((x + (nI 1)) * (-1640531535)).toUInt32 >>> ((nI 15).toUInt32 &&& Int32.toUInt32 31)).toInt32)) * (-2048144777)) ^^^ ((((((x + (nI 1)) * (-1640531535)) ^^^ ((((x + (nI 1)) * (-1640531535)).toUInt32 >>> ((nI 15).toUInt32 &&& Int32.toUInt32 31)).toInt32)) * (-2048144777)).toUInt32 >>> ((nI 13).toUInt32 &&& Int32.toUInt32 31)).toInt32)) hx hb hr hlocks (rfl) dX_hash_25

abbrev rm_T_start : Room := { frames := 0, cells := 0, slots := 0, locals := 0 }
set_option maxHeartbeats 4000000 in
set_option maxRecDepth 100000 in
theorem c_T_start (l : Launch) (D : va_G) (cI cB : ClassId) (q0 q1 q2 : Nat) (f g : Nat → Int32) (pp a : Nat) (hp : pp < 9) (ha : g pp = nI a) : Met l yT_start wT_start rm_T_start (zz_R D vwCl [(cI, .int), (cB, .boolean)] [.ref q0, .int (nI pp)] [(q0, .inr (0, [.ref q1, .ref q2])), (q1, .inl (cI, 400, .inl f)), (q2, .inl (cI, 9, .inl g))]) (vp_Si (fun r : Int32 => r = nI a)) 0 0 (fun _ => False) := by
  refine Met.ofW (cc := cT_start) (maxL := 2) (ret := (some .int)) (by decide) rfl ?_
  intro pg ev s mt args below meth kd s₁ B hml hv
  obtain ⟨rfl, hP, hK, hN⟩ := hv
  have hx := B.exec
  have hb := B.bytes
  have hr := B.returns
  have ht : ∀ w ∈ W0, w.before _ s = true := fun w h => atoms_spec (ws := wT_start) B.pre w (List.mem_cons_of_mem _ h)
  have hown : s.vm.findClass "StatRows$TripleRow" = some mt.cls := findClass_of_methodNamed B.named
  have hlocks := B.notSynchronized
  have hl := lv_entry ([.ref q0, .int (nI pp)]) (n := 2) (Nat.le_of_ble_eq_true rfl)
  rw [lg_entry_eq]
  generalize (lg_sl ([.ref q0, .int (nI pp)]) ++ List.replicate (2 - (lg_sl ([.ref q0, .int (nI pp)])).length) Slot.unset).toArray = ls at hl ⊢
  have hl : lv_has ls 2 [(0, .ref q0), (1, .int (nI pp))] := hl
  refine lv_aload_n hx hb dT_start_0 rfl (lv_at hl 0 rfl) ?_
  refine va_get (D := D) (ci := 0) (v := .ref q2) (C := "StatRows$TripleRow") (T := TT) (N := 2) hx hb ht inT hown hK hP 0 rfl rfl 1 (by decide) (ht _ wd25) (fun _ h9 => h9) rfl dT_start_1 ?_
  refine lv_iload_n hx hb dT_start_4 rfl (lv_at hl 1 rfl) ?_
  refine zz_iald (k := pp) hx hb hK hP 2 0 rfl rfl (by omega) (by decide) dT_start_5 ?_
  refine zz_top (y := nI a) (ha) ?_
  exact zz_iretR (v := nI a) hx hb hr hlocks (rfl) dT_start_6

abbrev rm_T_end : Room := { frames := 0, cells := 0, slots := 0, locals := 0 }
set_option maxHeartbeats 4000000 in
set_option maxRecDepth 100000 in
theorem c_T_end (l : Launch) (D : va_G) (cI cB : ClassId) (q0 q1 q2 : Nat) (f g : Nat → Int32) (pp a : Nat) (hp : pp < 8) (ha : g (pp + 1) = nI a) : Met l yT_end wT_end rm_T_end (zz_R D vwCl [(cI, .int), (cB, .boolean)] [.ref q0, .int (nI pp)] [(q0, .inr (0, [.ref q1, .ref q2])), (q1, .inl (cI, 400, .inl f)), (q2, .inl (cI, 9, .inl g))]) (vp_Si (fun r : Int32 => r = nI a)) 0 0 (fun _ => False) := by
  refine Met.ofW (cc := cT_end) (maxL := 2) (ret := (some .int)) (by decide) rfl ?_
  intro pg ev s mt args below meth kd s₁ B hml hv
  obtain ⟨rfl, hP, hK, hN⟩ := hv
  have hx := B.exec
  have hb := B.bytes
  have hr := B.returns
  have ht : ∀ w ∈ W0, w.before _ s = true := fun w h => atoms_spec (ws := wT_end) B.pre w (List.mem_cons_of_mem _ h)
  have hown : s.vm.findClass "StatRows$TripleRow" = some mt.cls := findClass_of_methodNamed B.named
  have hlocks := B.notSynchronized
  have hl := lv_entry ([.ref q0, .int (nI pp)]) (n := 2) (Nat.le_of_ble_eq_true rfl)
  rw [lg_entry_eq]
  generalize (lg_sl ([.ref q0, .int (nI pp)]) ++ List.replicate (2 - (lg_sl ([.ref q0, .int (nI pp)])).length) Slot.unset).toArray = ls at hl ⊢
  have hl : lv_has ls 2 [(0, .ref q0), (1, .int (nI pp))] := hl
  refine lv_aload_n hx hb dT_end_0 rfl (lv_at hl 0 rfl) ?_
  refine va_get (D := D) (ci := 0) (v := .ref q2) (C := "StatRows$TripleRow") (T := TT) (N := 2) hx hb ht inT hown hK hP 0 rfl rfl 1 (by decide) (ht _ wd25) (fun _ h9 => h9) rfl dT_end_1 ?_
  refine lv_iload_n hx hb dT_end_4 rfl (lv_at hl 1 rfl) ?_
  refine lv_iconst (v := nI 1) hx hb dT_end_5 (by decide) ?_
  refine lv_iadd hx hb dT_end_6 ?_
  refine zz_top (y := nI (pp + 1)) (nI_add pp 1) ?_
  refine zz_iald (k := pp + 1) hx hb hK hP 2 0 rfl rfl (by omega) (by decide) dT_end_7 ?_
  refine zz_top (y := nI a) (ha) ?_
  exact zz_iretR (v := nI a) hx hb hr hlocks (rfl) dT_end_8

abbrev rm_T_sizeOf : Room := { frames := 1, cells := 0, slots := 0, locals := 21 }
set_option maxHeartbeats 4000000 in
set_option maxRecDepth 100000 in
theorem c_T_sizeOf (l : Launch) (D : va_G) (cI cB : ClassId) (q0 q1 q2 : Nat) (f g : Nat → Int32) (pp a b : Nat) (hp : pp < 8) (ha : g pp = nI a) (hb2 : g (pp + 1) = nI b) (hab : a ≤ b) : Met l yT_sizeOf wT_sizeOf rm_T_sizeOf (zz_R D vwCl [(cI, .int), (cB, .boolean)] [.ref q0, .int (nI pp)] [(q0, .inr (0, [.ref q1, .ref q2])), (q1, .inl (cI, 400, .inl f)), (q2, .inl (cI, 9, .inl g))]) (vp_Si (fun r : Int32 => r = nI (b - a))) 0 0 (fun _ => False) := by
  refine Met.ofW (cc := cT_sizeOf) (maxL := 2) (ret := (some .int)) (by decide) rfl ?_
  intro pg ev s mt args below meth kd s₁ B hml hv
  obtain ⟨rfl, hP, hK, hN⟩ := hv
  have hx := B.exec
  have hb := B.bytes
  have hr := B.returns
  have ht : ∀ w ∈ W0, w.before _ s = true := fun w h => atoms_spec (ws := wT_sizeOf) B.pre w (List.mem_cons_of_mem _ h)
  have hown : s.vm.findClass "StatRows$TripleRow" = some mt.cls := findClass_of_methodNamed B.named
  have hlocks := B.notSynchronized
  have hl := lv_entry ([.ref q0, .int (nI pp)]) (n := 2) (Nat.le_of_ble_eq_true rfl)
  rw [lg_entry_eq]
  generalize (lg_sl ([.ref q0, .int (nI pp)]) ++ List.replicate (2 - (lg_sl ([.ref q0, .int (nI pp)])).length) Slot.unset).toArray = ls at hl ⊢
  have hl : lv_has ls 2 [(0, .ref q0), (1, .int (nI pp))] := hl
  refine lv_aload_n hx hb dT_sizeOf_0 rfl (lv_at hl 0 rfl) ?_
  refine lv_iload_n hx hb dT_sizeOf_1 rfl (lv_at hl 1 rfl) ?_
  refine zz_ci (v := nI b) (W.runV (As := [.int (nI pp)]) (rest := []) ⟨hx, hb, hml, hown, ht⟩ (c_T_end l D cI cB q0 q1 q2 f g pp b hp hb2) (cwV 1 ht (gd_V wd117 wd118 wd119 wd2 wd120) rfl rfl rfl (by decide +kernel) ⟨Nat.le_of_ble_eq_true rfl, Nat.le_of_ble_eq_true rfl⟩) (zz_R_V hN hK (hP.sub (ws' := [(q0, .inr (0, [.ref q1, .ref q2])), (q1, .inl (cI, 400, .inl f)), (q2, .inl (cI, 9, .inl g))]) [0, 1, 2] rfl) 0 0 rfl rfl) rfl rfl hl.1 rfl (lv_room (Nat.le_of_ble_eq_true rfl)) dT_sizeOf_2 ⟨Nat.le_of_ble_eq_true rfl, Nat.le_of_ble_eq_true rfl⟩) ?_
  refine lv_aload_n hx hb dT_sizeOf_5 rfl (lv_at hl 0 rfl) ?_
  refine lv_iload_n hx hb dT_sizeOf_6 rfl (lv_at hl 1 rfl) ?_
  refine zz_ci (v := nI a) (W.runV (As := [.int (nI pp)]) (rest := [.int (nI b)]) ⟨hx, hb, hml, hown, ht⟩ (c_T_start l D cI cB q0 q1 q2 f g pp a (by omega) ha) (cwV 1 ht (gd_V wd121 wd122 wd123 wd2 wd124) rfl rfl rfl (by decide +kernel) ⟨Nat.le_of_ble_eq_true rfl, Nat.le_of_ble_eq_true rfl⟩) (zz_R_V hN hK (hP.sub (ws' := [(q0, .inr (0, [.ref q1, .ref q2])), (q1, .inl (cI, 400, .inl f)), (q2, .inl (cI, 9, .inl g))]) [0, 1, 2] rfl) 0 0 rfl rfl) rfl rfl hl.1 rfl (lv_room (Nat.le_of_ble_eq_true rfl)) dT_sizeOf_7 ⟨Nat.le_of_ble_eq_true rfl, Nat.le_of_ble_eq_true rfl⟩) ?_
  refine lv_isub hx hb dT_sizeOf_10 ?_
  refine zz_top (y := nI (b - a)) (pk_sub (a := b) (b := a) (by omega)) ?_
  exact zz_iretR (v := nI (b - a)) hx hb hr hlocks (rfl) dT_sizeOf_11

abbrev rm_T_size : Room := { frames := 0, cells := 0, slots := 0, locals := 0 }
set_option maxHeartbeats 4000000 in
set_option maxRecDepth 100000 in
theorem c_T_size (l : Launch) (D : va_G) (cI cB : ClassId) (q0 q1 q2 : Nat) (f g : Nat → Int32) (a : Nat) (ha : g 8 = nI a) : Met l yT_size wT_size rm_T_size (zz_R D vwCl [(cI, .int), (cB, .boolean)] [.ref q0] [(q0, .inr (0, [.ref q1, .ref q2])), (q1, .inl (cI, 400, .inl f)), (q2, .inl (cI, 9, .inl g))]) (vp_Si (fun r : Int32 => r = nI a)) 0 0 (fun _ => False) := by
  refine Met.ofW (cc := cT_size) (maxL := 1) (ret := (some .int)) (by decide) rfl ?_
  intro pg ev s mt args below meth kd s₁ B hml hv
  obtain ⟨rfl, hP, hK, hN⟩ := hv
  have hx := B.exec
  have hb := B.bytes
  have hr := B.returns
  have ht : ∀ w ∈ W0, w.before _ s = true := fun w h => atoms_spec (ws := wT_size) B.pre w (List.mem_cons_of_mem _ h)
  have hown : s.vm.findClass "StatRows$TripleRow" = some mt.cls := findClass_of_methodNamed B.named
  have hlocks := B.notSynchronized
  have hl := lv_entry ([.ref q0]) (n := 1) (Nat.le_of_ble_eq_true rfl)
  rw [lg_entry_eq]
  generalize (lg_sl ([.ref q0]) ++ List.replicate (1 - (lg_sl ([.ref q0])).length) Slot.unset).toArray = ls at hl ⊢
  have hl : lv_has ls 1 [(0, .ref q0)] := hl
  refine lv_aload_n hx hb dT_size_0 rfl (lv_at hl 0 rfl) ?_
  refine va_get (D := D) (ci := 0) (v := .ref q2) (C := "StatRows$TripleRow") (T := TT) (N := 2) hx hb ht inT hown hK hP 0 rfl rfl 1 (by decide) (ht _ wd25) (fun _ h9 => h9) rfl dT_size_1 ?_
  refine lv_bipush (v := nI 8) hx hb dT_size_4 (by decide) ?_
  refine zz_iald (k := 8) hx hb hK hP 2 0 rfl rfl (by omega) (by decide) dT_size_6 ?_
  refine zz_top (y := nI a) (ha) ?_
  exact zz_iretR (v := nI a) hx hb hr hlocks (rfl) dT_size_7

abbrev rm_T_pairAt : Room := { frames := 0, cells := 0, slots := 0, locals := 0 }
set_option maxHeartbeats 4000000 in
set_option maxRecDepth 100000 in
theorem c_T_pairAt (l : Launch) (D : va_G) (cI cB : ClassId) (q0 q1 q2 : Nat) (f g : Nat → Int32) (k a : Nat) (hk : k < 400) (ha : f k = nI a) : Met l yT_pairAt wT_pairAt rm_T_pairAt (zz_R D vwCl [(cI, .int), (cB, .boolean)] [.ref q0, .int (nI k)] [(q0, .inr (0, [.ref q1, .ref q2])), (q1, .inl (cI, 400, .inl f)), (q2, .inl (cI, 9, .inl g))]) (vp_Si (fun r : Int32 => r = nI a)) 0 0 (fun _ => False) := by
  refine Met.ofW (cc := cT_pairAt) (maxL := 2) (ret := (some .int)) (by decide) rfl ?_
  intro pg ev s mt args below meth kd s₁ B hml hv
  obtain ⟨rfl, hP, hK, hN⟩ := hv
  have hx := B.exec
  have hb := B.bytes
  have hr := B.returns
  have ht : ∀ w ∈ W0, w.before _ s = true := fun w h => atoms_spec (ws := wT_pairAt) B.pre w (List.mem_cons_of_mem _ h)
  have hown : s.vm.findClass "StatRows$TripleRow" = some mt.cls := findClass_of_methodNamed B.named
  have hlocks := B.notSynchronized
  have hl := lv_entry ([.ref q0, .int (nI k)]) (n := 2) (Nat.le_of_ble_eq_true rfl)
  rw [lg_entry_eq]
  generalize (lg_sl ([.ref q0, .int (nI k)]) ++ List.replicate (2 - (lg_sl ([.ref q0, .int (nI k)])).length) Slot.unset).toArray = ls at hl ⊢
  have hl : lv_has ls 2 [(0, .ref q0), (1, .int (nI k))] := hl
  refine lv_aload_n hx hb dT_pairAt_0 rfl (lv_at hl 0 rfl) ?_
  refine va_get (D := D) (ci := 0) (v := .ref q1) (C := "StatRows$TripleRow") (T := TT) (N := 2) hx hb ht inT hown hK hP 0 rfl rfl 0 (by decide) (ht _ wd24) (fun _ h9 => h9) rfl dT_pairAt_1 ?_
  refine lv_iload_n hx hb dT_pairAt_4 rfl (lv_at hl 1 rfl) ?_
  refine zz_iald (k := k) hx hb hK hP 1 0 rfl rfl (by omega) (by decide) dT_pairAt_5 ?_
  refine zz_top (y := nI a) (ha) ?_
  exact zz_iretR (v := nI a) hx hb hr hlocks (rfl) dT_pairAt_6

abbrev rm_T_subjectAt : Room := { frames := 0, cells := 0, slots := 0, locals := 0 }
set_option maxHeartbeats 4000000 in
set_option maxRecDepth 100000 in
theorem c_T_subjectAt (l : Launch) (D : va_G) (cI cB : ClassId) (q0 q1 q2 : Nat) (f g : Nat → Int32) (k a : Nat) (hk : k < 400) (ha : f k = nI a) (hlt : a < 65536) : Met l yT_subjectAt wT_subjectAt rm_T_subjectAt (zz_R D vwCl [(cI, .int), (cB, .boolean)] [.ref q0, .int (nI k)] [(q0, .inr (0, [.ref q1, .ref q2])), (q1, .inl (cI, 400, .inl f)), (q2, .inl (cI, 9, .inl g))]) (vp_Si (fun r : Int32 => r = nI (a / 256))) 0 0 (fun _ => False) := by
  refine Met.ofW (cc := cT_subjectAt) (maxL := 2) (ret := (some .int)) (by decide) rfl ?_
  intro pg ev s mt args below meth kd s₁ B hml hv
  obtain ⟨rfl, hP, hK, hN⟩ := hv
  have hx := B.exec
  have hb := B.bytes
  have hr := B.returns
  have ht : ∀ w ∈ W0, w.before _ s = true := fun w h => atoms_spec (ws := wT_subjectAt) B.pre w (List.mem_cons_of_mem _ h)
  have hown : s.vm.findClass "StatRows$TripleRow" = some mt.cls := findClass_of_methodNamed B.named
  have hlocks := B.notSynchronized
  have hl := lv_entry ([.ref q0, .int (nI k)]) (n := 2) (Nat.le_of_ble_eq_true rfl)
  rw [lg_entry_eq]
  generalize (lg_sl ([.ref q0, .int (nI k)]) ++ List.replicate (2 - (lg_sl ([.ref q0, .int (nI k)])).length) Slot.unset).toArray = ls at hl ⊢
  have hl : lv_has ls 2 [(0, .ref q0), (1, .int (nI k))] := hl
  refine lv_aload_n hx hb dT_subjectAt_0 rfl (lv_at hl 0 rfl) ?_
  refine va_get (D := D) (ci := 0) (v := .ref q1) (C := "StatRows$TripleRow") (T := TT) (N := 2) hx hb ht inT hown hK hP 0 rfl rfl 0 (by decide) (ht _ wd24) (fun _ h9 => h9) rfl dT_subjectAt_1 ?_
  refine lv_iload_n hx hb dT_subjectAt_4 rfl (lv_at hl 1 rfl) ?_
  refine zz_iald (k := k) hx hb hK hP 1 0 rfl rfl (by omega) (by decide) dT_subjectAt_5 ?_
  refine zz_top (y := nI a) (ha) ?_
  refine lv_bipush (v := nI 8) hx hb dT_subjectAt_6 (by decide) ?_
  refine lv_ishr hx hb dT_subjectAt_8 ?_
  refine zz_top (y := nI (a / 256)) (pk_shrN (n := a) (by omega) (nI 8 &&& 31) 8 (by decide)) ?_
  refine lv_sipush (v := nI 255) hx hb dT_subjectAt_9 (by decide) ?_
  refine lv_iand hx hb dT_subjectAt_12 ?_
  refine zz_top (y := nI ((a / 256) % 256)) (pk_andN (n := a / 256) (by omega) 8 (by decide)) ?_
  exact zz_iretR (v := nI ((a / 256) % 256)) hx hb hr hlocks (congrArg nI (by omega)) dT_subjectAt_13

abbrev rm_T_objectAt : Room := { frames := 0, cells := 0, slots := 0, locals := 0 }
set_option maxHeartbeats 4000000 in
set_option maxRecDepth 100000 in
theorem c_T_objectAt (l : Launch) (D : va_G) (cI cB : ClassId) (q0 q1 q2 : Nat) (f g : Nat → Int32) (k a : Nat) (hk : k < 400) (ha : f k = nI a) (hlt : a < 65536) : Met l yT_objectAt wT_objectAt rm_T_objectAt (zz_R D vwCl [(cI, .int), (cB, .boolean)] [.ref q0, .int (nI k)] [(q0, .inr (0, [.ref q1, .ref q2])), (q1, .inl (cI, 400, .inl f)), (q2, .inl (cI, 9, .inl g))]) (vp_Si (fun r : Int32 => r = nI (a % 256))) 0 0 (fun _ => False) := by
  refine Met.ofW (cc := cT_objectAt) (maxL := 2) (ret := (some .int)) (by decide) rfl ?_
  intro pg ev s mt args below meth kd s₁ B hml hv
  obtain ⟨rfl, hP, hK, hN⟩ := hv
  have hx := B.exec
  have hb := B.bytes
  have hr := B.returns
  have ht : ∀ w ∈ W0, w.before _ s = true := fun w h => atoms_spec (ws := wT_objectAt) B.pre w (List.mem_cons_of_mem _ h)
  have hown : s.vm.findClass "StatRows$TripleRow" = some mt.cls := findClass_of_methodNamed B.named
  have hlocks := B.notSynchronized
  have hl := lv_entry ([.ref q0, .int (nI k)]) (n := 2) (Nat.le_of_ble_eq_true rfl)
  rw [lg_entry_eq]
  generalize (lg_sl ([.ref q0, .int (nI k)]) ++ List.replicate (2 - (lg_sl ([.ref q0, .int (nI k)])).length) Slot.unset).toArray = ls at hl ⊢
  have hl : lv_has ls 2 [(0, .ref q0), (1, .int (nI k))] := hl
  refine lv_aload_n hx hb dT_objectAt_0 rfl (lv_at hl 0 rfl) ?_
  refine va_get (D := D) (ci := 0) (v := .ref q1) (C := "StatRows$TripleRow") (T := TT) (N := 2) hx hb ht inT hown hK hP 0 rfl rfl 0 (by decide) (ht _ wd24) (fun _ h9 => h9) rfl dT_objectAt_1 ?_
  refine lv_iload_n hx hb dT_objectAt_4 rfl (lv_at hl 1 rfl) ?_
  refine zz_iald (k := k) hx hb hK hP 1 0 rfl rfl (by omega) (by decide) dT_objectAt_5 ?_
  refine zz_top (y := nI a) (ha) ?_
  refine lv_sipush (v := nI 255) hx hb dT_objectAt_6 (by decide) ?_
  refine lv_iand hx hb dT_objectAt_9 ?_
  refine zz_top (y := nI (a % 256)) (pk_andN (n := a) (by omega) 8 (by decide)) ?_
  exact zz_iretR (v := nI (a % 256)) hx hb hr hlocks (rfl) dT_objectAt_10

abbrev rm_T_isSampled : Room := { frames := 1, cells := 0, slots := 0, locals := 21 }
set_option maxHeartbeats 4000000 in
set_option maxRecDepth 100000 in
theorem c_T_isSampled (l : Launch) (D : va_G) (cI cB : ClassId) (q0 q1 q2 : Nat) (f g : Nat → Int32) (k a : Nat) (hk : k < 400) (ha : f k = nI a) : Met l yT_isSampled wT_isSampled rm_T_isSampled (zz_R D vwCl [(cI, .int), (cB, .boolean)] [.ref q0, .int (nI k)] [(q0, .inr (0, [.ref q1, .ref q2])), (q1, .inl (cI, 400, .inl f)), (q2, .inl (cI, 9, .inl g))]) (vp_Si (fun r : Int32 => r = nI (smp a).toNat)) 0 0 (fun _ => False) := by
  refine Met.ofW (cc := cT_isSampled) (maxL := 2) (ret := (some .boolean)) (by decide) rfl ?_
  intro pg ev s mt args below meth kd s₁ B hml hv
  obtain ⟨rfl, hP, hK, hN⟩ := hv
  have hx := B.exec
  have hb := B.bytes
  have hr := B.returns
  have ht : ∀ w ∈ W0, w.before _ s = true := fun w h => atoms_spec (ws := wT_isSampled) B.pre w (List.mem_cons_of_mem _ h)
  have hown : s.vm.findClass "StatRows$TripleRow" = some mt.cls := findClass_of_methodNamed B.named
  have hlocks := B.notSynchronized
  have hl := lv_entry ([.ref q0, .int (nI k)]) (n := 2) (Nat.le_of_ble_eq_true rfl)
  rw [lg_entry_eq]
  generalize (lg_sl ([.ref q0, .int (nI k)]) ++ List.replicate (2 - (lg_sl ([.ref q0, .int (nI k)])).length) Slot.unset).toArray = ls at hl ⊢
  have hl : lv_has ls 2 [(0, .ref q0), (1, .int (nI k))] := hl
  refine lv_aload_n hx hb dT_isSampled_0 rfl (lv_at hl 0 rfl) ?_
  refine va_get (D := D) (ci := 0) (v := .ref q1) (C := "StatRows$TripleRow") (T := TT) (N := 2) hx hb ht inT hown hK hP 0 rfl rfl 0 (by decide) (ht _ wd24) (fun _ h9 => h9) rfl dT_isSampled_1 ?_
  refine lv_iload_n hx hb dT_isSampled_4 rfl (lv_at hl 1 rfl) ?_
  refine zz_iald (k := k) hx hb hK hP 1 0 rfl rfl (by omega) (by decide) dT_isSampled_5 ?_
  refine zz_top (y := nI a) (ha) ?_
  refine zz_ci (v := hsh (nI a)) (zz_run (va_runSN (As := [.int (nI a)]) (rest := []) ⟨hx, hb, hml, hown, ht⟩ (c_X_hash l (nI a)) ⟨va_cnB 1 ht (gd_1 wd195) rfl rfl rfl hN.1 (ht _ wd1) (by decide +kernel) ⟨Nat.le_of_ble_eq_true rfl, Nat.le_of_ble_eq_true rfl⟩, ht _ wd194, trivial⟩ zz_N_S rfl rfl hl.1 rfl (lv_room (Nat.le_of_ble_eq_true rfl)) dT_isSampled_6 ⟨Nat.le_of_ble_eq_true rfl, Nat.le_of_ble_eq_true rfl⟩)) ?_
  refine lv_iconst (v := nI 3) hx hb dT_isSampled_9 (by decide) ?_
  refine lv_iand hx hb dT_isSampled_10 ?_
  refine lv_if_ne (tgt := 18) hx hb dT_isSampled_11 (by decide) (fun c11 => ?_) (fun c11 => ?_)
  · -- taken
    have hs : smp a = false := by unfold smp; simpa using c11
    refine lv_iconst (v := nI 0) hx hb dT_isSampled_18 (by decide) ?_
    exact zz_zretR (v := nI 0) hx hb hr hlocks (by decide) (by rw [hs]; rfl) dT_isSampled_19
  · -- not taken
    have hs : smp a = true := by unfold smp; simpa using c11
    refine lv_iconst (v := nI 1) hx hb dT_isSampled_14 (by decide) ?_
    refine lv_goto (tgt := 19) hx hb dT_isSampled_15 (by decide) ?_
    exact zz_zretR (v := nI 1) hx hb hr hlocks (by decide) (by rw [hs]; rfl) dT_isSampled_19

abbrev rm_T_placeOf : Room := { frames := 1, cells := 0, slots := 0, locals := 21 }
set_option maxHeartbeats 4000000 in
set_option maxRecDepth 100000 in
theorem c_T_placeOf (l : Launch) (D : va_G) (cI cB : ClassId) (q0 q1 q2 : Nat) (f g : Nat → Int32) (pp a n c : Nat) (xs : Nat → Nat) (hp : pp < 8) (ha : g pp = nI a) (hb2 : g (pp + 1) = nI (a + n)) (hn : a + n ≤ 400) (hf : ∀ i, i < n → f (a + i) = nI (xs i)) (hx2 : ∀ i, i < n → xs i < 65536) (hc : c < 65536) (k : Nat) (hk : k ≤ n) (h1 : ∀ j, j < k → xs j < c) (h2 : k < n → c ≤ xs k) : Met l yT_placeOf wT_placeOf rm_T_placeOf (zz_R D vwCl [(cI, .int), (cB, .boolean)] [.ref q0, .int (nI pp), .int (nI c)] [(q0, .inr (0, [.ref q1, .ref q2])), (q1, .inl (cI, 400, .inl f)), (q2, .inl (cI, 9, .inl g))]) (vp_Si (fun r : Int32 => r = nI (a + k))) 0 0 (fun _ => False) := by
  refine Met.ofW (cc := cT_placeOf) (maxL := 5) (ret := (some .int)) (by decide) rfl ?_
  intro pg ev s mt args below meth kd s₁ B hml hv
  obtain ⟨rfl, hP, hK, hN⟩ := hv
  have hx := B.exec
  have hb := B.bytes
  have hr := B.returns
  have ht : ∀ w ∈ W0, w.before _ s = true := fun w h => atoms_spec (ws := wT_placeOf) B.pre w (List.mem_cons_of_mem _ h)
  have hown : s.vm.findClass "StatRows$TripleRow" = some mt.cls := findClass_of_methodNamed B.named
  have hlocks := B.notSynchronized
  have hl := lv_entry ([.ref q0, .int (nI pp), .int (nI c)]) (n := 5) (Nat.le_of_ble_eq_true rfl)
  rw [lg_entry_eq]
  generalize (lg_sl ([.ref q0, .int (nI pp), .int (nI c)]) ++ List.replicate (5 - (lg_sl ([.ref q0, .int (nI pp), .int (nI c)])).length) Slot.unset).toArray = ls at hl ⊢
  have hl : lv_has ls 5 [(0, .ref q0), (1, .int (nI pp)), (2, .int (nI c))] := hl
  refine lv_aload_n hx hb dT_placeOf_0 rfl (lv_at hl 0 rfl) ?_
  refine lv_iload_n hx hb dT_placeOf_1 rfl (lv_at hl 1 rfl) ?_
  refine zz_ci (v := nI (a + n)) (W.runV (As := [.int (nI pp)]) (rest := []) ⟨hx, hb, hml, hown, ht⟩ (c_T_end l D cI cB q0 q1 q2 f g pp (a + n) hp hb2) (cwV 1 ht (gd_V wd117 wd118 wd119 wd2 wd120) rfl rfl rfl (by decide +kernel) ⟨Nat.le_of_ble_eq_true rfl, Nat.le_of_ble_eq_true rfl⟩) (zz_R_V hN hK (hP.sub (ws' := [(q0, .inr (0, [.ref q1, .ref q2])), (q1, .inl (cI, 400, .inl f)), (q2, .inl (cI, 9, .inl g))]) [0, 1, 2] rfl) 0 0 rfl rfl) rfl rfl hl.1 rfl (lv_room (Nat.le_of_ble_eq_true rfl)) dT_placeOf_2 ⟨Nat.le_of_ble_eq_true rfl, Nat.le_of_ble_eq_true rfl⟩) ?_
  refine lv_istore_n (lv' := [(3, .int (nI (a + n))), (0, .ref q0), (1, .int (nI pp)), (2, .int (nI c))]) hx hb dT_placeOf_5 rfl hl (by decide) rfl (fun ls hl => ?_)
  refine lv_aload_n hx hb dT_placeOf_6 rfl (lv_at hl 1 rfl) ?_
  refine lv_iload_n hx hb dT_placeOf_7 rfl (lv_at hl 2 rfl) ?_
  refine zz_ci (v := nI (a + 0)) (W.runV (As := [.int (nI pp)]) (rest := []) ⟨hx, hb, hml, hown, ht⟩ (c_T_start l D cI cB q0 q1 q2 f g pp a (by omega) ha) (cwV 1 ht (gd_V wd121 wd122 wd123 wd2 wd124) rfl rfl rfl (by decide +kernel) ⟨Nat.le_of_ble_eq_true rfl, Nat.le_of_ble_eq_true rfl⟩) (zz_R_V hN hK (hP.sub (ws' := [(q0, .inr (0, [.ref q1, .ref q2])), (q1, .inl (cI, 400, .inl f)), (q2, .inl (cI, 9, .inl g))]) [0, 1, 2] rfl) 0 0 rfl rfl) rfl rfl hl.1 rfl (lv_room (Nat.le_of_ble_eq_true rfl)) dT_placeOf_8 ⟨Nat.le_of_ble_eq_true rfl, Nat.le_of_ble_eq_true rfl⟩) ?_
  refine lv_istore (lv' := [(4, .int (nI (a + 0))), (3, .int (nI (a + n))), (0, .ref q0), (1, .int (nI pp)), (2, .int (nI c))]) hx hb dT_placeOf_11 hl (by decide) rfl (fun ls hl => ?_)
  have lp13 : ∀ (fu : Nat) (i : Nat) (hi : i ≤ k) (hm : n - i < fu) (ls : Array Slot) (hl : lv_has ls 5 [(0, .ref q0), (1, .int (nI pp)), (2, .int (nI c)), (3, .int (nI (a + n))), (4, .int (nI (a + i)))]), W pg l ev (headSpec wT_placeOf rm_T_placeOf).room s mt (([.ref q0, .int (nI pp), .int (nI c)] : List Value).toArray) below meth kd s.heap [] 0 0 (MQ below (vp_Si (fun r : Int32 => r = nI (a + k))) (([.ref q0, .int (nI pp), .int (nI c)] : List Value).toArray) s 0 0 (fun _ => False)) (F0 mt 13 ls []) := by
    intro fu
    induction fu with
    | zero => intro i hi hm; exact absurd hm (Nat.not_lt_zero _)
    | succ fu ih13 =>
      intro i hi hm ls hl
      have hxi := hx2 i
      refine lv_iload hx hb dT_placeOf_13 (lv_at hl 4 rfl) ?_
      refine lv_iload_n hx hb dT_placeOf_15 rfl (lv_at hl 3 rfl) ?_
      refine lv_icmp_ge (tgt := 39) hx hb dT_placeOf_16 (by decide) (fun c16 => ?_) (fun c16 => ?_)
      · -- taken
        have c16 : a + n ≤ a + i := (nI_leI (a := a + n) (b := a + i) (by omega) (by omega)).mp c16
        have e : i = k := by omega
        refine lv_iload_n hx hb dT_placeOf_39 rfl (lv_at hl 3 rfl) ?_
        exact zz_iretR (v := nI (a + n)) hx hb hr hlocks (congrArg nI (by omega)) dT_placeOf_40
      · -- not taken
        have c16 : ¬ (a + n ≤ a + i) := fun h => c16 ((nI_leI (a := a + n) (b := a + i) (by omega) (by omega)).mpr h)
        refine lv_aload_n hx hb dT_placeOf_19 rfl (lv_at hl 0 rfl) ?_
        refine va_get (D := D) (ci := 0) (v := .ref q1) (C := "StatRows$TripleRow") (T := TT) (N := 2) hx hb ht inT hown hK hP 0 rfl rfl 0 (by decide) (ht _ wd24) (fun _ h9 => h9) rfl dT_placeOf_20 ?_
        refine lv_iload hx hb dT_placeOf_23 (lv_at hl 4 rfl) ?_
        refine zz_iald (k := a + i) hx hb hK hP 1 0 rfl rfl (by omega) (by decide) dT_placeOf_25 ?_
        refine zz_top (y := nI (xs i)) (hf i (by omega)) ?_
        refine lv_iload_n hx hb dT_placeOf_26 rfl (lv_at hl 2 rfl) ?_
        refine lv_icmp_lt (tgt := 33) hx hb dT_placeOf_27 (by decide) (fun c27 => ?_) (fun c27 => ?_)
        · -- taken
          have c27 : xs i < c := (nI_ltI (a := xs i) (b := c) (by omega) (by omega)).mp c27
          have e : i < k := by
            rcases Nat.lt_or_ge i k with q | q
            · exact q
            · have : i = k := by omega
              subst this
              exact absurd (h2 (by omega)) (by omega)
          refine lv_iinc (v := nI (a + i + 1)) (lv' := [(4, .int (nI (a + i + 1))), (0, .ref q0), (1, .int (nI pp)), (2, .int (nI c)), (3, .int (nI (a + n)))]) hx hb dT_placeOf_33 hl (k := 4) rfl (nI_1 (a + i)) (by decide) rfl (fun ls hl => ?_)
          refine lv_goto (tgt := 13) hx hb dT_placeOf_36 (by decide) ?_
          exact ih13 (i + 1) (by omega) (by omega) ls (lv_sub hl [1, 2, 3, 4, 0] rfl)
        · -- not taken
          have c27 : ¬ (xs i < c) := fun h => c27 ((nI_ltI (a := xs i) (b := c) (by omega) (by omega)).mpr h)
          have e : i = k := by
            rcases Nat.lt_or_ge i k with q | q
            · exact absurd (h1 i q) c27
            · omega
          refine lv_iload hx hb dT_placeOf_30 (lv_at hl 4 rfl) ?_
          exact zz_iretR (v := nI (a + i)) hx hb hr hlocks (congrArg nI (by omega)) dT_placeOf_32
  exact lp13 ((n - 0) + 1) 0 (Nat.zero_le _) (Nat.lt_succ_self _) ls (lv_sub hl [2, 3, 4, 1, 0] rfl)

abbrev rm_T_isAt : Room := { frames := 1, cells := 0, slots := 0, locals := 21 }
set_option maxHeartbeats 4000000 in
set_option maxRecDepth 100000 in
theorem c_T_isAt (l : Launch) (D : va_G) (cI cB : ClassId) (q0 q1 q2 : Nat) (f g : Nat → Int32) (pp a n c : Nat) (xs : Nat → Nat) (hp : pp < 8) (ha : g pp = nI a) (hb2 : g (pp + 1) = nI (a + n)) (hn : a + n ≤ 400) (hf : ∀ i, i < n → f (a + i) = nI (xs i)) (hx2 : ∀ i, i < n → xs i < 65536) (hc : c < 65536) (k : Nat) (hk : k ≤ n) : Met l yT_isAt wT_isAt rm_T_isAt (zz_R D vwCl [(cI, .int), (cB, .boolean)] [.ref q0, .int (nI (a + k)), .int (nI pp), .int (nI c)] [(q0, .inr (0, [.ref q1, .ref q2])), (q1, .inl (cI, 400, .inl f)), (q2, .inl (cI, 9, .inl g))]) (vp_Si (fun r : Int32 => r = nI (decide (k < n ∧ xs k = c)).toNat)) 0 0 (fun _ => False) := by
  refine Met.ofW (cc := cT_isAt) (maxL := 4) (ret := (some .boolean)) (by decide) rfl ?_
  intro pg ev s mt args below meth kd s₁ B hml hv
  obtain ⟨rfl, hP, hK, hN⟩ := hv
  have hx := B.exec
  have hb := B.bytes
  have hr := B.returns
  have ht : ∀ w ∈ W0, w.before _ s = true := fun w h => atoms_spec (ws := wT_isAt) B.pre w (List.mem_cons_of_mem _ h)
  have hown : s.vm.findClass "StatRows$TripleRow" = some mt.cls := findClass_of_methodNamed B.named
  have hlocks := B.notSynchronized
  have hl := lv_entry ([.ref q0, .int (nI (a + k)), .int (nI pp), .int (nI c)]) (n := 4) (Nat.le_of_ble_eq_true rfl)
  rw [lg_entry_eq]
  generalize (lg_sl ([.ref q0, .int (nI (a + k)), .int (nI pp), .int (nI c)]) ++ List.replicate (4 - (lg_sl ([.ref q0, .int (nI (a + k)), .int (nI pp), .int (nI c)])).length) Slot.unset).toArray = ls at hl ⊢
  have hl : lv_has ls 4 [(0, .ref q0), (1, .int (nI (a + k))), (2, .int (nI pp)), (3, .int (nI c))] := hl
  refine lv_iload_n hx hb dT_isAt_0 rfl (lv_at hl 1 rfl) ?_
  refine lv_aload_n hx hb dT_isAt_1 rfl (lv_at hl 0 rfl) ?_
  refine lv_iload_n hx hb dT_isAt_2 rfl (lv_at hl 2 rfl) ?_
  refine zz_ci (v := nI (a + n)) (W.runV (As := [.int (nI pp)]) (rest := [.int (nI (a + k))]) ⟨hx, hb, hml, hown, ht⟩ (c_T_end l D cI cB q0 q1 q2 f g pp (a + n) hp hb2) (cwV 1 ht (gd_V wd117 wd118 wd119 wd2 wd120) rfl rfl rfl (by decide +kernel) ⟨Nat.le_of_ble_eq_true rfl, Nat.le_of_ble_eq_true rfl⟩) (zz_R_V hN hK (hP.sub (ws' := [(q0, .inr (0, [.ref q1, .ref q2])), (q1, .inl (cI, 400, .inl f)), (q2, .inl (cI, 9, .inl g))]) [0, 1, 2] rfl) 0 0 rfl rfl) rfl rfl hl.1 rfl (lv_room (Nat.le_of_ble_eq_true rfl)) dT_isAt_3 ⟨Nat.le_of_ble_eq_true rfl, Nat.le_of_ble_eq_true rfl⟩) ?_
  refine lv_icmp_ge (tgt := 23) hx hb dT_isAt_6 (by decide) (fun c6 => ?_) (fun c6 => ?_)
  · -- taken
    have c6 : a + n ≤ a + k := (nI_leI (a := a + n) (b := a + k) (by omega) (by omega)).mp c6
    have hs : decide (k < n ∧ xs k = c) = false := decide_eq_false (fun q => by omega)
    refine lv_iconst (v := nI 0) hx hb dT_isAt_23 (by decide) ?_
    exact zz_zretR (v := nI 0) hx hb hr hlocks (by decide) (by rw [hs]; rfl) dT_isAt_24
  · -- not taken
    have c6 : ¬ (a + n ≤ a + k) := fun h => c6 ((nI_leI (a := a + n) (b := a + k) (by omega) (by omega)).mpr h)
    have hxk := hx2 k (by omega)
    refine lv_aload_n hx hb dT_isAt_9 rfl (lv_at hl 0 rfl) ?_
    refine va_get (D := D) (ci := 0) (v := .ref q1) (C := "StatRows$TripleRow") (T := TT) (N := 2) hx hb ht inT hown hK hP 0 rfl rfl 0 (by decide) (ht _ wd24) (fun _ h9 => h9) rfl dT_isAt_10 ?_
    refine lv_iload_n hx hb dT_isAt_13 rfl (lv_at hl 1 rfl) ?_
    refine zz_iald (k := a + k) hx hb hK hP 1 0 rfl rfl (by omega) (by decide) dT_isAt_14 ?_
    refine zz_top (y := nI (xs k)) (hf k (by omega)) ?_
    refine lv_iload_n hx hb dT_isAt_15 rfl (lv_at hl 3 rfl) ?_
    refine lv_icmp_ne (tgt := 23) hx hb dT_isAt_16 (by decide) (fun c16 => ?_) (fun c16 => ?_)
    · -- taken
      have c16 : ¬ (xs k = c) := fun h => c16 ((nI_eq (a := xs k) (b := c) (by omega) (by omega)).mpr h)
      have hs : decide (k < n ∧ xs k = c) = false := decide_eq_false (fun q => c16 q.2)
      refine lv_iconst (v := nI 0) hx hb dT_isAt_23 (by decide) ?_
      exact zz_zretR (v := nI 0) hx hb hr hlocks (by decide) (by rw [hs]; rfl) dT_isAt_24
    · -- not taken
      have c16 : xs k = c := (nI_eq (a := xs k) (b := c) (by omega) (by omega)).mp c16
      have hs : decide (k < n ∧ xs k = c) = true := decide_eq_true ⟨by omega, c16⟩
      refine lv_iconst (v := nI 1) hx hb dT_isAt_19 (by decide) ?_
      refine lv_goto (tgt := 24) hx hb dT_isAt_20 (by decide) ?_
      exact zz_zretR (v := nI 1) hx hb hr hlocks (by decide) (by rw [hs]; rfl) dT_isAt_24
end
section
abbrev rm_T_moveStartsAfter : Room := { frames := 0, cells := 0, slots := 0, locals := 0 }
set_option maxHeartbeats 4000000 in
set_option maxRecDepth 100000 in
theorem c_T_moveStartsAfter (l : Launch) (D : va_G) (cI cB : ClassId) (sz : Nat) (q0 q1 q2 : Nat) (f g : Nat → Int32) (pp : Nat) (x : Int32) (hp : pp < 8) : Met l yT_moveStartsAfter wT_moveStartsAfter rm_T_moveStartsAfter (zz_P D vwCl [(cI, .int), (cB, .boolean)] [.ref q0, .int (nI pp), .int x] [(q0, .inr (0, [.ref q1, .ref q2])), (q1, .inl (cI, 400, .inl f)), (q2, .inl (cI, 9, .inl g))] sz) (va_Qv (fun u : (Nat → Int32) => ∀ j, j < 9 → u j = if pp < j then g j + x else g j) (fun u : (Nat → Int32) => zz_B D vwCl [(cI, .int), (cB, .boolean)] (va_A [(q0, .inr (0, [.ref q1, .ref q2])), (q1, .inl (cI, 400, .inl f)), (q2, .inl (cI, 9, .inl g))] sz) [(q0, .inr (0, [.ref q1, .ref q2])), (q1, .inl (cI, 400, .inl f)), (q2, .inl (cI, 9, .inl u))]) (va_A [(q0, .inr (0, [.ref q1, .ref q2])), (q1, .inl (cI, 400, .inl f)), (q2, .inl (cI, 9, .inl g))] sz)) 0 0 (va_A [(q0, .inr (0, [.ref q1, .ref q2])), (q1, .inl (cI, 400, .inl f)), (q2, .inl (cI, 9, .inl g))] sz) := by
  refine Met.ofW (cc := cT_moveStartsAfter) (maxL := 4) (ret := none) (by decide) rfl ?_
  intro pg ev s mt args below meth kd s₁ B hml hv
  obtain ⟨rfl, hsz, hP, hK, hD0, hN⟩ := hv
  have hx := B.exec
  have hb := B.bytes
  have hr := B.returns
  have ht : ∀ w ∈ W0, w.before _ s = true := fun w h => atoms_spec (ws := wT_moveStartsAfter) B.pre w (List.mem_cons_of_mem _ h)
  have hown : s.vm.findClass "StatRows$TripleRow" = some mt.cls := findClass_of_methodNamed B.named
  have hlocks := B.notSynchronized
  subst hsz
  have hD := hD0.self (sz := s.heap.size)
  generalize hAe : va_A [(q0, .inr (0, [.ref q1, .ref q2])), (q1, .inl (cI, 400, .inl f)), (q2, .inl (cI, 9, .inl g))] s.heap.size = A at hD ⊢
  have hA : ∀ q : Nat, s.heap.size ≤ q → A q := fun q h => by rw [← hAe]; exact Or.inr h
  have hS : va_S A s.heap s.heap [] := va_S.rf
  have hP : va_P D vwCl [(q0, .inr (0, [.ref q1, .ref q2])), (q1, .inl (cI, 400, .inl f)), (q2, .inl (cI, 9, .inl g))] s.heap := hP
  have hl := lv_entry ([.ref q0, .int (nI pp), .int x]) (n := 4) (Nat.le_of_ble_eq_true rfl)
  rw [lg_entry_eq]
  generalize (lg_sl ([.ref q0, .int (nI pp), .int x]) ++ List.replicate (4 - (lg_sl ([.ref q0, .int (nI pp), .int x])).length) Slot.unset).toArray = ls at hl ⊢
  have hl : lv_has ls 4 [(0, .ref q0), (1, .int (nI pp)), (2, .int x)] := hl
  refine lv_iload_n hx hb dT_moveStartsAfter_0 rfl (lv_at hl 1 rfl) ?_
  refine lv_iconst (v := nI 1) hx hb dT_moveStartsAfter_1 (by decide) ?_
  refine lv_iadd hx hb dT_moveStartsAfter_2 ?_
  refine zz_top (y := nI (pp + 1)) (nI_add pp 1) ?_
  refine lv_istore_n (lv' := [(3, .int (nI (pp + 1))), (0, .ref q0), (1, .int (nI pp)), (2, .int x)]) hx hb dT_moveStartsAfter_3 rfl hl (by decide) rfl (fun ls hl => ?_)
  have lp4 : ∀ (fu : Nat) (i : Nat) (gg : Nat → Int32) (hi : pp < i ∧ i ≤ 9) (hg : ∀ j, j < 9 → gg j = if pp < j ∧ j < i then g j + x else g j) (hm : 9 - i < fu) (H : Heap) (locs : List Loc) (hP : va_P D vwCl [(q0, .inr (0, [.ref q1, .ref q2])), (q1, .inl (cI, 400, .inl f)), (q2, .inl (cI, 9, .inl gg))] H) (hD : va_D A [(q0, .inr (0, [.ref q1, .ref q2])), (q1, .inl (cI, 400, .inl f)), (q2, .inl (cI, 9, .inl gg))]) (hS : va_S A s.heap H locs) (ls : Array Slot) (hl : lv_has ls 4 [(0, .ref q0), (1, .int (nI pp)), (2, .int x), (3, .int (nI i))]), W pg l ev (headSpec wT_moveStartsAfter rm_T_moveStartsAfter).room s mt (([.ref q0, .int (nI pp), .int x] : List Value).toArray) below meth kd H locs 0 0 (MQ below (va_Qv (fun u : (Nat → Int32) => ∀ j, j < 9 → u j = if pp < j then g j + x else g j) (fun u : (Nat → Int32) => zz_B D vwCl [(cI, .int), (cB, .boolean)] A [(q0, .inr (0, [.ref q1, .ref q2])), (q1, .inl (cI, 400, .inl f)), (q2, .inl (cI, 9, .inl u))]) A) (([.ref q0, .int (nI pp), .int x] : List Value).toArray) s 0 0 A) (F0 mt 4 ls []) := by
    intro fu
    induction fu with
    | zero => intro i gg hi hg hm; exact absurd hm (Nat.not_lt_zero _)
    | succ fu ih4 =>
      intro i gg hi hg hm H locs hP hD hS ls hl
      refine lv_iload_n hx hb dT_moveStartsAfter_4 rfl (lv_at hl 3 rfl) ?_
      refine lv_bipush (v := nI 8) hx hb dT_moveStartsAfter_5 (by decide) ?_
      refine lv_icmp_gt (tgt := 26) hx hb dT_moveStartsAfter_7 (by decide) (fun c7 => ?_) (fun c7 => ?_)
      · -- taken
        have c7 : 8 < i := (nI_ltI (a := 8) (b := i) (by omega) (by omega)).mp c7
        exact zz_vretW (w1 := fun u : (Nat → Int32) => [(q0, .inr (0, [.ref q1, .ref q2])), (q1, .inl (cI, 400, .inl f)), (q2, .inl (cI, 9, .inl u))]) gg hx hb hr hlocks (fun j hj => by
            rw [hg j hj]; by_cases h2 : pp < j
            · rw [if_pos h2, if_pos (by omega)]
            · rw [if_neg h2, if_neg (by omega)]) hP hK hD hS dT_moveStartsAfter_26
      · -- not taken
        have c7 : ¬ (8 < i) := fun h => c7 ((nI_ltI (a := 8) (b := i) (by omega) (by omega)).mpr h)
        refine lv_aload_n hx hb dT_moveStartsAfter_10 rfl (lv_at hl 0 rfl) ?_
        refine va_get (D := D) (ci := 0) (v := .ref q2) (C := "StatRows$TripleRow") (T := TT) (N := 2) hx hb ht inT hown hK hP 0 rfl rfl 1 (by decide) (ht _ wd25) (fun _ h9 => h9) rfl dT_moveStartsAfter_11 ?_
        refine lv_iload_n hx hb dT_moveStartsAfter_14 rfl (lv_at hl 3 rfl) ?_
        refine lv_dup2_11 hx hb dT_moveStartsAfter_15 rfl rfl ?_
        refine zz_iald (k := i) hx hb hK hP 2 0 rfl rfl (by omega) (by decide) dT_moveStartsAfter_16 ?_
        refine lv_iload_n hx hb dT_moveStartsAfter_17 rfl (lv_at hl 2 rfl) ?_
        refine lv_iadd hx hb dT_moveStartsAfter_18 ?_
        refine zz_iast (k := i) hx hb hK hP hD hS 2 0 rfl rfl (by omega) (by decide) dT_moveStartsAfter_19 (fun H locs hP hD hS => ?_)
        have hP : va_P D vwCl [(q0, .inr (0, [.ref q1, .ref q2])), (q1, .inl (cI, 400, .inl f)), (q2, .inl (cI, 9, .inl (upd gg i ((gg i) + x))))] H := hP
        have hD : va_D A [(q0, .inr (0, [.ref q1, .ref q2])), (q1, .inl (cI, 400, .inl f)), (q2, .inl (cI, 9, .inl (upd gg i ((gg i) + x))))] := hD
        refine lv_iinc (v := nI (i + 1)) (lv' := [(3, .int (nI (i + 1))), (0, .ref q0), (1, .int (nI pp)), (2, .int x)]) hx hb dT_moveStartsAfter_20 hl (k := 3) rfl (nI_1 i) (by decide) rfl (fun ls hl => ?_)
        refine lv_goto (tgt := 4) hx hb dT_moveStartsAfter_23 (by decide) ?_
        exact ih4 (i + 1) (upd gg i (gg i + x)) (by omega) (fun j hj => by
          by_cases h : j = i
          · subst h; rw [pk_us, hg j hj, if_neg (by omega), if_pos (by omega)]
          · rw [pk_un h, hg j hj]; by_cases h2 : pp < j ∧ j < i
            · rw [if_pos h2, if_pos (by omega)]
            · rw [if_neg h2, if_neg (by omega)]) (by omega) _ _ hP hD hS ls (lv_sub hl [1, 2, 3, 0] rfl)
  exact lp4 ((9 - (pp + 1)) + 1) (pp + 1) g (by omega) (fun j hj => by rw [if_neg (by omega)]) (Nat.lt_succ_self _) s.heap _ hP hD hS ls (lv_sub hl [1, 2, 3, 0] rfl)

abbrev rm_T_put : Room := { frames := 2, cells := 0, slots := 0, locals := 45 }
set_option maxHeartbeats 4000000 in
set_option maxRecDepth 100000 in
theorem c_T_put (l : Launch) (D : va_G) (cI cB : ClassId) (sz : Nat) (q0 q1 q2 : Nat) (f g : Nat → Int32) (Ls : Nat → List Nat) (hT : RT Ls f g) (pp c k : Nat) (hp : pp < 8) (hc : c < 65536) (hk : k ≤ (Ls pp).length) (h1 : ∀ j, j < k → (Ls pp).getD j 0 < c) (h2 : k < (Ls pp).length → c ≤ (Ls pp).getD k 0) : Met l yT_put wT_put rm_T_put (zz_P D vwCl [(cI, .int), (cB, .boolean)] [.ref q0, .int (nI pp), .int (nI c)] [(q0, .inr (0, [.ref q1, .ref q2])), (q1, .inl (cI, 400, .inl f)), (q2, .inl (cI, 9, .inl g))] sz) (va_Qi (fun (r : Int32) (u : ((Nat → Int32) × (Nat → Int32))) => (k < (Ls pp).length ∧ (Ls pp).getD k 0 = c ∧ r = nI 0 ∧ RT Ls u.1 u.2) ∨ (¬ (k < (Ls pp).length ∧ (Ls pp).getD k 0 = c) ∧ ((tr_off Ls 8 = 400 ∧ r = -3 ∧ RT Ls u.1 u.2) ∨ (tr_off Ls 8 < 400 ∧ r = nI 1 ∧ RT (tr_ins Ls pp k c) u.1 u.2)))) (fun u : ((Nat → Int32) × (Nat → Int32)) => zz_B D vwCl [(cI, .int), (cB, .boolean)] (va_A [(q0, .inr (0, [.ref q1, .ref q2])), (q1, .inl (cI, 400, .inl f)), (q2, .inl (cI, 9, .inl g))] sz) [(q0, .inr (0, [.ref q1, .ref q2])), (q1, .inl (cI, 400, .inl u.1)), (q2, .inl (cI, 9, .inl u.2))]) (va_A [(q0, .inr (0, [.ref q1, .ref q2])), (q1, .inl (cI, 400, .inl f)), (q2, .inl (cI, 9, .inl g))] sz)) 0 0 (va_A [(q0, .inr (0, [.ref q1, .ref q2])), (q1, .inl (cI, 400, .inl f)), (q2, .inl (cI, 9, .inl g))] sz) := by
  refine Met.ofW (cc := cT_put) (maxL := 4) (ret := (some .int)) (by decide) rfl ?_
  intro pg ev s mt args below meth kd s₁ B hml hv
  obtain ⟨rfl, hsz, hP, hK, hD0, hN⟩ := hv
  have hx := B.exec
  have hb := B.bytes
  have hr := B.returns
  have ht : ∀ w ∈ W0, w.before _ s = true := fun w h => atoms_spec (ws := wT_put) B.pre w (List.mem_cons_of_mem _ h)
  have hown : s.vm.findClass "StatRows$TripleRow" = some mt.cls := findClass_of_methodNamed B.named
  have hlocks := B.notSynchronized
  subst hsz
  have hD := hD0.self (sz := s.heap.size)
  generalize hAe : va_A [(q0, .inr (0, [.ref q1, .ref q2])), (q1, .inl (cI, 400, .inl f)), (q2, .inl (cI, 9, .inl g))] s.heap.size = A at hD ⊢
  have hA : ∀ q : Nat, s.heap.size ≤ q → A q := fun q h => by rw [← hAe]; exact Or.inr h
  have hS : va_S A s.heap s.heap [] := va_S.rf
  have hP : va_P D vwCl [(q0, .inr (0, [.ref q1, .ref q2])), (q1, .inl (cI, 400, .inl f)), (q2, .inl (cI, 9, .inl g))] s.heap := hP
  have hl := lv_entry ([.ref q0, .int (nI pp), .int (nI c)]) (n := 4) (Nat.le_of_ble_eq_true rfl)
  rw [lg_entry_eq]
  generalize (lg_sl ([.ref q0, .int (nI pp), .int (nI c)]) ++ List.replicate (4 - (lg_sl ([.ref q0, .int (nI pp), .int (nI c)])).length) Slot.unset).toArray = ls at hl ⊢
  have hl : lv_has ls 4 [(0, .ref q0), (1, .int (nI pp)), (2, .int (nI c))] := hl
  obtain ⟨a1, a2, a3, a4, a5⟩ := id hT
  have htp := tr_top (Ls := Ls) hp
  have h9 := a1 pp (by omega)
  have h10 := a1 (pp + 1) (by omega)
  rw [tr_next] at h10
  have h8 := a1 8 (by omega)
  refine lv_aload_n hx hb dT_put_0 rfl (lv_at hl 0 rfl) ?_
  refine lv_iload_n hx hb dT_put_1 rfl (lv_at hl 1 rfl) ?_
  refine lv_iload_n hx hb dT_put_2 rfl (lv_at hl 2 rfl) ?_
  refine zz_ci (v := nI (tr_off Ls pp + k)) (W.runV (As := [.int (nI pp), .int (nI c)]) (rest := []) ⟨hx, hb, hml, hown, ht⟩ (c_T_placeOf l D cI cB q0 q1 q2 f g pp (tr_off Ls pp) (Ls pp).length c (fun i => (Ls pp).getD i 0) hp h9 h10 (by omega) (a2 pp hp) (a4 pp hp) hc k hk h1 h2) (cwV 2 ht (gd_V wd113 wd115 wp0 wd2 wd116) rfl rfl rfl (by decide +kernel) ⟨Nat.le_of_ble_eq_true rfl, Nat.le_of_ble_eq_true rfl⟩) (zz_R_V hN hK (hP.sub (ws' := [(q0, .inr (0, [.ref q1, .ref q2])), (q1, .inl (cI, 400, .inl f)), (q2, .inl (cI, 9, .inl g))]) [0, 1, 2] rfl) 0 0 rfl rfl) rfl rfl hl.1 rfl (lv_room (Nat.le_of_ble_eq_true rfl)) dT_put_3 ⟨Nat.le_of_ble_eq_true rfl, Nat.le_of_ble_eq_true rfl⟩) ?_
  refine lv_istore_n (lv' := [(3, .int (nI (tr_off Ls pp + k))), (0, .ref q0), (1, .int (nI pp)), (2, .int (nI c))]) hx hb dT_put_6 rfl hl (by decide) rfl (fun ls hl => ?_)
  refine lv_aload_n hx hb dT_put_7 rfl (lv_at hl 1 rfl) ?_
  refine lv_iload_n hx hb dT_put_8 rfl (lv_at hl 0 rfl) ?_
  refine lv_iload_n hx hb dT_put_9 rfl (lv_at hl 2 rfl) ?_
  refine lv_iload_n hx hb dT_put_10 rfl (lv_at hl 3 rfl) ?_
  refine zz_ci (v := nI ((decide (k < (Ls pp).length ∧ (Ls pp).getD k 0 = c)).toNat)) (W.runV (As := [.int (nI (tr_off Ls pp + k)), .int (nI pp), .int (nI c)]) (rest := []) ⟨hx, hb, hml, hown, ht⟩ (c_T_isAt l D cI cB q0 q1 q2 f g pp (tr_off Ls pp) (Ls pp).length c (fun i => (Ls pp).getD i 0) hp h9 h10 (by omega) (a2 pp hp) (a4 pp hp) hc k hk) (cwV 3 ht (gd_V wd125 wd127 wp1 wd2 wd128) rfl rfl rfl (by decide +kernel) ⟨Nat.le_of_ble_eq_true rfl, Nat.le_of_ble_eq_true rfl⟩) (zz_R_V hN hK (hP.sub (ws' := [(q0, .inr (0, [.ref q1, .ref q2])), (q1, .inl (cI, 400, .inl f)), (q2, .inl (cI, 9, .inl g))]) [0, 1, 2] rfl) 0 0 rfl rfl) rfl rfl hl.1 rfl (lv_room (Nat.le_of_ble_eq_true rfl)) dT_put_11 ⟨Nat.le_of_ble_eq_true rfl, Nat.le_of_ble_eq_true rfl⟩) ?_
  have hbl := btl (decide (k < (Ls pp).length ∧ (Ls pp).getD k 0 = c))
  refine lv_if_eq (tgt := 19) hx hb dT_put_14 (by decide) (fun c14 => ?_) (fun c14 => ?_)
  · -- taken
    have c14 : (decide (k < (Ls pp).length ∧ (Ls pp).getD k 0 = c)).toNat = 0 := (nI_eq (a := (decide (k < (Ls pp).length ∧ (Ls pp).getD k 0 = c)).toNat) (b := 0) (by omega) (by omega)).mp c14
    have hin := of_decide_eq_false (bt0 c14)
    refine lv_aload_n hx hb dT_put_19 rfl (lv_at hl 1 rfl) ?_
    refine zz_ci (v := nI (tr_off Ls 8)) (W.runV (As := []) (rest := []) ⟨hx, hb, hml, hown, ht⟩ (c_T_size l D cI cB q0 q1 q2 f g (tr_off Ls 8) h8) (cwV 0 ht (gd_V wd129 wd130 wd131 wd2 wd132) rfl rfl rfl (by decide +kernel) ⟨Nat.le_of_ble_eq_true rfl, Nat.le_of_ble_eq_true rfl⟩) (zz_R_V hN hK (hP.sub (ws' := [(q0, .inr (0, [.ref q1, .ref q2])), (q1, .inl (cI, 400, .inl f)), (q2, .inl (cI, 9, .inl g))]) [0, 1, 2] rfl) 0 0 rfl rfl) rfl rfl hl.1 rfl (lv_room (Nat.le_of_ble_eq_true rfl)) dT_put_20 ⟨Nat.le_of_ble_eq_true rfl, Nat.le_of_ble_eq_true rfl⟩) ?_
    refine lv_sipush (v := nI 400) hx hb dT_put_23 (by decide) ?_
    refine lv_icmp_lt (tgt := 32) hx hb dT_put_26 (by decide) (fun c26 => ?_) (fun c26 => ?_)
    · -- taken
      have c26 : tr_off Ls 8 < 400 := (nI_ltI (a := tr_off Ls 8) (b := 400) (by omega) (by omega)).mp c26
      refine lv_aload_n hx hb dT_put_32 rfl (lv_at hl 1 rfl) ?_
      refine va_get (D := D) (ci := 0) (v := .ref q1) (C := "StatRows$TripleRow") (T := TT) (N := 2) hx hb ht inT hown hK hP 0 rfl rfl 0 (by decide) (ht _ wd24) (fun _ h9 => h9) rfl dT_put_33 ?_
      refine lv_iload_n hx hb dT_put_36 rfl (lv_at hl 0 rfl) ?_
      refine lv_aload_n hx hb dT_put_37 rfl (lv_at hl 1 rfl) ?_
      refine va_get (D := D) (ci := 0) (v := .ref q1) (C := "StatRows$TripleRow") (T := TT) (N := 2) hx hb ht inT hown hK hP 0 rfl rfl 0 (by decide) (ht _ wd24) (fun _ h9 => h9) rfl dT_put_38 ?_
      refine lv_iload_n hx hb dT_put_41 rfl (lv_at hl 0 rfl) ?_
      refine lv_iconst (v := nI 1) hx hb dT_put_42 (by decide) ?_
      refine lv_iadd hx hb dT_put_43 ?_
      refine zz_top (y := nI ((tr_off Ls pp + k) + 1)) (nI_add (tr_off Ls pp + k) 1) ?_
      refine lv_aload_n hx hb dT_put_44 rfl (lv_at hl 1 rfl) ?_
      refine zz_ci (v := nI (tr_off Ls 8)) (W.runV (As := []) (rest := [.int (nI ((tr_off Ls pp + k) + 1)), .ref q1, .int (nI (tr_off Ls pp + k)), .ref q1]) ⟨hx, hb, hml, hown, ht⟩ (c_T_size l D cI cB q0 q1 q2 f g (tr_off Ls 8) h8) (cwV 0 ht (gd_V wd129 wd130 wd131 wd2 wd132) rfl rfl rfl (by decide +kernel) ⟨Nat.le_of_ble_eq_true rfl, Nat.le_of_ble_eq_true rfl⟩) (zz_R_V hN hK (hP.sub (ws' := [(q0, .inr (0, [.ref q1, .ref q2])), (q1, .inl (cI, 400, .inl f)), (q2, .inl (cI, 9, .inl g))]) [0, 1, 2] rfl) 0 0 rfl rfl) rfl rfl hl.1 rfl (lv_room (Nat.le_of_ble_eq_true rfl)) dT_put_45 ⟨Nat.le_of_ble_eq_true rfl, Nat.le_of_ble_eq_true rfl⟩) ?_
      refine lv_iload_n hx hb dT_put_48 rfl (lv_at hl 0 rfl) ?_
      refine lv_isub hx hb dT_put_49 ?_
      refine zz_top (y := nI ((tr_off Ls 8) - (tr_off Ls pp + k))) (pk_sub (a := tr_off Ls 8) (b := tr_off Ls pp + k) (by omega)) ?_
      refine zz_copyi (sp := tr_off Ls pp + k) (dp := (tr_off Ls pp + k) + 1) (n := (tr_off Ls 8) - (tr_off Ls pp + k)) hx hb (hml.trans hl.1.symm) hown (ht _ wd133) (ht _ wd135) (ht _ wd134) (ht _ wd7) hK hP hD hS 1 0 rfl rfl (by decide) (by omega) (by omega) (Nat.le_of_ble_eq_true rfl) (Nat.le_of_ble_eq_true rfl) dT_put_50 (fun H locs hP hD hS => ?_)
      have hP : va_P D vwCl [(q0, .inr (0, [.ref q1, .ref q2])), (q1, .inl (cI, 400, .inl (va_cpy f f (tr_off Ls pp + k) ((tr_off Ls pp + k) + 1) ((tr_off Ls 8) - (tr_off Ls pp + k))))), (q2, .inl (cI, 9, .inl g))] H := hP
      have hD : va_D A [(q0, .inr (0, [.ref q1, .ref q2])), (q1, .inl (cI, 400, .inl (va_cpy f f (tr_off Ls pp + k) ((tr_off Ls pp + k) + 1) ((tr_off Ls 8) - (tr_off Ls pp + k))))), (q2, .inl (cI, 9, .inl g))] := hD
      refine lv_aload_n hx hb dT_put_53 rfl (lv_at hl 1 rfl) ?_
      refine va_get (D := D) (ci := 0) (v := .ref q1) (C := "StatRows$TripleRow") (T := TT) (N := 2) hx hb ht inT hown hK hP 0 rfl rfl 0 (by decide) (ht _ wd24) (fun _ h9 => h9) rfl dT_put_54 ?_
      refine lv_iload_n hx hb dT_put_57 rfl (lv_at hl 0 rfl) ?_
      refine lv_iload_n hx hb dT_put_58 rfl (lv_at hl 3 rfl) ?_
      refine zz_iast (k := tr_off Ls pp + k) hx hb hK hP hD hS 1 0 rfl rfl (by omega) (by decide) dT_put_59 (fun H locs hP hD hS => ?_)
      have hP : va_P D vwCl [(q0, .inr (0, [.ref q1, .ref q2])), (q1, .inl (cI, 400, .inl (upd (va_cpy f f (tr_off Ls pp + k) ((tr_off Ls pp + k) + 1) ((tr_off Ls 8) - (tr_off Ls pp + k))) (tr_off Ls pp + k) (nI c)))), (q2, .inl (cI, 9, .inl g))] H := hP
      have hD : va_D A [(q0, .inr (0, [.ref q1, .ref q2])), (q1, .inl (cI, 400, .inl (upd (va_cpy f f (tr_off Ls pp + k) ((tr_off Ls pp + k) + 1) ((tr_off Ls 8) - (tr_off Ls pp + k))) (tr_off Ls pp + k) (nI c)))), (q2, .inl (cI, 9, .inl g))] := hD
      refine lv_aload_n hx hb dT_put_60 rfl (lv_at hl 1 rfl) ?_
      refine lv_iload_n hx hb dT_put_61 rfl (lv_at hl 2 rfl) ?_
      refine lv_iconst (v := nI 1) hx hb dT_put_62 (by decide) ?_
      refine zz_wv (wc := [(q0, .inr (0, [.ref q1, .ref q2])), (q1, .inl (cI, 400, .inl (upd (va_cpy f f (tr_off Ls pp + k) ((tr_off Ls pp + k) + 1) ((tr_off Ls 8) - (tr_off Ls pp + k))) (tr_off Ls pp + k) (nI c)))), (q2, .inl (cI, 9, .inl g))]) (wr := []) (va_runV (As := [.int (nI pp), .int (nI 1)]) (rest := []) ⟨hx, hb, hml, hown, ht⟩ (c_T_moveStartsAfter l D cI cB H.size q0 q1 q2 _ g pp (nI 1) hp) (cwV 2 ht (gd_V wd136 wd138 wp2 wd2 wd139) rfl rfl rfl (by decide +kernel) ⟨Nat.le_of_ble_eq_true rfl, Nat.le_of_ble_eq_true rfl⟩) (zz_P_V hN hK (hP.sub (ws' := [(q0, .inr (0, [.ref q1, .ref q2])), (q1, .inl (cI, 400, .inl (upd (va_cpy f f (tr_off Ls pp + k) ((tr_off Ls pp + k) + 1) ((tr_off Ls 8) - (tr_off Ls pp + k))) (tr_off Ls pp + k) (nI c)))), (q2, .inl (cI, 9, .inl g))]) [0, 1, 2] rfl) (hD.sub (ws' := [(q0, .inr (0, [.ref q1, .ref q2])), (q1, .inl (cI, 400, .inl (upd (va_cpy f f (tr_off Ls pp + k) ((tr_off Ls pp + k) + 1) ((tr_off Ls 8) - (tr_off Ls pp + k))) (tr_off Ls pp + k) (nI c)))), (q2, .inl (cI, 9, .inl g))]) [0, 1, 2] (by decide) rfl) 0 0 rfl rfl) rfl rfl hl.1 rfl (lv_room (Nat.le_of_ble_eq_true rfl)) dT_put_63 ⟨Nat.le_of_ble_eq_true rfl, Nat.le_of_ble_eq_true rfl⟩) hP hD hS hA [0, 1, 2] [] rfl rfl (by decide) (by decide) (fun u63 H locs hq63 hP hD hS => ?_)
      have hP := hP.sub (ws' := [(q0, .inr (0, [.ref q1, .ref q2])), (q1, .inl (cI, 400, .inl (upd (va_cpy f f (tr_off Ls pp + k) ((tr_off Ls pp + k) + 1) ((tr_off Ls 8) - (tr_off Ls pp + k))) (tr_off Ls pp + k) (nI c)))), (q2, .inl (cI, 9, .inl u63))]) [0, 1, 2] rfl
      have hD := hD.sub (ws' := [(q0, .inr (0, [.ref q1, .ref q2])), (q1, .inl (cI, 400, .inl (upd (va_cpy f f (tr_off Ls pp + k) ((tr_off Ls pp + k) + 1) ((tr_off Ls 8) - (tr_off Ls pp + k))) (tr_off Ls pp + k) (nI c)))), (q2, .inl (cI, 9, .inl u63))]) [0, 1, 2] (by decide) rfl
      have e1 : ∀ j, j < 400 → (upd (va_cpy f f (tr_off Ls pp + k) (tr_off Ls pp + k + 1) (tr_off Ls 8 - (tr_off Ls pp + k))) (tr_off Ls pp + k) (nI c)) j = if j = tr_off Ls pp + k then nI c else if tr_off Ls pp + k < j ∧ j ≤ tr_off Ls 8 then f (j - 1) else f j := fun j hj => by
        by_cases h : j = tr_off Ls pp + k
        · rw [h, pk_us, if_pos rfl]
        · rw [pk_un h, if_neg h]
          by_cases h3 : tr_off Ls pp + k < j ∧ j ≤ tr_off Ls 8
          · rw [if_pos h3, pk_cpy_in (by omega) (by omega)]; congr 1; omega
          · rw [if_neg h3, pk_cpy_out (by omega)]
      have e2 : ∀ j, k ≤ j → j < (Ls pp).length → c < (Ls pp).getD j 0 := fun j hj hj2 => by
        have q1 := h2 (by omega)
        have q2 : (Ls pp).getD k 0 ≠ c := fun q => hin ⟨by omega, q⟩
        rcases Nat.lt_or_ge k j with q | q
        · have := a5 pp hp k j q hj2; omega
        · have : j = k := by omega
          subst this; omega
      refine lv_iconst (v := nI 1) hx hb dT_put_66 (by decide) ?_
      exact zz_iretW (v := nI 1) (w1 := fun u : ((Nat → Int32) × (Nat → Int32)) => [(q0, .inr (0, [.ref q1, .ref q2])), (q1, .inl (cI, 400, .inl u.1)), (q2, .inl (cI, 9, .inl u.2))]) (upd (va_cpy f f (tr_off Ls pp + k) ((tr_off Ls pp + k) + 1) ((tr_off Ls 8) - (tr_off Ls pp + k))) (tr_off Ls pp + k) (nI c), u63) hx hb hr hlocks (Or.inr ⟨hin, Or.inr ⟨by omega, rfl, RT_ins hT hp hc hk h1 e2 (by omega) e1 hq63⟩⟩) hP hK hD hS dT_put_67
    · -- not taken
      have c26 : ¬ (tr_off Ls 8 < 400) := fun h => c26 ((nI_ltI (a := tr_off Ls 8) (b := 400) (by omega) (by omega)).mpr h)
      refine lv_bipush (v := (-3)) hx hb dT_put_29 (by decide) ?_
      exact zz_iretW (v := (-3)) (w1 := fun u : ((Nat → Int32) × (Nat → Int32)) => [(q0, .inr (0, [.ref q1, .ref q2])), (q1, .inl (cI, 400, .inl u.1)), (q2, .inl (cI, 9, .inl u.2))]) (f, g) hx hb hr hlocks (Or.inr ⟨hin, Or.inl ⟨by omega, rfl, hT⟩⟩) hP hK hD hS dT_put_31
  · -- not taken
    have c14 : ¬ ((decide (k < (Ls pp).length ∧ (Ls pp).getD k 0 = c)).toNat = 0) := fun h => c14 ((nI_eq (a := (decide (k < (Ls pp).length ∧ (Ls pp).getD k 0 = c)).toNat) (b := 0) (by omega) (by omega)).mpr h)
    have hin := of_decide_eq_true (bt1 c14)
    refine lv_iconst (v := nI 0) hx hb dT_put_17 (by decide) ?_
    exact zz_iretW (v := nI 0) (w1 := fun u : ((Nat → Int32) × (Nat → Int32)) => [(q0, .inr (0, [.ref q1, .ref q2])), (q1, .inl (cI, 400, .inl u.1)), (q2, .inl (cI, 9, .inl u.2))]) (f, g) hx hb hr hlocks (Or.inl ⟨hin.1, hin.2, rfl, hT⟩) hP hK hD hS dT_put_18

abbrev rm_T_remove : Room := { frames := 2, cells := 0, slots := 0, locals := 45 }
set_option maxHeartbeats 4000000 in
set_option maxRecDepth 100000 in
theorem c_T_remove (l : Launch) (D : va_G) (cI cB : ClassId) (sz : Nat) (q0 q1 q2 : Nat) (f g : Nat → Int32) (Ls : Nat → List Nat) (hT : RT Ls f g) (pp c k : Nat) (hp : pp < 8) (hc : c < 65536) (hk : k ≤ (Ls pp).length) (h1 : ∀ j, j < k → (Ls pp).getD j 0 < c) (h2 : k < (Ls pp).length → c ≤ (Ls pp).getD k 0) : Met l yT_remove wT_remove rm_T_remove (zz_P D vwCl [(cI, .int), (cB, .boolean)] [.ref q0, .int (nI pp), .int (nI c)] [(q0, .inr (0, [.ref q1, .ref q2])), (q1, .inl (cI, 400, .inl f)), (q2, .inl (cI, 9, .inl g))] sz) (va_Qi (fun (r : Int32) (u : ((Nat → Int32) × (Nat → Int32))) => (k < (Ls pp).length ∧ (Ls pp).getD k 0 = c ∧ r = nI 1 ∧ RT (tr_del Ls pp k) u.1 u.2) ∨ (¬ (k < (Ls pp).length ∧ (Ls pp).getD k 0 = c) ∧ r = nI 0 ∧ RT Ls u.1 u.2)) (fun u : ((Nat → Int32) × (Nat → Int32)) => zz_B D vwCl [(cI, .int), (cB, .boolean)] (va_A [(q0, .inr (0, [.ref q1, .ref q2])), (q1, .inl (cI, 400, .inl f)), (q2, .inl (cI, 9, .inl g))] sz) [(q0, .inr (0, [.ref q1, .ref q2])), (q1, .inl (cI, 400, .inl u.1)), (q2, .inl (cI, 9, .inl u.2))]) (va_A [(q0, .inr (0, [.ref q1, .ref q2])), (q1, .inl (cI, 400, .inl f)), (q2, .inl (cI, 9, .inl g))] sz)) 0 0 (va_A [(q0, .inr (0, [.ref q1, .ref q2])), (q1, .inl (cI, 400, .inl f)), (q2, .inl (cI, 9, .inl g))] sz) := by
  refine Met.ofW (cc := cT_remove) (maxL := 4) (ret := (some .int)) (by decide) rfl ?_
  intro pg ev s mt args below meth kd s₁ B hml hv
  obtain ⟨rfl, hsz, hP, hK, hD0, hN⟩ := hv
  have hx := B.exec
  have hb := B.bytes
  have hr := B.returns
  have ht : ∀ w ∈ W0, w.before _ s = true := fun w h => atoms_spec (ws := wT_remove) B.pre w (List.mem_cons_of_mem _ h)
  have hown : s.vm.findClass "StatRows$TripleRow" = some mt.cls := findClass_of_methodNamed B.named
  have hlocks := B.notSynchronized
  subst hsz
  have hD := hD0.self (sz := s.heap.size)
  generalize hAe : va_A [(q0, .inr (0, [.ref q1, .ref q2])), (q1, .inl (cI, 400, .inl f)), (q2, .inl (cI, 9, .inl g))] s.heap.size = A at hD ⊢
  have hA : ∀ q : Nat, s.heap.size ≤ q → A q := fun q h => by rw [← hAe]; exact Or.inr h
  have hS : va_S A s.heap s.heap [] := va_S.rf
  have hP : va_P D vwCl [(q0, .inr (0, [.ref q1, .ref q2])), (q1, .inl (cI, 400, .inl f)), (q2, .inl (cI, 9, .inl g))] s.heap := hP
  have hl := lv_entry ([.ref q0, .int (nI pp), .int (nI c)]) (n := 4) (Nat.le_of_ble_eq_true rfl)
  rw [lg_entry_eq]
  generalize (lg_sl ([.ref q0, .int (nI pp), .int (nI c)]) ++ List.replicate (4 - (lg_sl ([.ref q0, .int (nI pp), .int (nI c)])).length) Slot.unset).toArray = ls at hl ⊢
  have hl : lv_has ls 4 [(0, .ref q0), (1, .int (nI pp)), (2, .int (nI c))] := hl
  obtain ⟨a1, a2, a3, a4, a5⟩ := id hT
  have htp := tr_top (Ls := Ls) hp
  have h9 := a1 pp (by omega)
  have h10 := a1 (pp + 1) (by omega)
  rw [tr_next] at h10
  have h8 := a1 8 (by omega)
  refine lv_aload_n hx hb dT_remove_0 rfl (lv_at hl 0 rfl) ?_
  refine lv_iload_n hx hb dT_remove_1 rfl (lv_at hl 1 rfl) ?_
  refine lv_iload_n hx hb dT_remove_2 rfl (lv_at hl 2 rfl) ?_
  refine zz_ci (v := nI (tr_off Ls pp + k)) (W.runV (As := [.int (nI pp), .int (nI c)]) (rest := []) ⟨hx, hb, hml, hown, ht⟩ (c_T_placeOf l D cI cB q0 q1 q2 f g pp (tr_off Ls pp) (Ls pp).length c (fun i => (Ls pp).getD i 0) hp h9 h10 (by omega) (a2 pp hp) (a4 pp hp) hc k hk h1 h2) (cwV 2 ht (gd_V wd113 wd115 wp0 wd2 wd116) rfl rfl rfl (by decide +kernel) ⟨Nat.le_of_ble_eq_true rfl, Nat.le_of_ble_eq_true rfl⟩) (zz_R_V hN hK (hP.sub (ws' := [(q0, .inr (0, [.ref q1, .ref q2])), (q1, .inl (cI, 400, .inl f)), (q2, .inl (cI, 9, .inl g))]) [0, 1, 2] rfl) 0 0 rfl rfl) rfl rfl hl.1 rfl (lv_room (Nat.le_of_ble_eq_true rfl)) dT_remove_3 ⟨Nat.le_of_ble_eq_true rfl, Nat.le_of_ble_eq_true rfl⟩) ?_
  refine lv_istore_n (lv' := [(3, .int (nI (tr_off Ls pp + k))), (0, .ref q0), (1, .int (nI pp)), (2, .int (nI c))]) hx hb dT_remove_6 rfl hl (by decide) rfl (fun ls hl => ?_)
  refine lv_aload_n hx hb dT_remove_7 rfl (lv_at hl 1 rfl) ?_
  refine lv_iload_n hx hb dT_remove_8 rfl (lv_at hl 0 rfl) ?_
  refine lv_iload_n hx hb dT_remove_9 rfl (lv_at hl 2 rfl) ?_
  refine lv_iload_n hx hb dT_remove_10 rfl (lv_at hl 3 rfl) ?_
  refine zz_ci (v := nI ((decide (k < (Ls pp).length ∧ (Ls pp).getD k 0 = c)).toNat)) (W.runV (As := [.int (nI (tr_off Ls pp + k)), .int (nI pp), .int (nI c)]) (rest := []) ⟨hx, hb, hml, hown, ht⟩ (c_T_isAt l D cI cB q0 q1 q2 f g pp (tr_off Ls pp) (Ls pp).length c (fun i => (Ls pp).getD i 0) hp h9 h10 (by omega) (a2 pp hp) (a4 pp hp) hc k hk) (cwV 3 ht (gd_V wd125 wd127 wp1 wd2 wd128) rfl rfl rfl (by decide +kernel) ⟨Nat.le_of_ble_eq_true rfl, Nat.le_of_ble_eq_true rfl⟩) (zz_R_V hN hK (hP.sub (ws' := [(q0, .inr (0, [.ref q1, .ref q2])), (q1, .inl (cI, 400, .inl f)), (q2, .inl (cI, 9, .inl g))]) [0, 1, 2] rfl) 0 0 rfl rfl) rfl rfl hl.1 rfl (lv_room (Nat.le_of_ble_eq_true rfl)) dT_remove_11 ⟨Nat.le_of_ble_eq_true rfl, Nat.le_of_ble_eq_true rfl⟩) ?_
  have hbl := btl (decide (k < (Ls pp).length ∧ (Ls pp).getD k 0 = c))
  refine lv_if_ne (tgt := 19) hx hb dT_remove_14 (by decide) (fun c14 => ?_) (fun c14 => ?_)
  · -- taken
    have c14 : ¬ ((decide (k < (Ls pp).length ∧ (Ls pp).getD k 0 = c)).toNat = 0) := fun h => c14 ((nI_eq (a := (decide (k < (Ls pp).length ∧ (Ls pp).getD k 0 = c)).toNat) (b := 0) (by omega) (by omega)).mpr h)
    have hin := of_decide_eq_true (bt1 c14)
    refine lv_aload_n hx hb dT_remove_19 rfl (lv_at hl 1 rfl) ?_
    refine va_get (D := D) (ci := 0) (v := .ref q1) (C := "StatRows$TripleRow") (T := TT) (N := 2) hx hb ht inT hown hK hP 0 rfl rfl 0 (by decide) (ht _ wd24) (fun _ h9 => h9) rfl dT_remove_20 ?_
    refine lv_iload_n hx hb dT_remove_23 rfl (lv_at hl 0 rfl) ?_
    refine lv_iconst (v := nI 1) hx hb dT_remove_24 (by decide) ?_
    refine lv_iadd hx hb dT_remove_25 ?_
    refine zz_top (y := nI ((tr_off Ls pp + k) + 1)) (nI_add (tr_off Ls pp + k) 1) ?_
    refine lv_aload_n hx hb dT_remove_26 rfl (lv_at hl 1 rfl) ?_
    refine va_get (D := D) (ci := 0) (v := .ref q1) (C := "StatRows$TripleRow") (T := TT) (N := 2) hx hb ht inT hown hK hP 0 rfl rfl 0 (by decide) (ht _ wd24) (fun _ h9 => h9) rfl dT_remove_27 ?_
    refine lv_iload_n hx hb dT_remove_30 rfl (lv_at hl 0 rfl) ?_
    refine lv_aload_n hx hb dT_remove_31 rfl (lv_at hl 1 rfl) ?_
    refine zz_ci (v := nI (tr_off Ls 8)) (W.runV (As := []) (rest := [.int (nI (tr_off Ls pp + k)), .ref q1, .int (nI ((tr_off Ls pp + k) + 1)), .ref q1]) ⟨hx, hb, hml, hown, ht⟩ (c_T_size l D cI cB q0 q1 q2 f g (tr_off Ls 8) h8) (cwV 0 ht (gd_V wd129 wd130 wd131 wd2 wd132) rfl rfl rfl (by decide +kernel) ⟨Nat.le_of_ble_eq_true rfl, Nat.le_of_ble_eq_true rfl⟩) (zz_R_V hN hK (hP.sub (ws' := [(q0, .inr (0, [.ref q1, .ref q2])), (q1, .inl (cI, 400, .inl f)), (q2, .inl (cI, 9, .inl g))]) [0, 1, 2] rfl) 0 0 rfl rfl) rfl rfl hl.1 rfl (lv_room (Nat.le_of_ble_eq_true rfl)) dT_remove_32 ⟨Nat.le_of_ble_eq_true rfl, Nat.le_of_ble_eq_true rfl⟩) ?_
    refine lv_iload_n hx hb dT_remove_35 rfl (lv_at hl 0 rfl) ?_
    refine lv_isub hx hb dT_remove_36 ?_
    refine zz_top (y := nI ((tr_off Ls 8) - (tr_off Ls pp + k))) (pk_sub (a := tr_off Ls 8) (b := tr_off Ls pp + k) (by omega)) ?_
    refine lv_iconst (v := nI 1) hx hb dT_remove_37 (by decide) ?_
    refine lv_isub hx hb dT_remove_38 ?_
    refine zz_top (y := nI (((tr_off Ls 8) - (tr_off Ls pp + k)) - 1)) (pk_sub (a := (tr_off Ls 8) - (tr_off Ls pp + k)) (b := 1) (by omega)) ?_
    refine zz_copyi (sp := (tr_off Ls pp + k) + 1) (dp := tr_off Ls pp + k) (n := ((tr_off Ls 8) - (tr_off Ls pp + k)) - 1) hx hb (hml.trans hl.1.symm) hown (ht _ wd133) (ht _ wd135) (ht _ wd134) (ht _ wd7) hK hP hD hS 1 0 rfl rfl (by decide) (by omega) (by omega) (Nat.le_of_ble_eq_true rfl) (Nat.le_of_ble_eq_true rfl) dT_remove_39 (fun H locs hP hD hS => ?_)
    have hP : va_P D vwCl [(q0, .inr (0, [.ref q1, .ref q2])), (q1, .inl (cI, 400, .inl (va_cpy f f ((tr_off Ls pp + k) + 1) (tr_off Ls pp + k) (((tr_off Ls 8) - (tr_off Ls pp + k)) - 1)))), (q2, .inl (cI, 9, .inl g))] H := hP
    have hD : va_D A [(q0, .inr (0, [.ref q1, .ref q2])), (q1, .inl (cI, 400, .inl (va_cpy f f ((tr_off Ls pp + k) + 1) (tr_off Ls pp + k) (((tr_off Ls 8) - (tr_off Ls pp + k)) - 1)))), (q2, .inl (cI, 9, .inl g))] := hD
    refine lv_aload_n hx hb dT_remove_42 rfl (lv_at hl 1 rfl) ?_
    refine lv_iload_n hx hb dT_remove_43 rfl (lv_at hl 2 rfl) ?_
    refine lv_iconst (v := (-1)) hx hb dT_remove_44 (by decide) ?_
    refine zz_wv (wc := [(q0, .inr (0, [.ref q1, .ref q2])), (q1, .inl (cI, 400, .inl (va_cpy f f ((tr_off Ls pp + k) + 1) (tr_off Ls pp + k) (((tr_off Ls 8) - (tr_off Ls pp + k)) - 1)))), (q2, .inl (cI, 9, .inl g))]) (wr := []) (va_runV (As := [.int (nI pp), .int (-1)]) (rest := []) ⟨hx, hb, hml, hown, ht⟩ (c_T_moveStartsAfter l D cI cB H.size q0 q1 q2 _ g pp (-1) hp) (cwV 2 ht (gd_V wd136 wd138 wp2 wd2 wd139) rfl rfl rfl (by decide +kernel) ⟨Nat.le_of_ble_eq_true rfl, Nat.le_of_ble_eq_true rfl⟩) (zz_P_V hN hK (hP.sub (ws' := [(q0, .inr (0, [.ref q1, .ref q2])), (q1, .inl (cI, 400, .inl (va_cpy f f ((tr_off Ls pp + k) + 1) (tr_off Ls pp + k) (((tr_off Ls 8) - (tr_off Ls pp + k)) - 1)))), (q2, .inl (cI, 9, .inl g))]) [0, 1, 2] rfl) (hD.sub (ws' := [(q0, .inr (0, [.ref q1, .ref q2])), (q1, .inl (cI, 400, .inl (va_cpy f f ((tr_off Ls pp + k) + 1) (tr_off Ls pp + k) (((tr_off Ls 8) - (tr_off Ls pp + k)) - 1)))), (q2, .inl (cI, 9, .inl g))]) [0, 1, 2] (by decide) rfl) 0 0 rfl rfl) rfl rfl hl.1 rfl (lv_room (Nat.le_of_ble_eq_true rfl)) dT_remove_45 ⟨Nat.le_of_ble_eq_true rfl, Nat.le_of_ble_eq_true rfl⟩) hP hD hS hA [0, 1, 2] [] rfl rfl (by decide) (by decide) (fun u45 H locs hq45 hP hD hS => ?_)
    have hP := hP.sub (ws' := [(q0, .inr (0, [.ref q1, .ref q2])), (q1, .inl (cI, 400, .inl (va_cpy f f ((tr_off Ls pp + k) + 1) (tr_off Ls pp + k) (((tr_off Ls 8) - (tr_off Ls pp + k)) - 1)))), (q2, .inl (cI, 9, .inl u45))]) [0, 1, 2] rfl
    have hD := hD.sub (ws' := [(q0, .inr (0, [.ref q1, .ref q2])), (q1, .inl (cI, 400, .inl (va_cpy f f ((tr_off Ls pp + k) + 1) (tr_off Ls pp + k) (((tr_off Ls 8) - (tr_off Ls pp + k)) - 1)))), (q2, .inl (cI, 9, .inl u45))]) [0, 1, 2] (by decide) rfl
    have e1 : ∀ j, j < 400 → (va_cpy f f (tr_off Ls pp + k + 1) (tr_off Ls pp + k) (tr_off Ls 8 - (tr_off Ls pp + k) - 1)) j = if tr_off Ls pp + k ≤ j ∧ j + 1 < tr_off Ls 8 then f (j + 1) else f j := fun j hj => by
      by_cases h3 : tr_off Ls pp + k ≤ j ∧ j + 1 < tr_off Ls 8
      · rw [if_pos h3, pk_cpy_in (by omega) (by omega)]; congr 1; omega
      · rw [if_neg h3, pk_cpy_out (by omega)]
    refine lv_iconst (v := nI 1) hx hb dT_remove_48 (by decide) ?_
    exact zz_iretW (v := nI 1) (w1 := fun u : ((Nat → Int32) × (Nat → Int32)) => [(q0, .inr (0, [.ref q1, .ref q2])), (q1, .inl (cI, 400, .inl u.1)), (q2, .inl (cI, 9, .inl u.2))]) (va_cpy f f ((tr_off Ls pp + k) + 1) (tr_off Ls pp + k) (((tr_off Ls 8) - (tr_off Ls pp + k)) - 1), u45) hx hb hr hlocks (Or.inl ⟨hin.1, hin.2, rfl, RT_del hT hp hin.1 e1 hq45⟩) hP hK hD hS dT_remove_49
  · -- not taken
    have c14 : (decide (k < (Ls pp).length ∧ (Ls pp).getD k 0 = c)).toNat = 0 := (nI_eq (a := (decide (k < (Ls pp).length ∧ (Ls pp).getD k 0 = c)).toNat) (b := 0) (by omega) (by omega)).mp c14
    have hin := of_decide_eq_false (bt0 (by omega))
    refine lv_iconst (v := nI 0) hx hb dT_remove_17 (by decide) ?_
    exact zz_iretW (v := nI 0) (w1 := fun u : ((Nat → Int32) × (Nat → Int32)) => [(q0, .inr (0, [.ref q1, .ref q2])), (q1, .inl (cI, 400, .inl u.1)), (q2, .inl (cI, 9, .inl u.2))]) (f, g) hx hb hr hlocks (Or.inr ⟨hin, rfl, hT⟩) hP hK hD hS dT_remove_18
end
section
abbrev rm_JA_fill : Room := { frames := 0, cells := 0, slots := 0, locals := 0 }
set_option maxHeartbeats 4000000 in
set_option maxRecDepth 100000 in
theorem c_JA_fill (l : Launch) (D : va_G) (cI cB : ClassId) (sz : Nat) (q0 n : Nat) (f : Nat → Int32) (x : Int32) (hn : n < 2 ^ 31) : Met l yJA_fill wJA_fill rm_JA_fill (zz_P D vwCl [(cI, .int), (cB, .boolean)] [.ref q0, .int x] [(q0, .inl (cI, n, .inl f))] sz) (va_Qv (fun u : (Nat → Int32) => ∀ j, j < n → u j = x) (fun u : (Nat → Int32) => zz_B D vwCl [(cI, .int), (cB, .boolean)] (va_A [(q0, .inl (cI, n, .inl f))] sz) [(q0, .inl (cI, n, .inl u))]) (va_A [(q0, .inl (cI, n, .inl f))] sz)) 0 0 (va_A [(q0, .inl (cI, n, .inl f))] sz) := by
  refine Met.ofW (cc := cJA_fill) (maxL := 4) (ret := none) (by decide) rfl ?_
  intro pg ev s mt args below meth kd s₁ B hml hv
  obtain ⟨rfl, hsz, hP, hK, hD0, hN⟩ := hv
  have hx := B.exec
  have hb := B.bytes
  have hr := B.returns
  have ht : ∀ w ∈ W0, w.before _ s = true := fun w h => atoms_spec (ws := wJA_fill) B.pre w (List.mem_cons_of_mem _ h)
  have hown : s.vm.findClass "java/util/Arrays" = some mt.cls := findClass_of_methodNamed B.named
  have hlocks := B.notSynchronized
  subst hsz
  have hD := hD0.self (sz := s.heap.size)
  generalize hAe : va_A [(q0, .inl (cI, n, .inl f))] s.heap.size = A at hD ⊢
  have hA : ∀ q : Nat, s.heap.size ≤ q → A q := fun q h => by rw [← hAe]; exact Or.inr h
  have hS : va_S A s.heap s.heap [] := va_S.rf
  have hP : va_P D vwCl [(q0, .inl (cI, n, .inl f))] s.heap := hP
  have hl := lv_entry ([.ref q0, .int x]) (n := 4) (Nat.le_of_ble_eq_true rfl)
  rw [lg_entry_eq]
  generalize (lg_sl ([.ref q0, .int x]) ++ List.replicate (4 - (lg_sl ([.ref q0, .int x])).length) Slot.unset).toArray = ls at hl ⊢
  have hl : lv_has ls 4 [(0, .ref q0), (1, .int x)] := hl
  refine lv_iconst (v := nI 0) hx hb dJA_fill_0 (by decide) ?_
  refine lv_istore_n (lv' := [(2, .int (nI 0)), (0, .ref q0), (1, .int x)]) hx hb dJA_fill_1 rfl hl (by decide) rfl (fun ls hl => ?_)
  refine lv_aload_n hx hb dJA_fill_2 rfl (lv_at hl 1 rfl) ?_
  refine va_alen (v := nI n) hx hb hK hP 0 0 rfl rfl rfl dJA_fill_3 ?_
  refine lv_istore_n (lv' := [(3, .int (nI n)), (2, .int (nI 0)), (0, .ref q0), (1, .int x)]) hx hb dJA_fill_4 rfl hl (by decide) rfl (fun ls hl => ?_)
  have lp5 : ∀ (fu : Nat) (i : Nat) (g : Nat → Int32) (hi : i ≤ n) (hg : ∀ j, j < i → g j = x) (hm : n - i < fu) (H : Heap) (locs : List Loc) (hP : va_P D vwCl [(q0, .inl (cI, n, .inl g))] H) (hD : va_D A [(q0, .inl (cI, n, .inl g))]) (hS : va_S A s.heap H locs) (ls : Array Slot) (hl : lv_has ls 4 [(0, .ref q0), (1, .int x), (2, .int (nI i)), (3, .int (nI n))]), W pg l ev (headSpec wJA_fill rm_JA_fill).room s mt (([.ref q0, .int x] : List Value).toArray) below meth kd H locs 0 0 (MQ below (va_Qv (fun u : (Nat → Int32) => ∀ j, j < n → u j = x) (fun u : (Nat → Int32) => zz_B D vwCl [(cI, .int), (cB, .boolean)] A [(q0, .inl (cI, n, .inl u))]) A) (([.ref q0, .int x] : List Value).toArray) s 0 0 A) (F0 mt 5 ls []) := by
    intro fu
    induction fu with
    | zero => intro i g hi hg hm; exact absurd hm (Nat.not_lt_zero _)
    | succ fu ih5 =>
      intro i g hi hg hm H locs hP hD hS ls hl
      refine lv_iload_n hx hb dJA_fill_5 rfl (lv_at hl 2 rfl) ?_
      refine lv_iload_n hx hb dJA_fill_6 rfl (lv_at hl 3 rfl) ?_
      refine lv_icmp_ge (tgt := 20) hx hb dJA_fill_7 (by decide) (fun c7 => ?_) (fun c7 => ?_)
      · -- taken
        have c7 : n ≤ i := (nI_leI (a := n) (b := i) (by omega) (by omega)).mp c7
        exact zz_vretW (w1 := fun u : (Nat → Int32) => [(q0, .inl (cI, n, .inl u))]) g hx hb hr hlocks (fun j h => hg j (by omega)) hP hK hD hS dJA_fill_20
      · -- not taken
        have c7 : ¬ (n ≤ i) := fun h => c7 ((nI_leI (a := n) (b := i) (by omega) (by omega)).mpr h)
        refine lv_aload_n hx hb dJA_fill_10 rfl (lv_at hl 0 rfl) ?_
        refine lv_iload_n hx hb dJA_fill_11 rfl (lv_at hl 2 rfl) ?_
        refine lv_iload_n hx hb dJA_fill_12 rfl (lv_at hl 1 rfl) ?_
        refine zz_iast (k := i) hx hb hK hP hD hS 0 0 rfl rfl (by omega) hn dJA_fill_13 (fun H locs hP hD hS => ?_)
        have hP : va_P D vwCl [(q0, .inl (cI, n, .inl (upd g i x)))] H := hP
        have hD : va_D A [(q0, .inl (cI, n, .inl (upd g i x)))] := hD
        refine lv_iinc (v := nI (i + 1)) (lv' := [(2, .int (nI (i + 1))), (0, .ref q0), (1, .int x), (3, .int (nI n))]) hx hb dJA_fill_14 hl (k := 2) rfl (nI_1 i) (by decide) rfl (fun ls hl => ?_)
        refine lv_goto (tgt := 5) hx hb dJA_fill_17 (by decide) ?_
        exact ih5 (i + 1) (upd g i x) (by omega) (fun j h => by
          by_cases q : j = i
          · rw [q, pk_us]
          · rw [pk_un q]; exact hg j (by omega)) (by omega) _ _ hP hD hS ls (lv_sub hl [1, 2, 0, 3] rfl)
  exact lp5 ((n - 0) + 1) 0 f (Nat.zero_le _) (fun j h => absurd h (Nat.not_lt_zero _)) (Nat.lt_succ_self _) s.heap _ hP hD hS ls (lv_sub hl [2, 3, 1, 0] rfl)

abbrev rm_P_size : Room := { frames := 0, cells := 0, slots := 0, locals := 0 }
set_option maxHeartbeats 4000000 in
set_option maxRecDepth 100000 in
theorem c_P_size (l : Launch) (D : va_G) (cI cB : ClassId) (q0 q1 q2 q3 : Nat) (fs fp fo : Nat → Int32) (n : Nat) (hn : n ≤ 30) : Met l yP_size wP_size rm_P_size (zz_R D vwCl [(cI, .int), (cB, .boolean)] [.ref q0] [(q0, .inr (1, [.ref q1, .ref q2, .ref q3, .int (nI n)])), (q1, .inl (cI, 30, .inl fs)), (q2, .inl (cI, 30, .inl fp)), (q3, .inl (cI, 30, .inl fo))]) (vp_Si (fun r : Int32 => r = nI n)) 0 0 (fun _ => False) := by
  refine Met.ofW (cc := cP_size) (maxL := 1) (ret := (some .int)) (by decide) rfl ?_
  intro pg ev s mt args below meth kd s₁ B hml hv
  obtain ⟨rfl, hP, hK, hN⟩ := hv
  have hx := B.exec
  have hb := B.bytes
  have hr := B.returns
  have ht : ∀ w ∈ W0, w.before _ s = true := fun w h => atoms_spec (ws := wP_size) B.pre w (List.mem_cons_of_mem _ h)
  have hown : s.vm.findClass "StatRows$PatternRow" = some mt.cls := findClass_of_methodNamed B.named
  have hlocks := B.notSynchronized
  have hl := lv_entry ([.ref q0]) (n := 1) (Nat.le_of_ble_eq_true rfl)
  rw [lg_entry_eq]
  generalize (lg_sl ([.ref q0]) ++ List.replicate (1 - (lg_sl ([.ref q0])).length) Slot.unset).toArray = ls at hl ⊢
  have hl : lv_has ls 1 [(0, .ref q0)] := hl
  refine lv_aload_n hx hb dP_size_0 rfl (lv_at hl 0 rfl) ?_
  refine va_get (D := D) (ci := 1) (v := .int (nI n)) (C := "StatRows$PatternRow") (T := TP) (N := 4) hx hb ht inP hown hK hP 0 rfl rfl 3 (by decide) (ht _ wd41) (fun _ h9 => h9) rfl dP_size_1 ?_
  exact zz_iretR (v := nI n) hx hb hr hlocks (rfl) dP_size_4

abbrev rm_P_has : Room := { frames := 0, cells := 0, slots := 0, locals := 0 }
set_option maxHeartbeats 4000000 in
set_option maxRecDepth 100000 in
theorem c_P_has (l : Launch) (D : va_G) (cI cB : ClassId) (q0 q1 q2 q3 : Nat) (fs fp fo : Nat → Int32) (n : Nat) (hn : n ≤ 30) (x : Int32) : Met l yP_has wP_has rm_P_has (zz_R D vwCl [(cI, .int), (cB, .boolean)] [.ref q0, .int x] [(q0, .inr (1, [.ref q1, .ref q2, .ref q3, .int (nI n)])), (q1, .inl (cI, 30, .inl fs)), (q2, .inl (cI, 30, .inl fp)), (q3, .inl (cI, 30, .inl fo))]) (vp_Si (fun r : Int32 => r = nI (decide (¬ x < 0 ∧ ¬ nI n ≤ x)).toNat)) 0 0 (fun _ => False) := by
  refine Met.ofW (cc := cP_has) (maxL := 2) (ret := (some .boolean)) (by decide) rfl ?_
  intro pg ev s mt args below meth kd s₁ B hml hv
  obtain ⟨rfl, hP, hK, hN⟩ := hv
  have hx := B.exec
  have hb := B.bytes
  have hr := B.returns
  have ht : ∀ w ∈ W0, w.before _ s = true := fun w h => atoms_spec (ws := wP_has) B.pre w (List.mem_cons_of_mem _ h)
  have hown : s.vm.findClass "StatRows$PatternRow" = some mt.cls := findClass_of_methodNamed B.named
  have hlocks := B.notSynchronized
  have hl := lv_entry ([.ref q0, .int x]) (n := 2) (Nat.le_of_ble_eq_true rfl)
  rw [lg_entry_eq]
  generalize (lg_sl ([.ref q0, .int x]) ++ List.replicate (2 - (lg_sl ([.ref q0, .int x])).length) Slot.unset).toArray = ls at hl ⊢
  have hl : lv_has ls 2 [(0, .ref q0), (1, .int x)] := hl
  refine lv_iload_n hx hb dP_has_0 rfl (lv_at hl 1 rfl) ?_
  refine lv_if_lt (tgt := 16) hx hb dP_has_1 (by decide) (fun c1 => ?_) (fun c1 => ?_)
  · -- taken
    have hs : decide (¬ x < 0 ∧ ¬ nI n ≤ x) = false := decide_eq_false (fun q => q.1 c1)
    refine lv_iconst (v := nI 0) hx hb dP_has_16 (by decide) ?_
    exact zz_zretR (v := nI 0) hx hb hr hlocks (by decide) (by rw [hs]; rfl) dP_has_17
  · -- not taken
    refine lv_iload_n hx hb dP_has_4 rfl (lv_at hl 1 rfl) ?_
    refine lv_aload_n hx hb dP_has_5 rfl (lv_at hl 0 rfl) ?_
    refine va_get (D := D) (ci := 1) (v := .int (nI n)) (C := "StatRows$PatternRow") (T := TP) (N := 4) hx hb ht inP hown hK hP 0 rfl rfl 3 (by decide) (ht _ wd41) (fun _ h9 => h9) rfl dP_has_6 ?_
    refine lv_icmp_ge (tgt := 16) hx hb dP_has_9 (by decide) (fun c9 => ?_) (fun c9 => ?_)
    · -- taken
      have hs : decide (¬ x < 0 ∧ ¬ nI n ≤ x) = false := decide_eq_false (fun q => q.2 c9)
      refine lv_iconst (v := nI 0) hx hb dP_has_16 (by decide) ?_
      exact zz_zretR (v := nI 0) hx hb hr hlocks (by decide) (by rw [hs]; rfl) dP_has_17
    · -- not taken
      have hs : decide (¬ x < 0 ∧ ¬ nI n ≤ x) = true := decide_eq_true ⟨c1, c9⟩
      refine lv_iconst (v := nI 1) hx hb dP_has_12 (by decide) ?_
      refine lv_goto (tgt := 17) hx hb dP_has_13 (by decide) ?_
      exact zz_zretR (v := nI 1) hx hb hr hlocks (by decide) (by rw [hs]; rfl) dP_has_17

abbrev rm_P_allows : Room := { frames := 0, cells := 0, slots := 0, locals := 0 }
set_option maxHeartbeats 4000000 in
set_option maxRecDepth 100000 in
theorem c_P_allows (l : Launch) (x y : Int32) : Met l yP_allows wP_allows rm_P_allows (zz_N [.int x, .int y]) (vp_Si (fun r : Int32 => r = nI (pal x y).toNat)) 0 0 (fun _ => False) := by
  refine Met.ofW (cc := cP_allows) (maxL := 2) (ret := (some .boolean)) (by decide) rfl ?_
  intro pg ev s mt args below meth kd s₁ B hml hv
  have hv : args = _ := hv
  subst hv
  have hx := B.exec
  have hb := B.bytes
  have hr := B.returns
  have ht : ∀ w ∈ W0, w.before _ s = true := fun w h => atoms_spec (ws := wP_allows) B.pre w (List.mem_cons_of_mem _ h)
  have hown : s.vm.findClass "StatRows$PatternRow" = some mt.cls := findClass_of_methodNamed B.named
  have hlocks := B.notSynchronized
  have hl := lv_entry ([.int x, .int y]) (n := 2) (Nat.le_of_ble_eq_true rfl)
  rw [lg_entry_eq]
  generalize (lg_sl ([.int x, .int y]) ++ List.replicate (2 - (lg_sl ([.int x, .int y])).length) Slot.unset).toArray = ls at hl ⊢
  have hl : lv_has ls 2 [(0, .int x), (1, .int y)] := hl
  refine lv_iload_n hx hb dP_allows_0 rfl (lv_at hl 0 rfl) ?_
  refine lv_iconst (v := (-1)) hx hb dP_allows_1 (by decide) ?_
  refine lv_icmp_eq (tgt := 10) hx hb dP_allows_2 (by decide) (fun c2 => ?_) (fun c2 => ?_)
  · -- taken
    have hs : pal x y = true := decide_eq_true (Or.inl c2)
    refine lv_iconst (v := nI 1) hx hb dP_allows_10 (by decide) ?_
    refine lv_goto (tgt := 15) hx hb dP_allows_11 (by decide) ?_
    exact zz_zretR (v := nI 1) hx hb hr hlocks (by decide) (by rw [hs]; rfl) dP_allows_15
  · -- not taken
    refine lv_iload_n hx hb dP_allows_5 rfl (lv_at hl 0 rfl) ?_
    refine lv_iload_n hx hb dP_allows_6 rfl (lv_at hl 1 rfl) ?_
    refine lv_icmp_ne (tgt := 14) hx hb dP_allows_7 (by decide) (fun c7 => ?_) (fun c7 => ?_)
    · -- taken
      have hs : pal x y = false := decide_eq_false (fun q => q.elim c2 c7)
      refine lv_iconst (v := nI 0) hx hb dP_allows_14 (by decide) ?_
      exact zz_zretR (v := nI 0) hx hb hr hlocks (by decide) (by rw [hs]; rfl) dP_allows_15
    · -- not taken
      have hs : pal x y = true := decide_eq_true (Or.inr c7)
      refine lv_iconst (v := nI 1) hx hb dP_allows_10 (by decide) ?_
      refine lv_goto (tgt := 15) hx hb dP_allows_11 (by decide) ?_
      exact zz_zretR (v := nI 1) hx hb hr hlocks (by decide) (by rw [hs]; rfl) dP_allows_15

abbrev rm_P_goesWith : Room := { frames := 1, cells := 0, slots := 0, locals := 21 }
set_option maxHeartbeats 4000000 in
set_option maxRecDepth 100000 in
theorem c_P_goesWith (l : Launch) (D : va_G) (cI cB : ClassId) (q0 q1 q2 q3 : Nat) (fs fp fo : Nat → Int32) (n : Nat) (hn : n ≤ 30) (k : Nat) (hk : k < 30) (s1 p1 o1 : Int32) : Met l yP_goesWith wP_goesWith rm_P_goesWith (zz_R D vwCl [(cI, .int), (cB, .boolean)] [.ref q0, .int (nI k), .int s1, .int p1, .int o1] [(q0, .inr (1, [.ref q1, .ref q2, .ref q3, .int (nI n)])), (q1, .inl (cI, 30, .inl fs)), (q2, .inl (cI, 30, .inl fp)), (q3, .inl (cI, 30, .inl fo))]) (vp_Si (fun r : Int32 => r = nI (pal (fs k) s1 && pal (fp k) p1 && pal (fo k) o1).toNat)) 0 0 (fun _ => False) := by
  refine Met.ofW (cc := cP_goesWith) (maxL := 5) (ret := (some .boolean)) (by decide) rfl ?_
  intro pg ev s mt args below meth kd s₁ B hml hv
  obtain ⟨rfl, hP, hK, hN⟩ := hv
  have hx := B.exec
  have hb := B.bytes
  have hr := B.returns
  have ht : ∀ w ∈ W0, w.before _ s = true := fun w h => atoms_spec (ws := wP_goesWith) B.pre w (List.mem_cons_of_mem _ h)
  have hown : s.vm.findClass "StatRows$PatternRow" = some mt.cls := findClass_of_methodNamed B.named
  have hlocks := B.notSynchronized
  have hl := lv_entry ([.ref q0, .int (nI k), .int s1, .int p1, .int o1]) (n := 5) (Nat.le_of_ble_eq_true rfl)
  rw [lg_entry_eq]
  generalize (lg_sl ([.ref q0, .int (nI k), .int s1, .int p1, .int o1]) ++ List.replicate (5 - (lg_sl ([.ref q0, .int (nI k), .int s1, .int p1, .int o1])).length) Slot.unset).toArray = ls at hl ⊢
  have hl : lv_has ls 5 [(0, .ref q0), (1, .int (nI k)), (2, .int s1), (3, .int p1), (4, .int o1)] := hl
  have b1 := btl (pal (fs k) s1)
  have b2 := btl (pal (fp k) p1)
  have b3 := btl (pal (fo k) o1)
  refine lv_aload_n hx hb dP_goesWith_0 rfl (lv_at hl 0 rfl) ?_
  refine va_get (D := D) (ci := 1) (v := .ref q1) (C := "StatRows$PatternRow") (T := TP) (N := 4) hx hb ht inP hown hK hP 0 rfl rfl 0 (by decide) (ht _ wd38) (fun _ h9 => h9) rfl dP_goesWith_1 ?_
  refine lv_iload_n hx hb dP_goesWith_4 rfl (lv_at hl 1 rfl) ?_
  refine zz_iald (k := k) hx hb hK hP 1 0 rfl rfl (by omega) (by decide) dP_goesWith_5 ?_
  refine lv_iload_n hx hb dP_goesWith_6 rfl (lv_at hl 2 rfl) ?_
  refine zz_ci (v := nI ((pal (fs k) s1).toNat)) (W.runS (As := [.int (fs k), .int s1]) (rest := []) ⟨hx, hb, hml, hown, ht⟩ (c_P_allows l (fs k) s1) (va_cwS 2 ht (gd_S wd328 wd329 wd3 wd330) rfl rfl rfl (by decide +kernel) ⟨Nat.le_of_ble_eq_true rfl, Nat.le_of_ble_eq_true rfl⟩) zz_N_S rfl rfl hl.1 rfl (lv_room (Nat.le_of_ble_eq_true rfl)) dP_goesWith_7 ⟨Nat.le_of_ble_eq_true rfl, Nat.le_of_ble_eq_true rfl⟩) ?_
  refine lv_if_eq (tgt := 44) hx hb dP_goesWith_10 (by decide) (fun c10 => ?_) (fun c10 => ?_)
  · -- taken
    have c10 : (pal (fs k) s1).toNat = 0 := (nI_eq (a := (pal (fs k) s1).toNat) (b := 0) (by omega) (by omega)).mp c10
    have hs : (pal (fs k) s1 && pal (fp k) p1 && pal (fo k) o1) = false := by rw [bt0 c10]; rfl
    refine lv_iconst (v := nI 0) hx hb dP_goesWith_44 (by decide) ?_
    exact zz_zretR (v := nI 0) hx hb hr hlocks (by decide) (by rw [hs]; rfl) dP_goesWith_45
  · -- not taken
    have c10 : ¬ ((pal (fs k) s1).toNat = 0) := fun h => c10 ((nI_eq (a := (pal (fs k) s1).toNat) (b := 0) (by omega) (by omega)).mpr h)
    have e1 := bt1 c10
    refine lv_aload_n hx hb dP_goesWith_13 rfl (lv_at hl 0 rfl) ?_
    refine va_get (D := D) (ci := 1) (v := .ref q2) (C := "StatRows$PatternRow") (T := TP) (N := 4) hx hb ht inP hown hK hP 0 rfl rfl 1 (by decide) (ht _ wd39) (fun _ h9 => h9) rfl dP_goesWith_14 ?_
    refine lv_iload_n hx hb dP_goesWith_17 rfl (lv_at hl 1 rfl) ?_
    refine zz_iald (k := k) hx hb hK hP 2 0 rfl rfl (by omega) (by decide) dP_goesWith_18 ?_
    refine lv_iload_n hx hb dP_goesWith_19 rfl (lv_at hl 3 rfl) ?_
    refine zz_ci (v := nI ((pal (fp k) p1).toNat)) (W.runS (As := [.int (fp k), .int p1]) (rest := []) ⟨hx, hb, hml, hown, ht⟩ (c_P_allows l (fp k) p1) (va_cwS 2 ht (gd_S wd328 wd329 wd3 wd330) rfl rfl rfl (by decide +kernel) ⟨Nat.le_of_ble_eq_true rfl, Nat.le_of_ble_eq_true rfl⟩) zz_N_S rfl rfl hl.1 rfl (lv_room (Nat.le_of_ble_eq_true rfl)) dP_goesWith_20 ⟨Nat.le_of_ble_eq_true rfl, Nat.le_of_ble_eq_true rfl⟩) ?_
    refine lv_if_eq (tgt := 44) hx hb dP_goesWith_23 (by decide) (fun c23 => ?_) (fun c23 => ?_)
    · -- taken
      have c23 : (pal (fp k) p1).toNat = 0 := (nI_eq (a := (pal (fp k) p1).toNat) (b := 0) (by omega) (by omega)).mp c23
      have hs : (pal (fs k) s1 && pal (fp k) p1 && pal (fo k) o1) = false := by rw [e1, bt0 c23]; rfl
      refine lv_iconst (v := nI 0) hx hb dP_goesWith_44 (by decide) ?_
      exact zz_zretR (v := nI 0) hx hb hr hlocks (by decide) (by rw [hs]; rfl) dP_goesWith_45
    · -- not taken
      have c23 : ¬ ((pal (fp k) p1).toNat = 0) := fun h => c23 ((nI_eq (a := (pal (fp k) p1).toNat) (b := 0) (by omega) (by omega)).mpr h)
      have e2 := bt1 c23
      refine lv_aload_n hx hb dP_goesWith_26 rfl (lv_at hl 0 rfl) ?_
      refine va_get (D := D) (ci := 1) (v := .ref q3) (C := "StatRows$PatternRow") (T := TP) (N := 4) hx hb ht inP hown hK hP 0 rfl rfl 2 (by decide) (ht _ wd40) (fun _ h9 => h9) rfl dP_goesWith_27 ?_
      refine lv_iload_n hx hb dP_goesWith_30 rfl (lv_at hl 1 rfl) ?_
      refine zz_iald (k := k) hx hb hK hP 3 0 rfl rfl (by omega) (by decide) dP_goesWith_31 ?_
      refine lv_iload hx hb dP_goesWith_32 (lv_at hl 4 rfl) ?_
      refine zz_ci (v := nI ((pal (fo k) o1).toNat)) (W.runS (As := [.int (fo k), .int o1]) (rest := []) ⟨hx, hb, hml, hown, ht⟩ (c_P_allows l (fo k) o1) (va_cwS 2 ht (gd_S wd328 wd329 wd3 wd330) rfl rfl rfl (by decide +kernel) ⟨Nat.le_of_ble_eq_true rfl, Nat.le_of_ble_eq_true rfl⟩) zz_N_S rfl rfl hl.1 rfl (lv_room (Nat.le_of_ble_eq_true rfl)) dP_goesWith_34 ⟨Nat.le_of_ble_eq_true rfl, Nat.le_of_ble_eq_true rfl⟩) ?_
      refine lv_if_eq (tgt := 44) hx hb dP_goesWith_37 (by decide) (fun c37 => ?_) (fun c37 => ?_)
      · -- taken
        have c37 : (pal (fo k) o1).toNat = 0 := (nI_eq (a := (pal (fo k) o1).toNat) (b := 0) (by omega) (by omega)).mp c37
        have hs : (pal (fs k) s1 && pal (fp k) p1 && pal (fo k) o1) = false := by rw [e1, e2, bt0 c37]; rfl
        refine lv_iconst (v := nI 0) hx hb dP_goesWith_44 (by decide) ?_
        exact zz_zretR (v := nI 0) hx hb hr hlocks (by decide) (by rw [hs]; rfl) dP_goesWith_45
      · -- not taken
        have c37 : ¬ ((pal (fo k) o1).toNat = 0) := fun h => c37 ((nI_eq (a := (pal (fo k) o1).toNat) (b := 0) (by omega) (by omega)).mpr h)
        have hs : (pal (fs k) s1 && pal (fp k) p1 && pal (fo k) o1) = true := by rw [e1, e2, bt1 c37]; rfl
        refine lv_iconst (v := nI 1) hx hb dP_goesWith_40 (by decide) ?_
        refine lv_goto (tgt := 45) hx hb dP_goesWith_41 (by decide) ?_
        exact zz_zretR (v := nI 1) hx hb hr hlocks (by decide) (by rw [hs]; rfl) dP_goesWith_45

abbrev rm_P_rowOf : Room := { frames := 0, cells := 0, slots := 0, locals := 0 }
set_option maxHeartbeats 4000000 in
set_option maxRecDepth 100000 in
theorem c_P_rowOf (l : Launch) (D : va_G) (cI cB : ClassId) (sz : Nat) (q0 q1 q2 q3 : Nat) (fs fp fo : Nat → Int32) (n : Nat) (hn : n ≤ 30) (s1 p1 o1 : Int32) : Met l yP_rowOf wP_rowOf rm_P_rowOf (zz_P D vwCl [(cI, .int), (cB, .boolean)] [.ref q0, .int s1, .int p1, .int o1] [(q0, .inr (1, [.ref q1, .ref q2, .ref q3, .int (nI n)])), (q1, .inl (cI, 30, .inl fs)), (q2, .inl (cI, 30, .inl fp)), (q3, .inl (cI, 30, .inl fo))] sz) (va_Qi (fun (r : Int32) (u : ((Nat → Int32) × (Nat → Int32) × (Nat → Int32) × Nat)) => (∃ j, j < n ∧ (fs j = s1 ∧ fp j = p1 ∧ fo j = o1) ∧ (∀ i, i < j → ¬ (fs i = s1 ∧ fp i = p1 ∧ fo i = o1)) ∧ r = nI j ∧ u = (fs, fp, fo, n)) ∨ ((∀ i, i < n → ¬ (fs i = s1 ∧ fp i = p1 ∧ fo i = o1)) ∧ ((n = 30 ∧ r = -3 ∧ u = (fs, fp, fo, n)) ∨ (n < 30 ∧ r = nI n ∧ u = (upd fs n s1, upd fp n p1, upd fo n o1, n + 1))))) (fun u : ((Nat → Int32) × (Nat → Int32) × (Nat → Int32) × Nat) => zz_B D vwCl [(cI, .int), (cB, .boolean)] (va_A [(q0, .inr (1, [.ref q1, .ref q2, .ref q3, .int (nI n)])), (q1, .inl (cI, 30, .inl fs)), (q2, .inl (cI, 30, .inl fp)), (q3, .inl (cI, 30, .inl fo))] sz) [(q0, .inr (1, [.ref q1, .ref q2, .ref q3, .int (nI u.2.2.2)])), (q1, .inl (cI, 30, .inl u.1)), (q2, .inl (cI, 30, .inl u.2.1)), (q3, .inl (cI, 30, .inl u.2.2.1))]) (va_A [(q0, .inr (1, [.ref q1, .ref q2, .ref q3, .int (nI n)])), (q1, .inl (cI, 30, .inl fs)), (q2, .inl (cI, 30, .inl fp)), (q3, .inl (cI, 30, .inl fo))] sz)) 0 0 (va_A [(q0, .inr (1, [.ref q1, .ref q2, .ref q3, .int (nI n)])), (q1, .inl (cI, 30, .inl fs)), (q2, .inl (cI, 30, .inl fp)), (q3, .inl (cI, 30, .inl fo))] sz) := by
  refine Met.ofW (cc := cP_rowOf) (maxL := 5) (ret := (some .int)) (by decide) rfl ?_
  intro pg ev s mt args below meth kd s₁ B hml hv
  obtain ⟨rfl, hsz, hP, hK, hD0, hN⟩ := hv
  have hx := B.exec
  have hb := B.bytes
  have hr := B.returns
  have ht : ∀ w ∈ W0, w.before _ s = true := fun w h => atoms_spec (ws := wP_rowOf) B.pre w (List.mem_cons_of_mem _ h)
  have hown : s.vm.findClass "StatRows$PatternRow" = some mt.cls := findClass_of_methodNamed B.named
  have hlocks := B.notSynchronized
  subst hsz
  have hD := hD0.self (sz := s.heap.size)
  generalize hAe : va_A [(q0, .inr (1, [.ref q1, .ref q2, .ref q3, .int (nI n)])), (q1, .inl (cI, 30, .inl fs)), (q2, .inl (cI, 30, .inl fp)), (q3, .inl (cI, 30, .inl fo))] s.heap.size = A at hD ⊢
  have hA : ∀ q : Nat, s.heap.size ≤ q → A q := fun q h => by rw [← hAe]; exact Or.inr h
  have hS : va_S A s.heap s.heap [] := va_S.rf
  have hP : va_P D vwCl [(q0, .inr (1, [.ref q1, .ref q2, .ref q3, .int (nI n)])), (q1, .inl (cI, 30, .inl fs)), (q2, .inl (cI, 30, .inl fp)), (q3, .inl (cI, 30, .inl fo))] s.heap := hP
  have hl := lv_entry ([.ref q0, .int s1, .int p1, .int o1]) (n := 5) (Nat.le_of_ble_eq_true rfl)
  rw [lg_entry_eq]
  generalize (lg_sl ([.ref q0, .int s1, .int p1, .int o1]) ++ List.replicate (5 - (lg_sl ([.ref q0, .int s1, .int p1, .int o1])).length) Slot.unset).toArray = ls at hl ⊢
  have hl : lv_has ls 5 [(0, .ref q0), (1, .int s1), (2, .int p1), (3, .int o1)] := hl
  refine lv_iconst (v := nI 0) hx hb dP_rowOf_0 (by decide) ?_
  refine lv_istore (lv' := [(4, .int (nI 0)), (0, .ref q0), (1, .int s1), (2, .int p1), (3, .int o1)]) hx hb dP_rowOf_1 hl (by decide) rfl (fun ls hl => ?_)
  have lp3 : ∀ (fu : Nat) (i : Nat) (hi : i ≤ n) (hno : ∀ j, j < i → ¬ (fs j = s1 ∧ fp j = p1 ∧ fo j = o1)) (hm : n - i < fu) (H : Heap) (locs : List Loc) (hP : va_P D vwCl [(q0, .inr (1, [.ref q1, .ref q2, .ref q3, .int (nI n)])), (q1, .inl (cI, 30, .inl fs)), (q2, .inl (cI, 30, .inl fp)), (q3, .inl (cI, 30, .inl fo))] H) (hD : va_D A [(q0, .inr (1, [.ref q1, .ref q2, .ref q3, .int (nI n)])), (q1, .inl (cI, 30, .inl fs)), (q2, .inl (cI, 30, .inl fp)), (q3, .inl (cI, 30, .inl fo))]) (hS : va_S A s.heap H locs) (ls : Array Slot) (hl : lv_has ls 5 [(0, .ref q0), (1, .int s1), (2, .int p1), (3, .int o1), (4, .int (nI i))]), W pg l ev (headSpec wP_rowOf rm_P_rowOf).room s mt (([.ref q0, .int s1, .int p1, .int o1] : List Value).toArray) below meth kd H locs 0 0 (MQ below (va_Qi (fun (r : Int32) (u : ((Nat → Int32) × (Nat → Int32) × (Nat → Int32) × Nat)) => (∃ j, j < n ∧ (fs j = s1 ∧ fp j = p1 ∧ fo j = o1) ∧ (∀ i, i < j → ¬ (fs i = s1 ∧ fp i = p1 ∧ fo i = o1)) ∧ r = nI j ∧ u = (fs, fp, fo, n)) ∨ ((∀ i, i < n → ¬ (fs i = s1 ∧ fp i = p1 ∧ fo i = o1)) ∧ ((n = 30 ∧ r = -3 ∧ u = (fs, fp, fo, n)) ∨ (n < 30 ∧ r = nI n ∧ u = (upd fs n s1, upd fp n p1, upd fo n o1, n + 1))))) (fun u : ((Nat → Int32) × (Nat → Int32) × (Nat → Int32) × Nat) => zz_B D vwCl [(cI, .int), (cB, .boolean)] A [(q0, .inr (1, [.ref q1, .ref q2, .ref q3, .int (nI u.2.2.2)])), (q1, .inl (cI, 30, .inl u.1)), (q2, .inl (cI, 30, .inl u.2.1)), (q3, .inl (cI, 30, .inl u.2.2.1))]) A) (([.ref q0, .int s1, .int p1, .int o1] : List Value).toArray) s 0 0 A) (F0 mt 3 ls []) := by
    intro fu
    induction fu with
    | zero => intro i hi hno hm; exact absurd hm (Nat.not_lt_zero _)
    | succ fu ih3 =>
      intro i hi hno hm H locs hP hD hS ls hl
      refine lv_iload hx hb dP_rowOf_3 (lv_at hl 4 rfl) ?_
      refine lv_aload_n hx hb dP_rowOf_5 rfl (lv_at hl 0 rfl) ?_
      refine va_get (D := D) (ci := 1) (v := .int (nI n)) (C := "StatRows$PatternRow") (T := TP) (N := 4) hx hb ht inP hown hK hP 0 rfl rfl 3 (by decide) (ht _ wd41) (fun _ h9 => h9) rfl dP_rowOf_6 ?_
      refine lv_icmp_ge (tgt := 54) hx hb dP_rowOf_9 (by decide) (fun c9 => ?_) (fun c9 => ?_)
      · -- taken
        have c9 : n ≤ i := (nI_leI (a := n) (b := i) (by omega) (by omega)).mp c9
        have hno : ∀ j, j < n → ¬ (fs j = s1 ∧ fp j = p1 ∧ fo j = o1) := fun j h => hno j (by omega)
        refine lv_aload_n hx hb dP_rowOf_54 rfl (lv_at hl 0 rfl) ?_
        refine va_get (D := D) (ci := 1) (v := .int (nI n)) (C := "StatRows$PatternRow") (T := TP) (N := 4) hx hb ht inP hown hK hP 0 rfl rfl 3 (by decide) (ht _ wd41) (fun _ h9 => h9) rfl dP_rowOf_55 ?_
        refine lv_bipush (v := nI 30) hx hb dP_rowOf_58 (by decide) ?_
        refine lv_icmp_lt (tgt := 66) hx hb dP_rowOf_60 (by decide) (fun c60 => ?_) (fun c60 => ?_)
        · -- taken
          have c60 : n < 30 := (nI_ltI (a := n) (b := 30) (by omega) (by omega)).mp c60
          refine lv_aload_n hx hb dP_rowOf_66 rfl (lv_at hl 0 rfl) ?_
          refine va_get (D := D) (ci := 1) (v := .ref q1) (C := "StatRows$PatternRow") (T := TP) (N := 4) hx hb ht inP hown hK hP 0 rfl rfl 0 (by decide) (ht _ wd38) (fun _ h9 => h9) rfl dP_rowOf_67 ?_
          refine lv_aload_n hx hb dP_rowOf_70 rfl (lv_at hl 0 rfl) ?_
          refine va_get (D := D) (ci := 1) (v := .int (nI n)) (C := "StatRows$PatternRow") (T := TP) (N := 4) hx hb ht inP hown hK hP 0 rfl rfl 3 (by decide) (ht _ wd41) (fun _ h9 => h9) rfl dP_rowOf_71 ?_
          refine lv_iload_n hx hb dP_rowOf_74 rfl (lv_at hl 1 rfl) ?_
          refine zz_iast (k := n) hx hb hK hP hD hS 1 0 rfl rfl (by omega) (by decide) dP_rowOf_75 (fun H locs hP hD hS => ?_)
          have hP : va_P D vwCl [(q0, .inr (1, [.ref q1, .ref q2, .ref q3, .int (nI n)])), (q1, .inl (cI, 30, .inl (upd fs n s1))), (q2, .inl (cI, 30, .inl fp)), (q3, .inl (cI, 30, .inl fo))] H := hP
          have hD : va_D A [(q0, .inr (1, [.ref q1, .ref q2, .ref q3, .int (nI n)])), (q1, .inl (cI, 30, .inl (upd fs n s1))), (q2, .inl (cI, 30, .inl fp)), (q3, .inl (cI, 30, .inl fo))] := hD
          refine lv_aload_n hx hb dP_rowOf_76 rfl (lv_at hl 0 rfl) ?_
          refine va_get (D := D) (ci := 1) (v := .ref q2) (C := "StatRows$PatternRow") (T := TP) (N := 4) hx hb ht inP hown hK hP 0 rfl rfl 1 (by decide) (ht _ wd39) (fun _ h9 => h9) rfl dP_rowOf_77 ?_
          refine lv_aload_n hx hb dP_rowOf_80 rfl (lv_at hl 0 rfl) ?_
          refine va_get (D := D) (ci := 1) (v := .int (nI n)) (C := "StatRows$PatternRow") (T := TP) (N := 4) hx hb ht inP hown hK hP 0 rfl rfl 3 (by decide) (ht _ wd41) (fun _ h9 => h9) rfl dP_rowOf_81 ?_
          refine lv_iload_n hx hb dP_rowOf_84 rfl (lv_at hl 2 rfl) ?_
          refine zz_iast (k := n) hx hb hK hP hD hS 2 0 rfl rfl (by omega) (by decide) dP_rowOf_85 (fun H locs hP hD hS => ?_)
          have hP : va_P D vwCl [(q0, .inr (1, [.ref q1, .ref q2, .ref q3, .int (nI n)])), (q1, .inl (cI, 30, .inl (upd fs n s1))), (q2, .inl (cI, 30, .inl (upd fp n p1))), (q3, .inl (cI, 30, .inl fo))] H := hP
          have hD : va_D A [(q0, .inr (1, [.ref q1, .ref q2, .ref q3, .int (nI n)])), (q1, .inl (cI, 30, .inl (upd fs n s1))), (q2, .inl (cI, 30, .inl (upd fp n p1))), (q3, .inl (cI, 30, .inl fo))] := hD
          refine lv_aload_n hx hb dP_rowOf_86 rfl (lv_at hl 0 rfl) ?_
          refine va_get (D := D) (ci := 1) (v := .ref q3) (C := "StatRows$PatternRow") (T := TP) (N := 4) hx hb ht inP hown hK hP 0 rfl rfl 2 (by decide) (ht _ wd40) (fun _ h9 => h9) rfl dP_rowOf_87 ?_
          refine lv_aload_n hx hb dP_rowOf_90 rfl (lv_at hl 0 rfl) ?_
          refine va_get (D := D) (ci := 1) (v := .int (nI n)) (C := "StatRows$PatternRow") (T := TP) (N := 4) hx hb ht inP hown hK hP 0 rfl rfl 3 (by decide) (ht _ wd41) (fun _ h9 => h9) rfl dP_rowOf_91 ?_
          refine lv_iload_n hx hb dP_rowOf_94 rfl (lv_at hl 3 rfl) ?_
          refine zz_iast (k := n) hx hb hK hP hD hS 3 0 rfl rfl (by omega) (by decide) dP_rowOf_95 (fun H locs hP hD hS => ?_)
          have hP : va_P D vwCl [(q0, .inr (1, [.ref q1, .ref q2, .ref q3, .int (nI n)])), (q1, .inl (cI, 30, .inl (upd fs n s1))), (q2, .inl (cI, 30, .inl (upd fp n p1))), (q3, .inl (cI, 30, .inl (upd fo n o1)))] H := hP
          have hD : va_D A [(q0, .inr (1, [.ref q1, .ref q2, .ref q3, .int (nI n)])), (q1, .inl (cI, 30, .inl (upd fs n s1))), (q2, .inl (cI, 30, .inl (upd fp n p1))), (q3, .inl (cI, 30, .inl (upd fo n o1)))] := hD
          refine lv_aload_n hx hb dP_rowOf_96 rfl (lv_at hl 0 rfl) ?_
          refine lv_dup hx hb dP_rowOf_97 rfl ?_
          refine va_get (D := D) (ci := 1) (v := .int (nI n)) (C := "StatRows$PatternRow") (T := TP) (N := 4) hx hb ht inP hown hK hP 0 rfl rfl 3 (by decide) (ht _ wd41) (fun _ h9 => h9) rfl dP_rowOf_98 ?_
          refine lv_iconst (v := nI 1) hx hb dP_rowOf_101 (by decide) ?_
          refine lv_iadd hx hb dP_rowOf_102 ?_
          refine zz_top (y := nI (n + 1)) (nI_add n 1) ?_
          refine va_put (D := D) (ci := 1) (v := .int (nI (n + 1))) (ty := .int) (C := "StatRows$PatternRow") (T := TP) (N := 4) hx hb ht inP tyP okP nmP hown hK hP hD hS 0 rfl rfl 3 (by decide) (ht _ wd41) (fun _ h9 => h9) rfl (by decide +kernel) rfl rfl (Nat.le_of_ble_eq_true rfl) dP_rowOf_103 (fun H locs hP hD hS => ?_)
          have hP : va_P D vwCl [(q0, .inr (1, [.ref q1, .ref q2, .ref q3, .int (nI (n + 1))])), (q1, .inl (cI, 30, .inl (upd fs n s1))), (q2, .inl (cI, 30, .inl (upd fp n p1))), (q3, .inl (cI, 30, .inl (upd fo n o1)))] H := hP
          have hD : va_D A [(q0, .inr (1, [.ref q1, .ref q2, .ref q3, .int (nI (n + 1))])), (q1, .inl (cI, 30, .inl (upd fs n s1))), (q2, .inl (cI, 30, .inl (upd fp n p1))), (q3, .inl (cI, 30, .inl (upd fo n o1)))] := hD
          refine lv_aload_n hx hb dP_rowOf_106 rfl (lv_at hl 0 rfl) ?_
          refine va_get (D := D) (ci := 1) (v := .int (nI (n + 1))) (C := "StatRows$PatternRow") (T := TP) (N := 4) hx hb ht inP hown hK hP 0 rfl rfl 3 (by decide) (ht _ wd41) (fun _ h9 => h9) rfl dP_rowOf_107 ?_
          refine lv_iconst (v := nI 1) hx hb dP_rowOf_110 (by decide) ?_
          refine lv_isub hx hb dP_rowOf_111 ?_
          refine zz_top (y := nI ((n + 1) - 1)) (pk_sub (a := n + 1) (b := 1) (by omega)) ?_
          exact zz_iretW (v := nI ((n + 1) - 1)) (w1 := fun u : ((Nat → Int32) × (Nat → Int32) × (Nat → Int32) × Nat) => [(q0, .inr (1, [.ref q1, .ref q2, .ref q3, .int (nI u.2.2.2)])), (q1, .inl (cI, 30, .inl u.1)), (q2, .inl (cI, 30, .inl u.2.1)), (q3, .inl (cI, 30, .inl u.2.2.1))]) (upd fs n s1, upd fp n p1, upd fo n o1, n + 1) hx hb hr hlocks (Or.inr ⟨hno, Or.inr ⟨by omega, rfl, rfl⟩⟩) hP hK hD hS dP_rowOf_112
        · -- not taken
          have c60 : ¬ (n < 30) := fun h => c60 ((nI_ltI (a := n) (b := 30) (by omega) (by omega)).mpr h)
          refine lv_bipush (v := (-3)) hx hb dP_rowOf_63 (by decide) ?_
          exact zz_iretW (v := (-3)) (w1 := fun u : ((Nat → Int32) × (Nat → Int32) × (Nat → Int32) × Nat) => [(q0, .inr (1, [.ref q1, .ref q2, .ref q3, .int (nI u.2.2.2)])), (q1, .inl (cI, 30, .inl u.1)), (q2, .inl (cI, 30, .inl u.2.1)), (q3, .inl (cI, 30, .inl u.2.2.1))]) (fs, fp, fo, n) hx hb hr hlocks (Or.inr ⟨hno, Or.inl ⟨by omega, rfl, rfl⟩⟩) hP hK hD hS dP_rowOf_65
      · -- not taken
        have c9 : ¬ (n ≤ i) := fun h => c9 ((nI_leI (a := n) (b := i) (by omega) (by omega)).mpr h)
        refine lv_aload_n hx hb dP_rowOf_12 rfl (lv_at hl 0 rfl) ?_
        refine va_get (D := D) (ci := 1) (v := .ref q1) (C := "StatRows$PatternRow") (T := TP) (N := 4) hx hb ht inP hown hK hP 0 rfl rfl 0 (by decide) (ht _ wd38) (fun _ h9 => h9) rfl dP_rowOf_13 ?_
        refine lv_iload hx hb dP_rowOf_16 (lv_at hl 4 rfl) ?_
        refine zz_iald (k := i) hx hb hK hP 1 0 rfl rfl (by omega) (by decide) dP_rowOf_18 ?_
        refine lv_iload_n hx hb dP_rowOf_19 rfl (lv_at hl 1 rfl) ?_
        refine lv_icmp_ne (tgt := 48) hx hb dP_rowOf_20 (by decide) (fun c20 => ?_) (fun c20 => ?_)
        · -- taken
          have hne : ¬ (fs i = s1 ∧ fp i = p1 ∧ fo i = o1) := fun q => c20 q.1
          refine lv_iinc (v := nI (i + 1)) (lv' := [(4, .int (nI (i + 1))), (0, .ref q0), (1, .int s1), (2, .int p1), (3, .int o1)]) hx hb dP_rowOf_48 hl (k := 4) rfl (nI_1 i) (by decide) rfl (fun ls hl => ?_)
          refine lv_goto (tgt := 3) hx hb dP_rowOf_51 (by decide) ?_
          exact ih3 (i + 1) (by omega) (fun j h => by
            by_cases q : j = i
            · rw [q]; exact hne
            · exact hno j (by omega)) (by omega) _ _ hP hD hS ls (lv_sub hl [1, 2, 3, 4, 0] rfl)
        · -- not taken
          refine lv_aload_n hx hb dP_rowOf_23 rfl (lv_at hl 0 rfl) ?_
          refine va_get (D := D) (ci := 1) (v := .ref q2) (C := "StatRows$PatternRow") (T := TP) (N := 4) hx hb ht inP hown hK hP 0 rfl rfl 1 (by decide) (ht _ wd39) (fun _ h9 => h9) rfl dP_rowOf_24 ?_
          refine lv_iload hx hb dP_rowOf_27 (lv_at hl 4 rfl) ?_
          refine zz_iald (k := i) hx hb hK hP 2 0 rfl rfl (by omega) (by decide) dP_rowOf_29 ?_
          refine lv_iload_n hx hb dP_rowOf_30 rfl (lv_at hl 2 rfl) ?_
          refine lv_icmp_ne (tgt := 48) hx hb dP_rowOf_31 (by decide) (fun c31 => ?_) (fun c31 => ?_)
          · -- taken
            have hne : ¬ (fs i = s1 ∧ fp i = p1 ∧ fo i = o1) := fun q => c31 q.2.1
            refine lv_iinc (v := nI (i + 1)) (lv' := [(4, .int (nI (i + 1))), (0, .ref q0), (1, .int s1), (2, .int p1), (3, .int o1)]) hx hb dP_rowOf_48 hl (k := 4) rfl (nI_1 i) (by decide) rfl (fun ls hl => ?_)
            refine lv_goto (tgt := 3) hx hb dP_rowOf_51 (by decide) ?_
            exact ih3 (i + 1) (by omega) (fun j h => by
              by_cases q : j = i
              · rw [q]; exact hne
              · exact hno j (by omega)) (by omega) _ _ hP hD hS ls (lv_sub hl [1, 2, 3, 4, 0] rfl)
          · -- not taken
            refine lv_aload_n hx hb dP_rowOf_34 rfl (lv_at hl 0 rfl) ?_
            refine va_get (D := D) (ci := 1) (v := .ref q3) (C := "StatRows$PatternRow") (T := TP) (N := 4) hx hb ht inP hown hK hP 0 rfl rfl 2 (by decide) (ht _ wd40) (fun _ h9 => h9) rfl dP_rowOf_35 ?_
            refine lv_iload hx hb dP_rowOf_38 (lv_at hl 4 rfl) ?_
            refine zz_iald (k := i) hx hb hK hP 3 0 rfl rfl (by omega) (by decide) dP_rowOf_40 ?_
            refine lv_iload_n hx hb dP_rowOf_41 rfl (lv_at hl 3 rfl) ?_
            refine lv_icmp_ne (tgt := 48) hx hb dP_rowOf_42 (by decide) (fun c42 => ?_) (fun c42 => ?_)
            · -- taken
              have hne : ¬ (fs i = s1 ∧ fp i = p1 ∧ fo i = o1) := fun q => c42 q.2.2
              refine lv_iinc (v := nI (i + 1)) (lv' := [(4, .int (nI (i + 1))), (0, .ref q0), (1, .int s1), (2, .int p1), (3, .int o1)]) hx hb dP_rowOf_48 hl (k := 4) rfl (nI_1 i) (by decide) rfl (fun ls hl => ?_)
              refine lv_goto (tgt := 3) hx hb dP_rowOf_51 (by decide) ?_
              exact ih3 (i + 1) (by omega) (fun j h => by
                by_cases q : j = i
                · rw [q]; exact hne
                · exact hno j (by omega)) (by omega) _ _ hP hD hS ls (lv_sub hl [1, 2, 3, 4, 0] rfl)
            · -- not taken
              refine lv_iload hx hb dP_rowOf_45 (lv_at hl 4 rfl) ?_
              exact zz_iretW (v := nI i) (w1 := fun u : ((Nat → Int32) × (Nat → Int32) × (Nat → Int32) × Nat) => [(q0, .inr (1, [.ref q1, .ref q2, .ref q3, .int (nI u.2.2.2)])), (q1, .inl (cI, 30, .inl u.1)), (q2, .inl (cI, 30, .inl u.2.1)), (q3, .inl (cI, 30, .inl u.2.2.1))]) (fs, fp, fo, n) hx hb hr hlocks (Or.inl ⟨i, by omega, ⟨c20, c31, c42⟩, hno, rfl, rfl⟩) hP hK hD hS dP_rowOf_47
  exact lp3 ((n - 0) + 1) 0 (Nat.zero_le _) (fun j h => absurd h (Nat.not_lt_zero _)) (Nat.lt_succ_self _) s.heap _ hP hD hS ls (lv_sub hl [1, 2, 3, 4, 0] rfl)

abbrev rm_V_ended : Room := { frames := 0, cells := 0, slots := 0, locals := 0 }
set_option maxHeartbeats 4000000 in
set_option maxRecDepth 100000 in
theorem c_V_ended (l : Launch) (D : va_G) (cI cB : ClassId) (q0 q1 : Nat) (z : Nat → Int32) (k e : Nat) (hke : k ≤ e) (he : e < 1000) : Met l yV_ended wV_ended rm_V_ended (zz_R D vwCl [(cI, .int), (cB, .boolean)] [.ref q0] [(q0, .inr (2, [.ref q1, .int (nI k), .int (nI e)])), (q1, .inl (cI, 320, .inl z))]) (vp_Si (fun r : Int32 => r = nI e)) 0 0 (fun _ => False) := by
  refine Met.ofW (cc := cV_ended) (maxL := 1) (ret := (some .int)) (by decide) rfl ?_
  intro pg ev s mt args below meth kd s₁ B hml hv
  obtain ⟨rfl, hP, hK, hN⟩ := hv
  have hx := B.exec
  have hb := B.bytes
  have hr := B.returns
  have ht : ∀ w ∈ W0, w.before _ s = true := fun w h => atoms_spec (ws := wV_ended) B.pre w (List.mem_cons_of_mem _ h)
  have hown : s.vm.findClass "StatRows$VersionRow" = some mt.cls := findClass_of_methodNamed B.named
  have hlocks := B.notSynchronized
  have hl := lv_entry ([.ref q0]) (n := 1) (Nat.le_of_ble_eq_true rfl)
  rw [lg_entry_eq]
  generalize (lg_sl ([.ref q0]) ++ List.replicate (1 - (lg_sl ([.ref q0])).length) Slot.unset).toArray = ls at hl ⊢
  have hl : lv_has ls 1 [(0, .ref q0)] := hl
  refine lv_aload_n hx hb dV_ended_0 rfl (lv_at hl 0 rfl) ?_
  refine va_get (D := D) (ci := 2) (v := .int (nI e)) (C := "StatRows$VersionRow") (T := TV) (N := 3) hx hb ht inV hown hK hP 0 rfl rfl 2 (by decide) (ht _ wd59) (fun _ h9 => h9) rfl dV_ended_1 ?_
  exact zz_iretR (v := nI e) hx hb hr hlocks (rfl) dV_ended_4

abbrev rm_V_kept : Room := { frames := 0, cells := 0, slots := 0, locals := 0 }
set_option maxHeartbeats 4000000 in
set_option maxRecDepth 100000 in
theorem c_V_kept (l : Launch) (D : va_G) (cI cB : ClassId) (q0 q1 : Nat) (z : Nat → Int32) (k e : Nat) (hke : k ≤ e) (he : e < 1000) : Met l yV_kept wV_kept rm_V_kept (zz_R D vwCl [(cI, .int), (cB, .boolean)] [.ref q0] [(q0, .inr (2, [.ref q1, .int (nI k), .int (nI e)])), (q1, .inl (cI, 320, .inl z))]) (vp_Si (fun r : Int32 => r = nI (e - k))) 0 0 (fun _ => False) := by
  refine Met.ofW (cc := cV_kept) (maxL := 1) (ret := (some .int)) (by decide) rfl ?_
  intro pg ev s mt args below meth kd s₁ B hml hv
  obtain ⟨rfl, hP, hK, hN⟩ := hv
  have hx := B.exec
  have hb := B.bytes
  have hr := B.returns
  have ht : ∀ w ∈ W0, w.before _ s = true := fun w h => atoms_spec (ws := wV_kept) B.pre w (List.mem_cons_of_mem _ h)
  have hown : s.vm.findClass "StatRows$VersionRow" = some mt.cls := findClass_of_methodNamed B.named
  have hlocks := B.notSynchronized
  have hl := lv_entry ([.ref q0]) (n := 1) (Nat.le_of_ble_eq_true rfl)
  rw [lg_entry_eq]
  generalize (lg_sl ([.ref q0]) ++ List.replicate (1 - (lg_sl ([.ref q0])).length) Slot.unset).toArray = ls at hl ⊢
  have hl : lv_has ls 1 [(0, .ref q0)] := hl
  refine lv_aload_n hx hb dV_kept_0 rfl (lv_at hl 0 rfl) ?_
  refine va_get (D := D) (ci := 2) (v := .int (nI e)) (C := "StatRows$VersionRow") (T := TV) (N := 3) hx hb ht inV hown hK hP 0 rfl rfl 2 (by decide) (ht _ wd59) (fun _ h9 => h9) rfl dV_kept_1 ?_
  refine lv_aload_n hx hb dV_kept_4 rfl (lv_at hl 0 rfl) ?_
  refine va_get (D := D) (ci := 2) (v := .int (nI k)) (C := "StatRows$VersionRow") (T := TV) (N := 3) hx hb ht inV hown hK hP 0 rfl rfl 1 (by decide) (ht _ wd58) (fun _ h9 => h9) rfl dV_kept_5 ?_
  refine lv_isub hx hb dV_kept_8 ?_
  refine zz_top (y := nI (e - k)) (pk_sub (a := e) (b := k) (by omega)) ?_
  exact zz_iretR (v := nI (e - k)) hx hb hr hlocks (rfl) dV_kept_9

abbrev rm_V_hasEnded : Room := { frames := 0, cells := 0, slots := 0, locals := 0 }
set_option maxHeartbeats 4000000 in
set_option maxRecDepth 100000 in
theorem c_V_hasEnded (l : Launch) (D : va_G) (cI cB : ClassId) (q0 q1 : Nat) (z : Nat → Int32) (k e : Nat) (hke : k ≤ e) (he : e < 1000) (x : Int32) : Met l yV_hasEnded wV_hasEnded rm_V_hasEnded (zz_R D vwCl [(cI, .int), (cB, .boolean)] [.ref q0, .int x] [(q0, .inr (2, [.ref q1, .int (nI k), .int (nI e)])), (q1, .inl (cI, 320, .inl z))]) (vp_Si (fun r : Int32 => r = nI (decide (¬ x < 0 ∧ ¬ nI e ≤ x)).toNat)) 0 0 (fun _ => False) := by
  refine Met.ofW (cc := cV_hasEnded) (maxL := 2) (ret := (some .boolean)) (by decide) rfl ?_
  intro pg ev s mt args below meth kd s₁ B hml hv
  obtain ⟨rfl, hP, hK, hN⟩ := hv
  have hx := B.exec
  have hb := B.bytes
  have hr := B.returns
  have ht : ∀ w ∈ W0, w.before _ s = true := fun w h => atoms_spec (ws := wV_hasEnded) B.pre w (List.mem_cons_of_mem _ h)
  have hown : s.vm.findClass "StatRows$VersionRow" = some mt.cls := findClass_of_methodNamed B.named
  have hlocks := B.notSynchronized
  have hl := lv_entry ([.ref q0, .int x]) (n := 2) (Nat.le_of_ble_eq_true rfl)
  rw [lg_entry_eq]
  generalize (lg_sl ([.ref q0, .int x]) ++ List.replicate (2 - (lg_sl ([.ref q0, .int x])).length) Slot.unset).toArray = ls at hl ⊢
  have hl : lv_has ls 2 [(0, .ref q0), (1, .int x)] := hl
  refine lv_iload_n hx hb dV_hasEnded_0 rfl (lv_at hl 1 rfl) ?_
  refine lv_if_lt (tgt := 16) hx hb dV_hasEnded_1 (by decide) (fun c1 => ?_) (fun c1 => ?_)
  · -- taken
    have hs : decide (¬ x < 0 ∧ ¬ nI e ≤ x) = false := decide_eq_false (fun q => q.1 c1)
    refine lv_iconst (v := nI 0) hx hb dV_hasEnded_16 (by decide) ?_
    exact zz_zretR (v := nI 0) hx hb hr hlocks (by decide) (by rw [hs]; rfl) dV_hasEnded_17
  · -- not taken
    refine lv_iload_n hx hb dV_hasEnded_4 rfl (lv_at hl 1 rfl) ?_
    refine lv_aload_n hx hb dV_hasEnded_5 rfl (lv_at hl 0 rfl) ?_
    refine va_get (D := D) (ci := 2) (v := .int (nI e)) (C := "StatRows$VersionRow") (T := TV) (N := 3) hx hb ht inV hown hK hP 0 rfl rfl 2 (by decide) (ht _ wd59) (fun _ h9 => h9) rfl dV_hasEnded_6 ?_
    refine lv_icmp_ge (tgt := 16) hx hb dV_hasEnded_9 (by decide) (fun c9 => ?_) (fun c9 => ?_)
    · -- taken
      have hs : decide (¬ x < 0 ∧ ¬ nI e ≤ x) = false := decide_eq_false (fun q => q.2 c9)
      refine lv_iconst (v := nI 0) hx hb dV_hasEnded_16 (by decide) ?_
      exact zz_zretR (v := nI 0) hx hb hr hlocks (by decide) (by rw [hs]; rfl) dV_hasEnded_17
    · -- not taken
      have hs : decide (¬ x < 0 ∧ ¬ nI e ≤ x) = true := decide_eq_true ⟨c1, c9⟩
      refine lv_iconst (v := nI 1) hx hb dV_hasEnded_12 (by decide) ?_
      refine lv_goto (tgt := 17) hx hb dV_hasEnded_13 (by decide) ?_
      exact zz_zretR (v := nI 1) hx hb hr hlocks (by decide) (by rw [hs]; rfl) dV_hasEnded_17

abbrev rm_V_place : Room := { frames := 0, cells := 0, slots := 0, locals := 0 }
set_option maxHeartbeats 4000000 in
set_option maxRecDepth 100000 in
theorem c_V_place (l : Launch) (pp v : Nat) (hp : pp < 8) (hv : v < 1000) : Met l yV_place wV_place rm_V_place (zz_N [.int (nI pp), .int (nI v)]) (vp_Si (fun r : Int32 => r = nI (v % 40 * 8 + pp))) 0 0 (fun _ => False) := by
  refine Met.ofW (cc := cV_place) (maxL := 2) (ret := (some .int)) (by decide) rfl ?_
  intro pg ev s mt args below meth kd s₁ B hml hv
  have hv : args = _ := hv
  subst hv
  have hx := B.exec
  have hb := B.bytes
  have hr := B.returns
  have ht : ∀ w ∈ W0, w.before _ s = true := fun w h => atoms_spec (ws := wV_place) B.pre w (List.mem_cons_of_mem _ h)
  have hown : s.vm.findClass "StatRows$VersionRow" = some mt.cls := findClass_of_methodNamed B.named
  have hlocks := B.notSynchronized
  have hl := lv_entry ([.int (nI pp), .int (nI v)]) (n := 2) (Nat.le_of_ble_eq_true rfl)
  rw [lg_entry_eq]
  generalize (lg_sl ([.int (nI pp), .int (nI v)]) ++ List.replicate (2 - (lg_sl ([.int (nI pp), .int (nI v)])).length) Slot.unset).toArray = ls at hl ⊢
  have hl : lv_has ls 2 [(0, .int (nI pp)), (1, .int (nI v))] := hl
  refine lv_iload_n hx hb dV_place_0 rfl (lv_at hl 1 rfl) ?_
  refine lv_bipush (v := nI 40) hx hb dV_place_1 (by decide) ?_
  refine lv_irem hx hb dV_place_3 (by decide) ?_
  refine zz_top (y := nI (v % 40)) (pk_rem (a := v) (d := 40) (by omega) (by omega) (by omega)) ?_
  refine lv_bipush (v := nI 8) hx hb dV_place_4 (by decide) ?_
  refine lv_imul hx hb dV_place_6 ?_
  refine zz_top (y := nI ((v % 40) * 8)) (pk_mul (v % 40) 8) ?_
  refine lv_iload_n hx hb dV_place_7 rfl (lv_at hl 0 rfl) ?_
  refine lv_iadd hx hb dV_place_8 ?_
  refine zz_top (y := nI (((v % 40) * 8) + pp)) (nI_add ((v % 40) * 8) pp) ?_
  exact zz_iretR (v := nI (((v % 40) * 8) + pp)) hx hb hr hlocks (rfl) dV_place_9

abbrev rm_V_sizeAt : Room := { frames := 1, cells := 0, slots := 0, locals := 21 }
set_option maxHeartbeats 4000000 in
set_option maxRecDepth 100000 in
theorem c_V_sizeAt (l : Launch) (D : va_G) (cI cB : ClassId) (q0 q1 : Nat) (z : Nat → Int32) (k e : Nat) (hke : k ≤ e) (he : e < 1000) (pp : Nat) (hp : pp < 8) (x : Int32) : Met l yV_sizeAt wV_sizeAt rm_V_sizeAt (zz_R D vwCl [(cI, .int), (cB, .boolean)] [.ref q0, .int (nI pp), .int x] [(q0, .inr (2, [.ref q1, .int (nI k), .int (nI e)])), (q1, .inl (cI, 320, .inl z))]) (vp_Si (fun r : Int32 => (¬ (¬ x < 0 ∧ ¬ nI e ≤ x) ∧ r = -1) ∨ ∃ v, v < e ∧ x = nI v ∧ r = if v < k then -2 else z (v % 40 * 8 + pp))) 0 0 (fun _ => False) := by
  refine Met.ofW (cc := cV_sizeAt) (maxL := 3) (ret := (some .int)) (by decide) rfl ?_
  intro pg ev s mt args below meth kd s₁ B hml hv
  obtain ⟨rfl, hP, hK, hN⟩ := hv
  have hx := B.exec
  have hb := B.bytes
  have hr := B.returns
  have ht : ∀ w ∈ W0, w.before _ s = true := fun w h => atoms_spec (ws := wV_sizeAt) B.pre w (List.mem_cons_of_mem _ h)
  have hown : s.vm.findClass "StatRows$VersionRow" = some mt.cls := findClass_of_methodNamed B.named
  have hlocks := B.notSynchronized
  have hl := lv_entry ([.ref q0, .int (nI pp), .int x]) (n := 3) (Nat.le_of_ble_eq_true rfl)
  rw [lg_entry_eq]
  generalize (lg_sl ([.ref q0, .int (nI pp), .int x]) ++ List.replicate (3 - (lg_sl ([.ref q0, .int (nI pp), .int x])).length) Slot.unset).toArray = ls at hl ⊢
  have hl : lv_has ls 3 [(0, .ref q0), (1, .int (nI pp)), (2, .int x)] := hl
  have b1 := btl (decide (¬ x < 0 ∧ ¬ nI e ≤ x))
  refine lv_aload_n hx hb dV_sizeAt_0 rfl (lv_at hl 0 rfl) ?_
  refine lv_iload_n hx hb dV_sizeAt_1 rfl (lv_at hl 2 rfl) ?_
  refine zz_ci (v := nI ((decide (¬ x < 0 ∧ ¬ nI e ≤ x)).toNat)) (W.runV (As := [.int x]) (rest := []) ⟨hx, hb, hml, hown, ht⟩ (c_V_hasEnded l D cI cB q0 q1 z k e hke he x) (cwV 1 ht (gd_V wd356 wd358 wp15 wd4 wd359) rfl rfl rfl (by decide +kernel) ⟨Nat.le_of_ble_eq_true rfl, Nat.le_of_ble_eq_true rfl⟩) (zz_R_V hN hK (hP.sub (ws' := [(q0, .inr (2, [.ref q1, .int (nI k), .int (nI e)])), (q1, .inl (cI, 320, .inl z))]) [0, 1] rfl) 2 0 rfl rfl) rfl rfl hl.1 rfl (lv_room (Nat.le_of_ble_eq_true rfl)) dV_sizeAt_2 ⟨Nat.le_of_ble_eq_true rfl, Nat.le_of_ble_eq_true rfl⟩) ?_
  refine lv_if_ne (tgt := 10) hx hb dV_sizeAt_5 (by decide) (fun c5 => ?_) (fun c5 => ?_)
  · -- taken
    have c5 : ¬ ((decide (¬ x < 0 ∧ ¬ nI e ≤ x)).toNat = 0) := fun h => c5 ((nI_eq (a := (decide (¬ x < 0 ∧ ¬ nI e ≤ x)).toNat) (b := 0) (by omega) (by omega)).mpr h)
    have hin := of_decide_eq_true (bt1 c5)
    obtain ⟨v, hv, ex⟩ := zz_in (n := e) (by omega) hin.1 hin.2
    rw [ex] at hl
    refine lv_iload_n hx hb dV_sizeAt_10 rfl (lv_at hl 2 rfl) ?_
    refine lv_aload_n hx hb dV_sizeAt_11 rfl (lv_at hl 0 rfl) ?_
    refine va_get (D := D) (ci := 2) (v := .int (nI k)) (C := "StatRows$VersionRow") (T := TV) (N := 3) hx hb ht inV hown hK hP 0 rfl rfl 1 (by decide) (ht _ wd58) (fun _ h9 => h9) rfl dV_sizeAt_12 ?_
    refine lv_icmp_ge (tgt := 23) hx hb dV_sizeAt_15 (by decide) (fun c15 => ?_) (fun c15 => ?_)
    · -- taken
      have c15 : k ≤ v := (nI_leI (a := k) (b := v) (by omega) (by omega)).mp c15
      refine lv_aload_n hx hb dV_sizeAt_23 rfl (lv_at hl 0 rfl) ?_
      refine va_get (D := D) (ci := 2) (v := .ref q1) (C := "StatRows$VersionRow") (T := TV) (N := 3) hx hb ht inV hown hK hP 0 rfl rfl 0 (by decide) (ht _ wd57) (fun _ h9 => h9) rfl dV_sizeAt_24 ?_
      refine lv_iload_n hx hb dV_sizeAt_27 rfl (lv_at hl 1 rfl) ?_
      refine lv_iload_n hx hb dV_sizeAt_28 rfl (lv_at hl 2 rfl) ?_
      refine zz_ci (v := nI (v % 40 * 8 + pp)) (W.runS (As := [.int (nI pp), .int (nI v)]) (rest := [.ref q1]) ⟨hx, hb, hml, hown, ht⟩ (c_V_place l pp v hp (by omega)) (va_cwS 2 ht (gd_S wd344 wd345 wd4 wd346) rfl rfl rfl (by decide +kernel) ⟨Nat.le_of_ble_eq_true rfl, Nat.le_of_ble_eq_true rfl⟩) zz_N_S rfl rfl hl.1 rfl (lv_room (Nat.le_of_ble_eq_true rfl)) dV_sizeAt_29 ⟨Nat.le_of_ble_eq_true rfl, Nat.le_of_ble_eq_true rfl⟩) ?_
      refine zz_iald (k := v % 40 * 8 + pp) hx hb hK hP 1 0 rfl rfl (by omega) (by decide) dV_sizeAt_32 ?_
      exact zz_iretR (v := z (v % 40 * 8 + pp)) hx hb hr hlocks (Or.inr ⟨v, hv, ex, (if_neg (by omega)).symm⟩) dV_sizeAt_33
    · -- not taken
      have c15 : ¬ (k ≤ v) := fun h => c15 ((nI_leI (a := k) (b := v) (by omega) (by omega)).mpr h)
      refine lv_bipush (v := (-2)) hx hb dV_sizeAt_18 (by decide) ?_
      refine lv_goto (tgt := 33) hx hb dV_sizeAt_20 (by decide) ?_
      exact zz_iretR (v := (-2)) hx hb hr hlocks (Or.inr ⟨v, hv, ex, (if_pos (by omega)).symm⟩) dV_sizeAt_33
  · -- not taken
    have c5 : (decide (¬ x < 0 ∧ ¬ nI e ≤ x)).toNat = 0 := (nI_eq (a := (decide (¬ x < 0 ∧ ¬ nI e ≤ x)).toNat) (b := 0) (by omega) (by omega)).mp c5
    have hin := of_decide_eq_false (bt0 (by omega))
    refine lv_iconst (v := (-1)) hx hb dV_sizeAt_8 (by decide) ?_
    exact zz_iretR (v := (-1)) hx hb hr hlocks (Or.inl ⟨hin, rfl⟩) dV_sizeAt_9

abbrev rm_V_forgetBelow : Room := { frames := 1, cells := 0, slots := 0, locals := 32 }
set_option maxHeartbeats 4000000 in
set_option maxRecDepth 100000 in
theorem c_V_forgetBelow (l : Launch) (D : va_G) (cI cB : ClassId) (sz : Nat) (q0 q1 : Nat) (z : Nat → Int32) (k e : Nat) (hke : k ≤ e) (he : e < 1000) (x : Int32) : Met l yV_forgetBelow wV_forgetBelow rm_V_forgetBelow (zz_P D vwCl [(cI, .int), (cB, .boolean)] [.ref q0, .int x] [(q0, .inr (2, [.ref q1, .int (nI k), .int (nI e)])), (q1, .inl (cI, 320, .inl z))] sz) (va_Qi (fun (r : Int32) (u : Nat) => (¬ (¬ x < 0 ∧ ¬ nI e ≤ x) ∧ r = -1 ∧ u = k) ∨ ∃ v, v < e ∧ x = nI v ∧ r = nI (v - k) ∧ u = k + (v - k)) (fun u : Nat => zz_B D vwCl [(cI, .int), (cB, .boolean)] (va_A [(q0, .inr (2, [.ref q1, .int (nI k), .int (nI e)])), (q1, .inl (cI, 320, .inl z))] sz) [(q0, .inr (2, [.ref q1, .int (nI u), .int (nI e)])), (q1, .inl (cI, 320, .inl z))]) (va_A [(q0, .inr (2, [.ref q1, .int (nI k), .int (nI e)])), (q1, .inl (cI, 320, .inl z))] sz)) 0 0 (va_A [(q0, .inr (2, [.ref q1, .int (nI k), .int (nI e)])), (q1, .inl (cI, 320, .inl z))] sz) := by
  refine Met.ofW (cc := cV_forgetBelow) (maxL := 3) (ret := (some .int)) (by decide) rfl ?_
  intro pg ev s mt args below meth kd s₁ B hml hv
  obtain ⟨rfl, hsz, hP, hK, hD0, hN⟩ := hv
  have hx := B.exec
  have hb := B.bytes
  have hr := B.returns
  have ht : ∀ w ∈ W0, w.before _ s = true := fun w h => atoms_spec (ws := wV_forgetBelow) B.pre w (List.mem_cons_of_mem _ h)
  have hown : s.vm.findClass "StatRows$VersionRow" = some mt.cls := findClass_of_methodNamed B.named
  have hlocks := B.notSynchronized
  subst hsz
  have hD := hD0.self (sz := s.heap.size)
  generalize hAe : va_A [(q0, .inr (2, [.ref q1, .int (nI k), .int (nI e)])), (q1, .inl (cI, 320, .inl z))] s.heap.size = A at hD ⊢
  have hA : ∀ q : Nat, s.heap.size ≤ q → A q := fun q h => by rw [← hAe]; exact Or.inr h
  have hS : va_S A s.heap s.heap [] := va_S.rf
  have hP : va_P D vwCl [(q0, .inr (2, [.ref q1, .int (nI k), .int (nI e)])), (q1, .inl (cI, 320, .inl z))] s.heap := hP
  have hl := lv_entry ([.ref q0, .int x]) (n := 3) (Nat.le_of_ble_eq_true rfl)
  rw [lg_entry_eq]
  generalize (lg_sl ([.ref q0, .int x]) ++ List.replicate (3 - (lg_sl ([.ref q0, .int x])).length) Slot.unset).toArray = ls at hl ⊢
  have hl : lv_has ls 3 [(0, .ref q0), (1, .int x)] := hl
  have b1 := btl (decide (¬ x < 0 ∧ ¬ nI e ≤ x))
  refine lv_aload_n hx hb dV_forgetBelow_0 rfl (lv_at hl 0 rfl) ?_
  refine lv_iload_n hx hb dV_forgetBelow_1 rfl (lv_at hl 1 rfl) ?_
  refine zz_ci (v := nI ((decide (¬ x < 0 ∧ ¬ nI e ≤ x)).toNat)) (W.runV (As := [.int x]) (rest := []) ⟨hx, hb, hml, hown, ht⟩ (c_V_hasEnded l D cI cB q0 q1 z k e hke he x) (cwV 1 ht (gd_V wd356 wd358 wp15 wd4 wd359) rfl rfl rfl (by decide +kernel) ⟨Nat.le_of_ble_eq_true rfl, Nat.le_of_ble_eq_true rfl⟩) (zz_R_V hN hK (hP.sub (ws' := [(q0, .inr (2, [.ref q1, .int (nI k), .int (nI e)])), (q1, .inl (cI, 320, .inl z))]) [0, 1] rfl) 2 0 rfl rfl) rfl rfl hl.1 rfl (lv_room (Nat.le_of_ble_eq_true rfl)) dV_forgetBelow_2 ⟨Nat.le_of_ble_eq_true rfl, Nat.le_of_ble_eq_true rfl⟩) ?_
  refine lv_if_ne (tgt := 10) hx hb dV_forgetBelow_5 (by decide) (fun c5 => ?_) (fun c5 => ?_)
  · -- taken
    have c5 : ¬ ((decide (¬ x < 0 ∧ ¬ nI e ≤ x)).toNat = 0) := fun h => c5 ((nI_eq (a := (decide (¬ x < 0 ∧ ¬ nI e ≤ x)).toNat) (b := 0) (by omega) (by omega)).mpr h)
    have hin := of_decide_eq_true (bt1 c5)
    obtain ⟨v, hv, ex⟩ := zz_in (n := e) (by omega) hin.1 hin.2
    rw [ex] at hl
    refine lv_iconst (v := nI 0) hx hb dV_forgetBelow_10 (by decide) ?_
    refine lv_iload_n hx hb dV_forgetBelow_11 rfl (lv_at hl 1 rfl) ?_
    refine lv_aload_n hx hb dV_forgetBelow_12 rfl (lv_at hl 0 rfl) ?_
    refine va_get (D := D) (ci := 2) (v := .int (nI k)) (C := "StatRows$VersionRow") (T := TV) (N := 3) hx hb ht inV hown hK hP 0 rfl rfl 1 (by decide) (ht _ wd58) (fun _ h9 => h9) rfl dV_forgetBelow_13 ?_
    refine lv_isub hx hb dV_forgetBelow_16 ?_
    refine zz_top (y := nI v - nI k) (rfl) ?_
    refine va_mmax (x := nI 0) (y := nI v - nI k) hx hb (hml.trans hl.1.symm) hown (ht _ wd368) (ht _ wd252) (ht _ wd9) (ht _ wd253) (Nat.le_of_ble_eq_true rfl) (Nat.le_of_ble_eq_true rfl) (Nat.le_of_ble_eq_true rfl) (Nat.le_of_ble_eq_true rfl) dV_forgetBelow_17 ?_
    refine zz_top (y := nI (v - k)) (vmax (by omega) (by omega)) ?_
    refine lv_istore_n (lv' := [(2, .int (nI (v - k))), (0, .ref q0), (1, .int (nI v))]) hx hb dV_forgetBelow_20 rfl hl (by decide) rfl (fun ls hl => ?_)
    refine lv_aload_n hx hb dV_forgetBelow_21 rfl (lv_at hl 1 rfl) ?_
    refine lv_dup hx hb dV_forgetBelow_22 rfl ?_
    refine va_get (D := D) (ci := 2) (v := .int (nI k)) (C := "StatRows$VersionRow") (T := TV) (N := 3) hx hb ht inV hown hK hP 0 rfl rfl 1 (by decide) (ht _ wd58) (fun _ h9 => h9) rfl dV_forgetBelow_23 ?_
    refine lv_iload_n hx hb dV_forgetBelow_26 rfl (lv_at hl 0 rfl) ?_
    refine lv_iadd hx hb dV_forgetBelow_27 ?_
    refine zz_top (y := nI (k + (v - k))) (nI_add k (v - k)) ?_
    refine va_put (D := D) (ci := 2) (v := .int (nI (k + (v - k)))) (ty := .int) (C := "StatRows$VersionRow") (T := TV) (N := 3) hx hb ht inV tyV okV nmV hown hK hP hD hS 0 rfl rfl 1 (by decide) (ht _ wd58) (fun _ h9 => h9) rfl (by decide +kernel) rfl rfl (Nat.le_of_ble_eq_true rfl) dV_forgetBelow_28 (fun H locs hP hD hS => ?_)
    have hP : va_P D vwCl [(q0, .inr (2, [.ref q1, .int (nI (k + (v - k))), .int (nI e)])), (q1, .inl (cI, 320, .inl z))] H := hP
    have hD : va_D A [(q0, .inr (2, [.ref q1, .int (nI (k + (v - k))), .int (nI e)])), (q1, .inl (cI, 320, .inl z))] := hD
    refine lv_iload_n hx hb dV_forgetBelow_31 rfl (lv_at hl 0 rfl) ?_
    exact zz_iretW (v := nI (v - k)) (w1 := fun u : Nat => [(q0, .inr (2, [.ref q1, .int (nI u), .int (nI e)])), (q1, .inl (cI, 320, .inl z))]) (k + (v - k)) hx hb hr hlocks (Or.inr ⟨v, hv, ex, rfl, rfl⟩) hP hK hD hS dV_forgetBelow_32
  · -- not taken
    have c5 : (decide (¬ x < 0 ∧ ¬ nI e ≤ x)).toNat = 0 := (nI_eq (a := (decide (¬ x < 0 ∧ ¬ nI e ≤ x)).toNat) (b := 0) (by omega) (by omega)).mp c5
    have hin := of_decide_eq_false (bt0 (by omega))
    refine lv_iconst (v := (-1)) hx hb dV_forgetBelow_8 (by decide) ?_
    exact zz_iretW (v := (-1)) (w1 := fun u : Nat => [(q0, .inr (2, [.ref q1, .int (nI u), .int (nI e)])), (q1, .inl (cI, 320, .inl z))]) k hx hb hr hlocks (Or.inl ⟨hin, rfl, rfl⟩) hP hK hD hS dV_forgetBelow_9

abbrev rm_V_finish : Room := { frames := 2, cells := 0, slots := 0, locals := 42 }
set_option maxHeartbeats 4000000 in
set_option maxRecDepth 100000 in
theorem c_V_finish (l : Launch) (D : va_G) (cI cB : ClassId) (sz : Nat) (q0 q1 : Nat) (z : Nat → Int32) (k e : Nat) (hke : k ≤ e) (he : e < 1000) (q5 q6 q7 : Nat) (f g : Nat → Int32) (Ls : Nat → List Nat) (hT : RT Ls f g) : Met l yV_finish wV_finish rm_V_finish (zz_P D vwCl [(cI, .int), (cB, .boolean)] [.ref q0, .ref q5] [(q0, .inr (2, [.ref q1, .int (nI k), .int (nI e)])), (q1, .inl (cI, 320, .inl z)), (q5, .inr (0, [.ref q6, .ref q7])), (q6, .inl (cI, 400, .inl f)), (q7, .inl (cI, 9, .inl g))] sz) (va_Qi (fun (r : Int32) (u : ((Nat → Int32) × Nat)) => (40 ≤ e - k ∧ r = -3 ∧ u = (z, e)) ∨ (e - k < 40 ∧ r = nI e ∧ u.2 = e + 1 ∧ ∀ j, j < 320 → u.1 j = if e % 40 * 8 ≤ j ∧ j < e % 40 * 8 + 8 then nI (Ls (j - e % 40 * 8)).length else z j)) (fun u : ((Nat → Int32) × Nat) => zz_B D vwCl [(cI, .int), (cB, .boolean)] (va_A [(q0, .inr (2, [.ref q1, .int (nI k), .int (nI e)])), (q1, .inl (cI, 320, .inl z)), (q5, .inr (0, [.ref q6, .ref q7])), (q6, .inl (cI, 400, .inl f)), (q7, .inl (cI, 9, .inl g))] sz) [(q0, .inr (2, [.ref q1, .int (nI k), .int (nI u.2)])), (q1, .inl (cI, 320, .inl u.1)), (q5, .inr (0, [.ref q6, .ref q7])), (q6, .inl (cI, 400, .inl f)), (q7, .inl (cI, 9, .inl g))]) (va_A [(q0, .inr (2, [.ref q1, .int (nI k), .int (nI e)])), (q1, .inl (cI, 320, .inl z)), (q5, .inr (0, [.ref q6, .ref q7])), (q6, .inl (cI, 400, .inl f)), (q7, .inl (cI, 9, .inl g))] sz)) 0 0 (va_A [(q0, .inr (2, [.ref q1, .int (nI k), .int (nI e)])), (q1, .inl (cI, 320, .inl z)), (q5, .inr (0, [.ref q6, .ref q7])), (q6, .inl (cI, 400, .inl f)), (q7, .inl (cI, 9, .inl g))] sz) := by
  refine Met.ofW (cc := cV_finish) (maxL := 3) (ret := (some .int)) (by decide) rfl ?_
  intro pg ev s mt args below meth kd s₁ B hml hv
  obtain ⟨rfl, hsz, hP, hK, hD0, hN⟩ := hv
  have hx := B.exec
  have hb := B.bytes
  have hr := B.returns
  have ht : ∀ w ∈ W0, w.before _ s = true := fun w h => atoms_spec (ws := wV_finish) B.pre w (List.mem_cons_of_mem _ h)
  have hown : s.vm.findClass "StatRows$VersionRow" = some mt.cls := findClass_of_methodNamed B.named
  have hlocks := B.notSynchronized
  subst hsz
  have hD := hD0.self (sz := s.heap.size)
  generalize hAe : va_A [(q0, .inr (2, [.ref q1, .int (nI k), .int (nI e)])), (q1, .inl (cI, 320, .inl z)), (q5, .inr (0, [.ref q6, .ref q7])), (q6, .inl (cI, 400, .inl f)), (q7, .inl (cI, 9, .inl g))] s.heap.size = A at hD ⊢
  have hA : ∀ q : Nat, s.heap.size ≤ q → A q := fun q h => by rw [← hAe]; exact Or.inr h
  have hS : va_S A s.heap s.heap [] := va_S.rf
  have hP : va_P D vwCl [(q0, .inr (2, [.ref q1, .int (nI k), .int (nI e)])), (q1, .inl (cI, 320, .inl z)), (q5, .inr (0, [.ref q6, .ref q7])), (q6, .inl (cI, 400, .inl f)), (q7, .inl (cI, 9, .inl g))] s.heap := hP
  have hl := lv_entry ([.ref q0, .ref q5]) (n := 3) (Nat.le_of_ble_eq_true rfl)
  rw [lg_entry_eq]
  generalize (lg_sl ([.ref q0, .ref q5]) ++ List.replicate (3 - (lg_sl ([.ref q0, .ref q5])).length) Slot.unset).toArray = ls at hl ⊢
  have hl : lv_has ls 3 [(0, .ref q0), (1, .ref q5)] := hl
  refine lv_aload_n hx hb dV_finish_0 rfl (lv_at hl 0 rfl) ?_
  refine zz_ci (v := nI (e - k)) (W.runV (As := []) (rest := []) ⟨hx, hb, hml, hown, ht⟩ (c_V_kept l D cI cB q0 q1 z k e hke he) (cwV 0 ht (gd_V wd339 wd340 wd341 wd4 wd342) rfl rfl rfl (by decide +kernel) ⟨Nat.le_of_ble_eq_true rfl, Nat.le_of_ble_eq_true rfl⟩) (zz_R_V hN hK (hP.sub (ws' := [(q0, .inr (2, [.ref q1, .int (nI k), .int (nI e)])), (q1, .inl (cI, 320, .inl z))]) [0, 1] rfl) 2 0 rfl rfl) rfl rfl hl.1 rfl (lv_room (Nat.le_of_ble_eq_true rfl)) dV_finish_1 ⟨Nat.le_of_ble_eq_true rfl, Nat.le_of_ble_eq_true rfl⟩) ?_
  refine lv_bipush (v := nI 40) hx hb dV_finish_4 (by decide) ?_
  refine lv_icmp_ge (tgt := 18) hx hb dV_finish_6 (by decide) (fun c6 => ?_) (fun c6 => ?_)
  · -- taken
    have c6 : 40 ≤ e - k := (nI_leI (a := 40) (b := e - k) (by omega) (by omega)).mp c6
    refine lv_bipush (v := (-3)) hx hb dV_finish_18 (by decide) ?_
    exact zz_iretW (v := (-3)) (w1 := fun u : ((Nat → Int32) × Nat) => [(q0, .inr (2, [.ref q1, .int (nI k), .int (nI u.2)])), (q1, .inl (cI, 320, .inl u.1)), (q5, .inr (0, [.ref q6, .ref q7])), (q6, .inl (cI, 400, .inl f)), (q7, .inl (cI, 9, .inl g))]) (z, e) hx hb hr hlocks (Or.inl ⟨by omega, rfl, rfl⟩) hP hK hD hS dV_finish_20
  · -- not taken
    have c6 : ¬ (40 ≤ e - k) := fun h => c6 ((nI_leI (a := 40) (b := e - k) (by omega) (by omega)).mpr h)
    refine lv_aload_n hx hb dV_finish_9 rfl (lv_at hl 0 rfl) ?_
    refine va_get (D := D) (ci := 2) (v := .int (nI e)) (C := "StatRows$VersionRow") (T := TV) (N := 3) hx hb ht inV hown hK hP 0 rfl rfl 2 (by decide) (ht _ wd59) (fun _ h9 => h9) rfl dV_finish_10 ?_
    refine lv_ldc (v := 2147483647) hx hb hown (ht _ wd343) dV_finish_13 ?_
    refine lv_icmp_ne (tgt := 21) hx hb dV_finish_15 (by decide) (fun c15 => ?_) (fun c15 => ?_)
    · -- taken
      refine lv_iconst (v := nI 0) hx hb dV_finish_21 (by decide) ?_
      refine lv_istore_n (lv' := [(2, .int (nI 0)), (0, .ref q0), (1, .ref q5)]) hx hb dV_finish_22 rfl hl (by decide) rfl (fun ls hl => ?_)
      have lp23 : ∀ (fu : Nat) (i : Nat) (zz : Nat → Int32) (hi : i ≤ 8) (hz : ∀ j, j < 320 → zz j = if e % 40 * 8 ≤ j ∧ j < e % 40 * 8 + i then nI (Ls (j - e % 40 * 8)).length else z j) (hm : 8 - i < fu) (H : Heap) (locs : List Loc) (hP : va_P D vwCl [(q0, .inr (2, [.ref q1, .int (nI k), .int (nI e)])), (q1, .inl (cI, 320, .inl zz)), (q5, .inr (0, [.ref q6, .ref q7])), (q6, .inl (cI, 400, .inl f)), (q7, .inl (cI, 9, .inl g))] H) (hD : va_D A [(q0, .inr (2, [.ref q1, .int (nI k), .int (nI e)])), (q1, .inl (cI, 320, .inl zz)), (q5, .inr (0, [.ref q6, .ref q7])), (q6, .inl (cI, 400, .inl f)), (q7, .inl (cI, 9, .inl g))]) (hS : va_S A s.heap H locs) (ls : Array Slot) (hl : lv_has ls 3 [(0, .ref q0), (1, .ref q5), (2, .int (nI i))]), W pg l ev (headSpec wV_finish rm_V_finish).room s mt (([.ref q0, .ref q5] : List Value).toArray) below meth kd H locs 0 0 (MQ below (va_Qi (fun (r : Int32) (u : ((Nat → Int32) × Nat)) => (40 ≤ e - k ∧ r = -3 ∧ u = (z, e)) ∨ (e - k < 40 ∧ r = nI e ∧ u.2 = e + 1 ∧ ∀ j, j < 320 → u.1 j = if e % 40 * 8 ≤ j ∧ j < e % 40 * 8 + 8 then nI (Ls (j - e % 40 * 8)).length else z j)) (fun u : ((Nat → Int32) × Nat) => zz_B D vwCl [(cI, .int), (cB, .boolean)] A [(q0, .inr (2, [.ref q1, .int (nI k), .int (nI u.2)])), (q1, .inl (cI, 320, .inl u.1)), (q5, .inr (0, [.ref q6, .ref q7])), (q6, .inl (cI, 400, .inl f)), (q7, .inl (cI, 9, .inl g))]) A) (([.ref q0, .ref q5] : List Value).toArray) s 0 0 A) (F0 mt 23 ls []) := by
        intro fu
        induction fu with
        | zero => intro i zz hi hz hm; exact absurd hm (Nat.not_lt_zero _)
        | succ fu ih23 =>
          intro i zz hi hz hm H locs hP hD hS ls hl
          refine lv_iload_n hx hb dV_finish_23 rfl (lv_at hl 2 rfl) ?_
          refine lv_bipush (v := nI 8) hx hb dV_finish_24 (by decide) ?_
          refine lv_icmp_ge (tgt := 53) hx hb dV_finish_26 (by decide) (fun c26 => ?_) (fun c26 => ?_)
          · -- taken
            have c26 : 8 ≤ i := (nI_leI (a := 8) (b := i) (by omega) (by omega)).mp c26
            refine lv_aload_n hx hb dV_finish_53 rfl (lv_at hl 0 rfl) ?_
            refine lv_dup hx hb dV_finish_54 rfl ?_
            refine va_get (D := D) (ci := 2) (v := .int (nI e)) (C := "StatRows$VersionRow") (T := TV) (N := 3) hx hb ht inV hown hK hP 0 rfl rfl 2 (by decide) (ht _ wd59) (fun _ h9 => h9) rfl dV_finish_55 ?_
            refine lv_iconst (v := nI 1) hx hb dV_finish_58 (by decide) ?_
            refine lv_iadd hx hb dV_finish_59 ?_
            refine zz_top (y := nI (e + 1)) (nI_add e 1) ?_
            refine va_put (D := D) (ci := 2) (v := .int (nI (e + 1))) (ty := .int) (C := "StatRows$VersionRow") (T := TV) (N := 3) hx hb ht inV tyV okV nmV hown hK hP hD hS 0 rfl rfl 2 (by decide) (ht _ wd59) (fun _ h9 => h9) rfl (by decide +kernel) rfl rfl (Nat.le_of_ble_eq_true rfl) dV_finish_60 (fun H locs hP hD hS => ?_)
            have hP : va_P D vwCl [(q0, .inr (2, [.ref q1, .int (nI k), .int (nI (e + 1))])), (q1, .inl (cI, 320, .inl zz)), (q5, .inr (0, [.ref q6, .ref q7])), (q6, .inl (cI, 400, .inl f)), (q7, .inl (cI, 9, .inl g))] H := hP
            have hD : va_D A [(q0, .inr (2, [.ref q1, .int (nI k), .int (nI (e + 1))])), (q1, .inl (cI, 320, .inl zz)), (q5, .inr (0, [.ref q6, .ref q7])), (q6, .inl (cI, 400, .inl f)), (q7, .inl (cI, 9, .inl g))] := hD
            refine lv_aload_n hx hb dV_finish_63 rfl (lv_at hl 0 rfl) ?_
            refine va_get (D := D) (ci := 2) (v := .int (nI (e + 1))) (C := "StatRows$VersionRow") (T := TV) (N := 3) hx hb ht inV hown hK hP 0 rfl rfl 2 (by decide) (ht _ wd59) (fun _ h9 => h9) rfl dV_finish_64 ?_
            refine lv_iconst (v := nI 1) hx hb dV_finish_67 (by decide) ?_
            refine lv_isub hx hb dV_finish_68 ?_
            refine zz_top (y := nI ((e + 1) - 1)) (pk_sub (a := e + 1) (b := 1) (by omega)) ?_
            exact zz_iretW (v := nI ((e + 1) - 1)) (w1 := fun u : ((Nat → Int32) × Nat) => [(q0, .inr (2, [.ref q1, .int (nI k), .int (nI u.2)])), (q1, .inl (cI, 320, .inl u.1)), (q5, .inr (0, [.ref q6, .ref q7])), (q6, .inl (cI, 400, .inl f)), (q7, .inl (cI, 9, .inl g))]) (zz, e + 1) hx hb hr hlocks (Or.inr ⟨by omega, rfl, rfl, fun j hj => by
              have h := hz j hj
              rw [show i = 8 by omega] at h
              exact h⟩) hP hK hD hS dV_finish_69
          · -- not taken
            have c26 : ¬ (8 ≤ i) := fun h => c26 ((nI_leI (a := 8) (b := i) (by omega) (by omega)).mpr h)
            refine lv_aload_n hx hb dV_finish_29 rfl (lv_at hl 0 rfl) ?_
            refine va_get (D := D) (ci := 2) (v := .ref q1) (C := "StatRows$VersionRow") (T := TV) (N := 3) hx hb ht inV hown hK hP 0 rfl rfl 0 (by decide) (ht _ wd57) (fun _ h9 => h9) rfl dV_finish_30 ?_
            refine lv_iload_n hx hb dV_finish_33 rfl (lv_at hl 2 rfl) ?_
            refine lv_aload_n hx hb dV_finish_34 rfl (lv_at hl 0 rfl) ?_
            refine va_get (D := D) (ci := 2) (v := .int (nI e)) (C := "StatRows$VersionRow") (T := TV) (N := 3) hx hb ht inV hown hK hP 0 rfl rfl 2 (by decide) (ht _ wd59) (fun _ h9 => h9) rfl dV_finish_35 ?_
            refine zz_ci (v := nI (e % 40 * 8 + i)) (W.runS (As := [.int (nI i), .int (nI e)]) (rest := [.ref q1]) ⟨hx, hb, hml, hown, ht⟩ (c_V_place l i e (by omega) he) (va_cwS 2 ht (gd_S wd344 wd345 wd4 wd346) rfl rfl rfl (by decide +kernel) ⟨Nat.le_of_ble_eq_true rfl, Nat.le_of_ble_eq_true rfl⟩) zz_N_S rfl rfl hl.1 rfl (lv_room (Nat.le_of_ble_eq_true rfl)) dV_finish_38 ⟨Nat.le_of_ble_eq_true rfl, Nat.le_of_ble_eq_true rfl⟩) ?_
            refine lv_aload_n hx hb dV_finish_41 rfl (lv_at hl 1 rfl) ?_
            refine lv_iload_n hx hb dV_finish_42 rfl (lv_at hl 2 rfl) ?_
            refine zz_ci (v := nI (tr_off Ls i + (Ls i).length - tr_off Ls i)) (W.runV (As := [.int (nI i)]) (rest := [.int (nI (e % 40 * 8 + i)), .ref q1]) ⟨hx, hb, hml, hown, ht⟩ (c_T_sizeOf l D cI cB q5 q6 q7 f g i (tr_off Ls i) (tr_off Ls i + (Ls i).length) (by omega) (hT.1 i (by omega)) (hT.1 (i + 1) (by omega)) (by omega)) (cwV 1 ht (gd_V wd347 wd153 wd154 wd2 wd155) rfl rfl rfl (by decide +kernel) ⟨Nat.le_of_ble_eq_true rfl, Nat.le_of_ble_eq_true rfl⟩) (zz_R_V hN hK (hP.sub (ws' := [(q5, .inr (0, [.ref q6, .ref q7])), (q6, .inl (cI, 400, .inl f)), (q7, .inl (cI, 9, .inl g))]) [2, 3, 4] rfl) 0 0 rfl rfl) rfl rfl hl.1 rfl (lv_room (Nat.le_of_ble_eq_true rfl)) dV_finish_43 ⟨Nat.le_of_ble_eq_true rfl, Nat.le_of_ble_eq_true rfl⟩) ?_
            refine zz_iast (k := e % 40 * 8 + i) hx hb hK hP hD hS 1 0 rfl rfl (by omega) (by decide) dV_finish_46 (fun H locs hP hD hS => ?_)
            have hP : va_P D vwCl [(q0, .inr (2, [.ref q1, .int (nI k), .int (nI e)])), (q1, .inl (cI, 320, .inl (upd zz (e % 40 * 8 + i) (nI (tr_off Ls i + (Ls i).length - tr_off Ls i))))), (q5, .inr (0, [.ref q6, .ref q7])), (q6, .inl (cI, 400, .inl f)), (q7, .inl (cI, 9, .inl g))] H := hP
            have hD : va_D A [(q0, .inr (2, [.ref q1, .int (nI k), .int (nI e)])), (q1, .inl (cI, 320, .inl (upd zz (e % 40 * 8 + i) (nI (tr_off Ls i + (Ls i).length - tr_off Ls i))))), (q5, .inr (0, [.ref q6, .ref q7])), (q6, .inl (cI, 400, .inl f)), (q7, .inl (cI, 9, .inl g))] := hD
            refine lv_iinc (v := nI (i + 1)) (lv' := [(2, .int (nI (i + 1))), (0, .ref q0), (1, .ref q5)]) hx hb dV_finish_47 hl (k := 2) rfl (nI_1 i) (by decide) rfl (fun ls hl => ?_)
            refine lv_goto (tgt := 23) hx hb dV_finish_50 (by decide) ?_
            exact ih23 (i + 1) (upd zz (e % 40 * 8 + i) (nI (tr_off Ls i + (Ls i).length - tr_off Ls i))) (by omega) (fun j hj => by
              by_cases h : j = e % 40 * 8 + i
              · rw [h, pk_us, if_pos (by omega), show e % 40 * 8 + i - e % 40 * 8 = i by omega, show tr_off Ls i + (Ls i).length - tr_off Ls i = (Ls i).length by omega]
              · rw [pk_un h, hz j hj]; by_cases h2 : e % 40 * 8 ≤ j ∧ j < e % 40 * 8 + i
                · rw [if_pos h2, if_pos (by omega)]
                · rw [if_neg h2, if_neg (by omega)]) (by omega) _ _ hP hD hS ls (lv_sub hl [1, 2, 0] rfl)
      exact lp23 ((8 - 0) + 1) 0 z (Nat.zero_le _) (fun j hj => by rw [if_neg (by omega)]) (Nat.lt_succ_self _) s.heap _ hP hD hS ls (lv_sub hl [1, 2, 0] rfl)
    · -- not taken
      exact absurd c15 (by
        intro q
        have a := congrArg Int32.toInt q
        rw [nI_toInt (by omega)] at a
        have b : (2147483647 : Int32).toInt = 2147483647 := rfl
        omega)

abbrev rm_G_rank : Room := { frames := 0, cells := 0, slots := 0, locals := 0 }
set_option maxHeartbeats 4000000 in
set_option maxRecDepth 100000 in
theorem c_G_rank (l : Launch) (D : va_G) (cI cB : ClassId) (q0 q1 : Nat) (rk : Nat → Int32) (i : Nat) (hi : i < 16) : Met l yG_rank wG_rank rm_G_rank (zz_R D vwCl [(cI, .int), (cB, .boolean)] [.ref q0, .int (nI i)] [(q0, .inr (3, [.ref q1])), (q1, .inl (cI, 16, .inl rk))]) (vp_Si (fun r : Int32 => r = rk i)) 0 0 (fun _ => False) := by
  refine Met.ofW (cc := cG_rank) (maxL := 2) (ret := (some .int)) (by decide) rfl ?_
  intro pg ev s mt args below meth kd s₁ B hml hv
  obtain ⟨rfl, hP, hK, hN⟩ := hv
  have hx := B.exec
  have hb := B.bytes
  have hr := B.returns
  have ht : ∀ w ∈ W0, w.before _ s = true := fun w h => atoms_spec (ws := wG_rank) B.pre w (List.mem_cons_of_mem _ h)
  have hown : s.vm.findClass "StatRows$RegisterRow" = some mt.cls := findClass_of_methodNamed B.named
  have hlocks := B.notSynchronized
  have hl := lv_entry ([.ref q0, .int (nI i)]) (n := 2) (Nat.le_of_ble_eq_true rfl)
  rw [lg_entry_eq]
  generalize (lg_sl ([.ref q0, .int (nI i)]) ++ List.replicate (2 - (lg_sl ([.ref q0, .int (nI i)])).length) Slot.unset).toArray = ls at hl ⊢
  have hl : lv_has ls 2 [(0, .ref q0), (1, .int (nI i))] := hl
  refine lv_aload_n hx hb dG_rank_0 rfl (lv_at hl 0 rfl) ?_
  refine va_get (D := D) (ci := 3) (v := .ref q1) (C := "StatRows$RegisterRow") (T := TG) (N := 1) hx hb ht inG hown hK hP 0 rfl rfl 0 (by decide) (ht _ wd73) (fun _ h9 => h9) rfl dG_rank_1 ?_
  refine lv_iload_n hx hb dG_rank_4 rfl (lv_at hl 1 rfl) ?_
  refine zz_iald (k := i) hx hb hK hP 1 0 rfl rfl (by omega) (by decide) dG_rank_5 ?_
  exact zz_iretR (v := rk i) hx hb hr hlocks (rfl) dG_rank_6

abbrev rm_G_rankOf : Room := { frames := 0, cells := 0, slots := 0, locals := 0 }
set_option maxHeartbeats 4000000 in
set_option maxRecDepth 100000 in
theorem c_G_rankOf (l : Launch) (x : Int32) (N : Nat) (hN : bn x = N) : Met l yG_rankOf wG_rankOf rm_G_rankOf (zz_N [.int x]) (vp_Si (fun r : Int32 => r = nI (rz N 28 + 1))) 0 0 (fun _ => False) := by
  refine Met.ofW (cc := cG_rankOf) (maxL := 2) (ret := (some .int)) (by decide) rfl ?_
  intro pg ev s mt args below meth kd s₁ B hml hv
  have hv : args = _ := hv
  subst hv
  have hx := B.exec
  have hb := B.bytes
  have hr := B.returns
  have ht : ∀ w ∈ W0, w.before _ s = true := fun w h => atoms_spec (ws := wG_rankOf) B.pre w (List.mem_cons_of_mem _ h)
  have hown : s.vm.findClass "StatRows$RegisterRow" = some mt.cls := findClass_of_methodNamed B.named
  have hlocks := B.notSynchronized
  have hl := lv_entry ([.int x]) (n := 2) (Nat.le_of_ble_eq_true rfl)
  rw [lg_entry_eq]
  generalize (lg_sl ([.int x]) ++ List.replicate (2 - (lg_sl ([.int x])).length) Slot.unset).toArray = ls at hl ⊢
  have hl : lv_has ls 2 [(0, .int x)] := hl
  have hle := rz_le 28 N
  refine lv_iconst (v := nI 0) hx hb dG_rankOf_0 (by decide) ?_
  refine lv_istore_n (lv' := [(1, .int (nI 0)), (0, .int x)]) hx hb dG_rankOf_1 rfl hl (by decide) rfl (fun ls hl => ?_)
  have lp2 : ∀ (fu : Nat) (i : Nat) (hi : i ≤ rz N 28) (hm : 28 - i < fu) (ls : Array Slot) (hl : lv_has ls 2 [(0, .int x), (1, .int (nI i))]), W pg l ev (headSpec wG_rankOf rm_G_rankOf).room s mt (([.int x] : List Value).toArray) below meth kd s.heap [] 0 0 (MQ below (vp_Si (fun r : Int32 => r = nI (rz N 28 + 1))) (([.int x] : List Value).toArray) s 0 0 (fun _ => False)) (F0 mt 2 ls []) := by
    intro fu
    induction fu with
    | zero => intro i hi hm; exact absurd hm (Nat.not_lt_zero _)
    | succ fu ih2 =>
      intro i hi hm ls hl
      refine lv_iload_n hx hb dG_rankOf_2 rfl (lv_at hl 1 rfl) ?_
      refine lv_bipush (v := nI 28) hx hb dG_rankOf_3 (by decide) ?_
      refine lv_icmp_ge (tgt := 22) hx hb dG_rankOf_5 (by decide) (fun c5 => ?_) (fun c5 => ?_)
      · -- taken
        have c5 : 28 ≤ i := (nI_leI (a := 28) (b := i) (by omega) (by omega)).mp c5
        have e : i = rz N 28 := by omega
        refine lv_iload_n hx hb dG_rankOf_22 rfl (lv_at hl 1 rfl) ?_
        refine lv_iconst (v := nI 1) hx hb dG_rankOf_23 (by decide) ?_
        refine lv_iadd hx hb dG_rankOf_24 ?_
        refine zz_top (y := nI (i + 1)) (nI_add i 1) ?_
        exact zz_iretR (v := nI (i + 1)) hx hb hr hlocks (congrArg nI (by omega)) dG_rankOf_25
      · -- not taken
        have c5 : ¬ (28 ≤ i) := fun h => c5 ((nI_leI (a := 28) (b := i) (by omega) (by omega)).mpr h)
        refine lv_iload_n hx hb dG_rankOf_8 rfl (lv_at hl 0 rfl) ?_
        refine lv_iload_n hx hb dG_rankOf_9 rfl (lv_at hl 1 rfl) ?_
        refine lv_iushr (v := (x.toUInt32 >>> ((nI i).toUInt32 &&& Int32.toUInt32 31)).toInt32) hx hb dG_rankOf_10 (rfl) ?_
        refine lv_iconst (v := nI 1) hx hb dG_rankOf_11 (by decide) ?_
        refine lv_iand hx hb dG_rankOf_12 ?_
        refine zz_top (y := nI (N / 2 ^ i % 2)) (by rw [← hN]; exact zz_bit x (by omega)) ?_
        have hm2 : N / 2 ^ i % 2 < 2 := Nat.mod_lt _ (by omega)
        refine lv_if_ne (tgt := 22) hx hb dG_rankOf_13 (by decide) (fun c13 => ?_) (fun c13 => ?_)
        · -- taken
          have c13 : ¬ (N / 2 ^ i % 2 = 0) := fun h => c13 ((nI_eq (a := N / 2 ^ i % 2) (b := 0) (by omega) (by omega)).mpr h)
          have e : i = rz N 28 := by
            rcases Nat.lt_or_ge i (rz N 28) with q | q
            · exact absurd (rz_lo 28 N i q) c13
            · omega
          refine lv_iload_n hx hb dG_rankOf_22 rfl (lv_at hl 1 rfl) ?_
          refine lv_iconst (v := nI 1) hx hb dG_rankOf_23 (by decide) ?_
          refine lv_iadd hx hb dG_rankOf_24 ?_
          refine zz_top (y := nI (i + 1)) (nI_add i 1) ?_
          exact zz_iretR (v := nI (i + 1)) hx hb hr hlocks (congrArg nI (by omega)) dG_rankOf_25
        · -- not taken
          have c13 : N / 2 ^ i % 2 = 0 := (nI_eq (a := N / 2 ^ i % 2) (b := 0) (by omega) (by omega)).mp c13
          refine lv_iinc (v := nI (i + 1)) (lv' := [(1, .int (nI (i + 1))), (0, .int x)]) hx hb dG_rankOf_16 hl (k := 1) rfl (nI_1 i) (by decide) rfl (fun ls hl => ?_)
          refine lv_goto (tgt := 2) hx hb dG_rankOf_19 (by decide) ?_
          exact ih2 (i + 1) (by
            rcases Nat.lt_or_ge i (rz N 28) with q | q
            · omega
            · have e1 : i = rz N 28 := by omega
              have := rz_hi 28 N (by omega)
              rw [← e1] at this; omega) (by omega) ls (lv_sub hl [1, 0] rfl)
  exact lp2 ((28 - 0) + 1) 0 (Nat.zero_le _) (Nat.lt_succ_self _) ls (lv_sub hl [1, 0] rfl)

abbrev rm_G_tell : Room := { frames := 1, cells := 0, slots := 0, locals := 32 }
set_option maxHeartbeats 4000000 in
set_option maxRecDepth 100000 in
theorem c_G_tell (l : Launch) (D : va_G) (cI cB : ClassId) (sz : Nat) (q0 q1 : Nat) (rk : Nat → Int32) (x : Int32) (Rn : Nat → Nat) (hR : ∀ i, i < 16 → rk i = nI (Rn i)) (hR2 : ∀ i, i < 16 → Rn i ≤ 29) : Met l yG_tell wG_tell rm_G_tell (zz_P D vwCl [(cI, .int), (cB, .boolean)] [.ref q0, .int x] [(q0, .inr (3, [.ref q1])), (q1, .inl (cI, 16, .inl rk))] sz) (va_Qv (fun u : (Nat → Int32) => ∀ i, i < 16 → u i = nI (if hix x = i then max (Rn i) (rnk x) else Rn i)) (fun u : (Nat → Int32) => zz_B D vwCl [(cI, .int), (cB, .boolean)] (va_A [(q0, .inr (3, [.ref q1])), (q1, .inl (cI, 16, .inl rk))] sz) [(q0, .inr (3, [.ref q1])), (q1, .inl (cI, 16, .inl u))]) (va_A [(q0, .inr (3, [.ref q1])), (q1, .inl (cI, 16, .inl rk))] sz)) 0 0 (va_A [(q0, .inr (3, [.ref q1])), (q1, .inl (cI, 16, .inl rk))] sz) := by
  refine Met.ofW (cc := cG_tell) (maxL := 3) (ret := none) (by decide) rfl ?_
  intro pg ev s mt args below meth kd s₁ B hml hv
  obtain ⟨rfl, hsz, hP, hK, hD0, hN⟩ := hv
  have hx := B.exec
  have hb := B.bytes
  have hr := B.returns
  have ht : ∀ w ∈ W0, w.before _ s = true := fun w h => atoms_spec (ws := wG_tell) B.pre w (List.mem_cons_of_mem _ h)
  have hown : s.vm.findClass "StatRows$RegisterRow" = some mt.cls := findClass_of_methodNamed B.named
  have hlocks := B.notSynchronized
  subst hsz
  have hD := hD0.self (sz := s.heap.size)
  generalize hAe : va_A [(q0, .inr (3, [.ref q1])), (q1, .inl (cI, 16, .inl rk))] s.heap.size = A at hD ⊢
  have hA : ∀ q : Nat, s.heap.size ≤ q → A q := fun q h => by rw [← hAe]; exact Or.inr h
  have hS : va_S A s.heap s.heap [] := va_S.rf
  have hP : va_P D vwCl [(q0, .inr (3, [.ref q1])), (q1, .inl (cI, 16, .inl rk))] s.heap := hP
  have hl := lv_entry ([.ref q0, .int x]) (n := 3) (Nat.le_of_ble_eq_true rfl)
  rw [lg_entry_eq]
  generalize (lg_sl ([.ref q0, .int x]) ++ List.replicate (3 - (lg_sl ([.ref q0, .int x])).length) Slot.unset).toArray = ls at hl ⊢
  have hl : lv_has ls 3 [(0, .ref q0), (1, .int x)] := hl
  have h16 : hix x < 16 := Nat.mod_lt _ (by decide)
  have hr29 := rnk_lt x
  have hR3 := hR2 _ h16
  refine lv_iload_n hx hb dG_tell_0 rfl (lv_at hl 1 rfl) ?_
  refine lv_bipush (v := nI 15) hx hb dG_tell_1 (by decide) ?_
  refine lv_iand hx hb dG_tell_3 ?_
  refine zz_top (y := nI (hix x)) (zz_and15 x) ?_
  refine lv_istore_n (lv' := [(2, .int (nI (hix x))), (0, .ref q0), (1, .int x)]) hx hb dG_tell_4 rfl hl (by decide) rfl (fun ls hl => ?_)
  refine lv_aload_n hx hb dG_tell_5 rfl (lv_at hl 1 rfl) ?_
  refine va_get (D := D) (ci := 3) (v := .ref q1) (C := "StatRows$RegisterRow") (T := TG) (N := 1) hx hb ht inG hown hK hP 0 rfl rfl 0 (by decide) (ht _ wd73) (fun _ h9 => h9) rfl dG_tell_6 ?_
  refine lv_iload_n hx hb dG_tell_9 rfl (lv_at hl 0 rfl) ?_
  refine lv_aload_n hx hb dG_tell_10 rfl (lv_at hl 1 rfl) ?_
  refine va_get (D := D) (ci := 3) (v := .ref q1) (C := "StatRows$RegisterRow") (T := TG) (N := 1) hx hb ht inG hown hK hP 0 rfl rfl 0 (by decide) (ht _ wd73) (fun _ h9 => h9) rfl dG_tell_11 ?_
  refine lv_iload_n hx hb dG_tell_14 rfl (lv_at hl 0 rfl) ?_
  refine zz_iald (k := hix x) hx hb hK hP 1 0 rfl rfl (by omega) (by decide) dG_tell_15 ?_
  refine zz_top (y := nI (Rn (hix x))) (hR _ h16) ?_
  refine lv_iload_n hx hb dG_tell_16 rfl (lv_at hl 2 rfl) ?_
  refine lv_iconst (v := nI 4) hx hb dG_tell_17 (by decide) ?_
  refine lv_iushr (v := (x.toUInt32 >>> ((nI 4).toUInt32 &&& Int32.toUInt32 31)).toInt32) hx hb dG_tell_18 (rfl) ?_
  refine zz_ci (v := nI (rz (bn x / 16) 28 + 1)) (W.runS (As := [.int ((x.toUInt32 >>> ((nI 4).toUInt32 &&& Int32.toUInt32 31)).toInt32)]) (rest := [.int (nI (Rn (hix x))), .int (nI (hix x)), .ref q1]) ⟨hx, hb, hml, hown, ht⟩ (c_G_rankOf l _ (bn x / 16) (zz_ush4 x)) (va_cwS 1 ht (gd_S wd248 wd249 wd5 wd250) rfl rfl rfl (by decide +kernel) ⟨Nat.le_of_ble_eq_true rfl, Nat.le_of_ble_eq_true rfl⟩) zz_N_S rfl rfl hl.1 rfl (lv_room (Nat.le_of_ble_eq_true rfl)) dG_tell_19 ⟨Nat.le_of_ble_eq_true rfl, Nat.le_of_ble_eq_true rfl⟩) ?_
  refine va_mmax (x := nI (Rn (hix x))) (y := nI (rz (bn x / 16) 28 + 1)) hx hb (hml.trans hl.1.symm) hown (ht _ wd251) (ht _ wd252) (ht _ wd9) (ht _ wd253) (Nat.le_of_ble_eq_true rfl) (Nat.le_of_ble_eq_true rfl) (Nat.le_of_ble_eq_true rfl) (Nat.le_of_ble_eq_true rfl) dG_tell_22 ?_
  refine zz_top (y := nI (max (Rn (hix x)) (rnk x))) (imax (b := rnk x) (by omega) (by omega)) ?_
  refine zz_iast (k := hix x) hx hb hK hP hD hS 1 0 rfl rfl (by omega) (by decide) dG_tell_25 (fun H locs hP hD hS => ?_)
  have hP : va_P D vwCl [(q0, .inr (3, [.ref q1])), (q1, .inl (cI, 16, .inl (upd rk (hix x) (nI (max (Rn (hix x)) (rnk x))))))] H := hP
  have hD : va_D A [(q0, .inr (3, [.ref q1])), (q1, .inl (cI, 16, .inl (upd rk (hix x) (nI (max (Rn (hix x)) (rnk x))))))] := hD
  exact zz_vretW (w1 := fun u : (Nat → Int32) => [(q0, .inr (3, [.ref q1])), (q1, .inl (cI, 16, .inl u))]) (upd rk (hix x) (nI (max (Rn (hix x)) (rnk x)))) hx hb hr hlocks (fun i hi => by
    by_cases q : i = hix x
    · rw [q, pk_us, if_pos rfl]
    · rw [pk_un q, if_neg (fun h => q h.symm)]; exact hR i hi) hP hK hD hS dG_tell_26

abbrev rm_G_tellAll : Room := { frames := 2, cells := 0, slots := 0, locals := 54 }
set_option maxHeartbeats 4000000 in
set_option maxRecDepth 100000 in
theorem c_G_tellAll (l : Launch) (D : va_G) (cI cB : ClassId) (sz : Nat) (q0 q1 : Nat) (rk : Nat → Int32) (qa : Nat) (ta : Nat → Int32) (pr : Nat → Bool) (hpr : ∀ s1, s1 < 256 → (nI 0 < ta s1 ↔ pr s1 = true)) : Met l yG_tellAll wG_tellAll rm_G_tellAll (zz_P D vwCl [(cI, .int), (cB, .boolean)] [.ref q0, .ref qa] [(q0, .inr (3, [.ref q1])), (q1, .inl (cI, 16, .inl rk)), (qa, .inl (cI, 256, .inl ta))] sz) (va_Qv (fun u : (Nat → Int32) => ∀ i, i < 16 → u i = nI (rkf pr i 256)) (fun u : (Nat → Int32) => zz_B D vwCl [(cI, .int), (cB, .boolean)] (va_A [(q0, .inr (3, [.ref q1])), (q1, .inl (cI, 16, .inl rk)), (qa, .inl (cI, 256, .inl ta))] sz) [(q0, .inr (3, [.ref q1])), (q1, .inl (cI, 16, .inl u)), (qa, .inl (cI, 256, .inl ta))]) (va_A [(q0, .inr (3, [.ref q1])), (q1, .inl (cI, 16, .inl rk)), (qa, .inl (cI, 256, .inl ta))] sz)) 0 0 (va_A [(q0, .inr (3, [.ref q1])), (q1, .inl (cI, 16, .inl rk)), (qa, .inl (cI, 256, .inl ta))] sz) := by
  refine Met.ofW (cc := cG_tellAll) (maxL := 3) (ret := none) (by decide) rfl ?_
  intro pg ev s mt args below meth kd s₁ B hml hv
  obtain ⟨rfl, hsz, hP, hK, hD0, hN⟩ := hv
  have hx := B.exec
  have hb := B.bytes
  have hr := B.returns
  have ht : ∀ w ∈ W0, w.before _ s = true := fun w h => atoms_spec (ws := wG_tellAll) B.pre w (List.mem_cons_of_mem _ h)
  have hown : s.vm.findClass "StatRows$RegisterRow" = some mt.cls := findClass_of_methodNamed B.named
  have hlocks := B.notSynchronized
  subst hsz
  have hD := hD0.self (sz := s.heap.size)
  generalize hAe : va_A [(q0, .inr (3, [.ref q1])), (q1, .inl (cI, 16, .inl rk)), (qa, .inl (cI, 256, .inl ta))] s.heap.size = A at hD ⊢
  have hA : ∀ q : Nat, s.heap.size ≤ q → A q := fun q h => by rw [← hAe]; exact Or.inr h
  have hS : va_S A s.heap s.heap [] := va_S.rf
  have hP : va_P D vwCl [(q0, .inr (3, [.ref q1])), (q1, .inl (cI, 16, .inl rk)), (qa, .inl (cI, 256, .inl ta))] s.heap := hP
  have hl := lv_entry ([.ref q0, .ref qa]) (n := 3) (Nat.le_of_ble_eq_true rfl)
  rw [lg_entry_eq]
  generalize (lg_sl ([.ref q0, .ref qa]) ++ List.replicate (3 - (lg_sl ([.ref q0, .ref qa])).length) Slot.unset).toArray = ls at hl ⊢
  have hl : lv_has ls 3 [(0, .ref q0), (1, .ref qa)] := hl
  refine lv_aload_n hx hb dG_tellAll_0 rfl (lv_at hl 0 rfl) ?_
  refine va_get (D := D) (ci := 3) (v := .ref q1) (C := "StatRows$RegisterRow") (T := TG) (N := 1) hx hb ht inG hown hK hP 0 rfl rfl 0 (by decide) (ht _ wd73) (fun _ h9 => h9) rfl dG_tellAll_1 ?_
  refine lv_iconst (v := nI 0) hx hb dG_tellAll_4 (by decide) ?_
  refine zz_wv (wc := [(q1, .inl (cI, 16, .inl rk))]) (wr := [(q0, .inr (3, [.ref q1])), (qa, .inl (cI, 256, .inl ta))]) (va_runS (As := [.ref q1, .int (nI 0)]) (rest := []) ⟨hx, hb, hml, hown, ht⟩ (c_JA_fill l D cI cB s.heap.size q1 16 rk (nI 0) (by decide)) (va_cwS 2 ht (gd_S wd242 wd165 wd8 wd166) rfl rfl rfl (by decide +kernel) ⟨Nat.le_of_ble_eq_true rfl, Nat.le_of_ble_eq_true rfl⟩) (zz_P_S hN hK (hP.sub (ws' := [(q1, .inl (cI, 16, .inl rk))]) [1] rfl) (hD.sub (ws' := [(q1, .inl (cI, 16, .inl rk))]) [1] (by decide) rfl)) rfl rfl hl.1 rfl (lv_room (Nat.le_of_ble_eq_true rfl)) dG_tellAll_5 ⟨Nat.le_of_ble_eq_true rfl, Nat.le_of_ble_eq_true rfl⟩) hP hD hS hA [1] [0, 2] rfl rfl (by decide) (by decide) (fun u5 H locs hq5 hP hD hS => ?_)
  have hP := hP.sub (ws' := [(q0, .inr (3, [.ref q1])), (q1, .inl (cI, 16, .inl u5)), (qa, .inl (cI, 256, .inl ta))]) [0, 2, 1] rfl
  have hD := hD.sub (ws' := [(q0, .inr (3, [.ref q1])), (q1, .inl (cI, 16, .inl u5)), (qa, .inl (cI, 256, .inl ta))]) [0, 2, 1] (by decide) rfl
  refine lv_iconst (v := nI 0) hx hb dG_tellAll_8 (by decide) ?_
  refine lv_istore_n (lv' := [(2, .int (nI 0)), (0, .ref q0), (1, .ref qa)]) hx hb dG_tellAll_9 rfl hl (by decide) rfl (fun ls hl => ?_)
  have lp10 : ∀ (fu : Nat) (i : Nat) (rr : Nat → Int32) (hi : i ≤ 256) (hr2 : ∀ j, j < 16 → rr j = nI (rkf pr j i)) (hm : 256 - i < fu) (H : Heap) (locs : List Loc) (hP : va_P D vwCl [(q0, .inr (3, [.ref q1])), (q1, .inl (cI, 16, .inl rr)), (qa, .inl (cI, 256, .inl ta))] H) (hD : va_D A [(q0, .inr (3, [.ref q1])), (q1, .inl (cI, 16, .inl rr)), (qa, .inl (cI, 256, .inl ta))]) (hS : va_S A s.heap H locs) (ls : Array Slot) (hl : lv_has ls 3 [(0, .ref q0), (1, .ref qa), (2, .int (nI i))]), W pg l ev (headSpec wG_tellAll rm_G_tellAll).room s mt (([.ref q0, .ref qa] : List Value).toArray) below meth kd H locs 0 0 (MQ below (va_Qv (fun u : (Nat → Int32) => ∀ i, i < 16 → u i = nI (rkf pr i 256)) (fun u : (Nat → Int32) => zz_B D vwCl [(cI, .int), (cB, .boolean)] A [(q0, .inr (3, [.ref q1])), (q1, .inl (cI, 16, .inl u)), (qa, .inl (cI, 256, .inl ta))]) A) (([.ref q0, .ref qa] : List Value).toArray) s 0 0 A) (F0 mt 10 ls []) := by
    intro fu
    induction fu with
    | zero => intro i rr hi hr2 hm; exact absurd hm (Nat.not_lt_zero _)
    | succ fu ih10 =>
      intro i rr hi hr2 hm H locs hP hD hS ls hl
      refine lv_iload_n hx hb dG_tellAll_10 rfl (lv_at hl 2 rfl) ?_
      refine lv_aload_n hx hb dG_tellAll_11 rfl (lv_at hl 1 rfl) ?_
      refine va_alen (v := nI 256) hx hb hK hP 2 0 rfl rfl rfl dG_tellAll_12 ?_
      refine lv_icmp_ge (tgt := 36) hx hb dG_tellAll_13 (by decide) (fun c13 => ?_) (fun c13 => ?_)
      · -- taken
        have c13 : 256 ≤ i := (nI_leI (a := 256) (b := i) (by omega) (by omega)).mp c13
        exact zz_vretW (w1 := fun u : (Nat → Int32) => [(q0, .inr (3, [.ref q1])), (q1, .inl (cI, 16, .inl u)), (qa, .inl (cI, 256, .inl ta))]) rr hx hb hr hlocks (fun j hj => by
          have h := hr2 j hj
          rw [show i = 256 by omega] at h
          exact h) hP hK hD hS dG_tellAll_36
      · -- not taken
        have c13 : ¬ (256 ≤ i) := fun h => c13 ((nI_leI (a := 256) (b := i) (by omega) (by omega)).mpr h)
        refine lv_aload_n hx hb dG_tellAll_16 rfl (lv_at hl 1 rfl) ?_
        refine lv_iload_n hx hb dG_tellAll_17 rfl (lv_at hl 2 rfl) ?_
        refine zz_iald (k := i) hx hb hK hP 2 0 rfl rfl (by omega) (by decide) dG_tellAll_18 ?_
        refine lv_if_le (tgt := 30) hx hb dG_tellAll_19 (by decide) (fun c19 => ?_) (fun c19 => ?_)
        · -- taken
          have hpi : ¬ pr i = true := fun q => by
            have := (hpr i (by omega)).mpr q
            exact absurd (Int32.lt_iff_toInt_lt.mp this) (by have := Int32.le_iff_toInt_le.mp c19; have e0 : (nI 0).toInt = 0 := rfl; have e1 : (0 : Int32).toInt = 0 := rfl; omega)
          refine lv_iinc (v := nI (i + 1)) (lv' := [(2, .int (nI (i + 1))), (0, .ref q0), (1, .ref qa)]) hx hb dG_tellAll_30 hl (k := 2) rfl (nI_1 i) (by decide) rfl (fun ls hl => ?_)
          refine lv_goto (tgt := 10) hx hb dG_tellAll_33 (by decide) ?_
          exact ih10 (i + 1) rr (by omega) (fun j hj => by rw [hr2 j hj]; rw [rkf_s, if_neg (fun h => hpi h.1)]) (by omega) _ _ hP hD hS ls (lv_sub hl [1, 2, 0] rfl)
        · -- not taken
          have hpi : pr i = true := (hpr i (by omega)).mp (Int32.lt_iff_toInt_lt.mpr (by
            have h9 : ¬ (ta i).toInt ≤ (0 : Int32).toInt := fun q => c19 (Int32.le_iff_toInt_le.mpr q)
            have e0 : (nI 0).toInt = 0 := rfl
            have e1 : (0 : Int32).toInt = 0 := rfl
            omega))
          refine lv_aload_n hx hb dG_tellAll_22 rfl (lv_at hl 0 rfl) ?_
          refine lv_iload_n hx hb dG_tellAll_23 rfl (lv_at hl 2 rfl) ?_
          refine zz_ci (v := hsh (nI i)) (zz_run (va_runSN (As := [.int (nI i)]) (rest := [.ref q0]) ⟨hx, hb, hml, hown, ht⟩ (c_X_hash l (nI i)) ⟨va_cnB 1 ht (gd_1 wd195) rfl rfl rfl hN.2 (ht _ wd1) (by decide +kernel) ⟨Nat.le_of_ble_eq_true rfl, Nat.le_of_ble_eq_true rfl⟩, ht _ wd194, trivial⟩ zz_N_S rfl rfl hl.1 rfl (lv_room (Nat.le_of_ble_eq_true rfl)) dG_tellAll_24 ⟨Nat.le_of_ble_eq_true rfl, Nat.le_of_ble_eq_true rfl⟩)) ?_
          refine zz_wv (wc := [(q0, .inr (3, [.ref q1])), (q1, .inl (cI, 16, .inl rr))]) (wr := [(qa, .inl (cI, 256, .inl ta))]) (va_runV (As := [.int (hsh (nI i))]) (rest := []) ⟨hx, hb, hml, hown, ht⟩ (c_G_tell l D cI cB H.size q0 q1 rr (hsh (nI i)) (fun j => rkf pr j i) hr2 (fun j _ => rkf_le pr j i)) (cwV 1 ht (gd_V wd244 wd246 wp12 wd5 wd247) rfl rfl rfl (by decide +kernel) ⟨Nat.le_of_ble_eq_true rfl, Nat.le_of_ble_eq_true rfl⟩) (zz_P_V hN hK (hP.sub (ws' := [(q0, .inr (3, [.ref q1])), (q1, .inl (cI, 16, .inl rr))]) [0, 1] rfl) (hD.sub (ws' := [(q0, .inr (3, [.ref q1])), (q1, .inl (cI, 16, .inl rr))]) [0, 1] (by decide) rfl) 3 0 rfl rfl) rfl rfl hl.1 rfl (lv_room (Nat.le_of_ble_eq_true rfl)) dG_tellAll_27 ⟨Nat.le_of_ble_eq_true rfl, Nat.le_of_ble_eq_true rfl⟩) hP hD hS hA [0, 1] [2] rfl rfl (by decide) (by decide) (fun u27 H locs hq27 hP hD hS => ?_)
          have hP := hP.sub (ws' := [(q0, .inr (3, [.ref q1])), (q1, .inl (cI, 16, .inl u27)), (qa, .inl (cI, 256, .inl ta))]) [1, 2, 0] rfl
          have hD := hD.sub (ws' := [(q0, .inr (3, [.ref q1])), (q1, .inl (cI, 16, .inl u27)), (qa, .inl (cI, 256, .inl ta))]) [1, 2, 0] (by decide) rfl
          refine lv_iinc (v := nI (i + 1)) (lv' := [(2, .int (nI (i + 1))), (0, .ref q0), (1, .ref qa)]) hx hb dG_tellAll_30 hl (k := 2) rfl (nI_1 i) (by decide) rfl (fun ls hl => ?_)
          refine lv_goto (tgt := 10) hx hb dG_tellAll_33 (by decide) ?_
          exact ih10 (i + 1) u27 (by omega) (fun j hj => by
            rw [hq27 j hj, rkf_s]
            by_cases q : hix (hsh (nI i)) = j
            · rw [if_pos q, if_pos ⟨hpi, q⟩]
            · rw [if_neg q, if_neg (fun h => q h.2)]) (by omega) _ _ hP hD hS ls (lv_sub hl [1, 2, 0] rfl)
  exact lp10 ((256 - 0) + 1) 0 u5 (Nat.zero_le _) (fun j hj => by rw [hq5 j hj]; rfl) (Nat.lt_succ_self _) _ _ hP hD hS ls (lv_sub hl [1, 2, 0] rfl)
end
section
abbrev rm_G_about : Room := { frames := 0, cells := 0, slots := 0, locals := 0 }
set_option maxHeartbeats 4000000 in
set_option maxRecDepth 100000 in
theorem c_G_about (l : Launch) (D : va_G) (cI cB : ClassId) (q0 q1 : Nat) (rk : Nat → Int32) (Rn : Nat → Nat) (hR : ∀ i, i < 16 → rk i = nI (Rn i)) (hR2 : ∀ i, i < 16 → Rn i ≤ 29) : Met l yG_about wG_about rm_G_about (zz_RZ D vwCl [(cI, .int), (cB, .boolean)] [.ref q0] [(q0, .inr (3, [.ref q1])), (q1, .inl (cI, 16, .inl rk))]) (vp_Sl (fun r : Int64 => r = lN (abt Rn))) 0 0 (fun _ => False) := by
  refine Met.ofW (cc := cG_about) (maxL := 5) (ret := (some .long)) (by decide) rfl ?_
  intro pg ev s mt args below meth kd s₁ B hml hv
  obtain ⟨⟨rfl, hP, hK, hN⟩, hZ⟩ := hv
  have hx := B.exec
  have hb := B.bytes
  have hr := B.returns
  have ht : ∀ w ∈ W0, w.before _ s = true := fun w h => atoms_spec (ws := wG_about) B.pre w (List.mem_cons_of_mem _ h)
  have hown : s.vm.findClass "StatRows$RegisterRow" = some mt.cls := findClass_of_methodNamed B.named
  have hlocks := B.notSynchronized
  have hl := lv_entry ([.ref q0]) (n := 5) (Nat.le_of_ble_eq_true rfl)
  rw [lg_entry_eq]
  generalize (lg_sl ([.ref q0]) ++ List.replicate (5 - (lg_sl ([.ref q0])).length) Slot.unset).toArray = ls at hl ⊢
  have hl : lv_has ls 5 [(0, .ref q0)] := hl
  have hf44 := few_lt (zer Rn 16)
  have hs16 := smr_le Rn 16
  refine lv_iconst (v := nI 0) hx hb dG_about_0 (by decide) ?_
  refine lv_istore_n (lv' := [(1, .int (nI 0)), (0, .ref q0)]) hx hb dG_about_1 rfl hl (by decide) rfl (fun ls hl => ?_)
  refine lv_lconst (v := lN 0) hx hb dG_about_2 rfl ?_
  refine lv_lstore_n (lv' := [(2, .long (lN 0)), (1, .int (nI 0)), (0, .ref q0)]) hx hb dG_about_3 rfl hl (by decide) rfl (fun ls hl => ?_)
  refine lv_iconst (v := nI 0) hx hb dG_about_4 (by decide) ?_
  refine lv_istore (lv' := [(4, .int (nI 0)), (2, .long (lN 0)), (1, .int (nI 0)), (0, .ref q0)]) hx hb dG_about_5 hl (by decide) rfl (fun ls hl => ?_)
  have lp7 : ∀ (fu : Nat) (i : Nat) (hi : i ≤ 16) (hm : 16 - i < fu) (ls : Array Slot) (hl : lv_has ls 5 [(0, .ref q0), (1, .int (nI (zer Rn i))), (2, .long (lN (smr Rn i))), (4, .int (nI i))]), W pg l ev (headSpec wG_about rm_G_about).room s mt (([.ref q0] : List Value).toArray) below meth kd s.heap [] 0 0 (MQ below (vp_Sl (fun r : Int64 => r = lN (abt Rn))) (([.ref q0] : List Value).toArray) s 0 0 (fun _ => False)) (F0 mt 7 ls []) := by
    intro fu
    induction fu with
    | zero => intro i hi hm; exact absurd hm (Nat.not_lt_zero _)
    | succ fu ih7 =>
      intro i hi hm ls hl
      have hzl := zer_le Rn i
      refine lv_iload hx hb dG_about_7 (lv_at hl 3 rfl) ?_
      refine lv_bipush (v := nI 16) hx hb dG_about_9 (by decide) ?_
      refine lv_icmp_ge (tgt := 48) hx hb dG_about_11 (by decide) (fun c11 => ?_) (fun c11 => ?_)
      · -- taken
        have c11 : 16 ≤ i := (nI_leI (a := 16) (b := i) (by omega) (by omega)).mp c11
        have e16 : i = 16 := by omega
        subst e16
        refine lv_iload_n hx hb dG_about_48 rfl (lv_at hl 1 rfl) ?_
        refine lv_if_le (tgt := 59) hx hb dG_about_49 (by decide) (fun c49 => ?_) (fun c49 => ?_)
        · -- taken
          have c49 : zer Rn 16 ≤ 0 := (nI_leI (a := zer Rn 16) (b := 0) (by omega) (by omega)).mp c49
          refine lv_ldc2 (v := 184992831373312) hx hb hown (ht _ wd268) dG_about_59 ?_
          refine zz_topl (y := lN 184992831373312) (rfl) ?_
          refine lv_ldc2 (v := 1000) hx hb hown (ht _ wd269) dG_about_62 ?_
          refine zz_topl (y := lN 1000) (rfl) ?_
          refine lv_lload_n hx hb dG_about_65 rfl (lv_at hl 2 rfl) ?_
          refine lv_lmul hx hb dG_about_66 ?_
          refine zz_topl (y := lN (1000 * (smr Rn 16))) (lN_mul 1000 (smr Rn 16)) ?_
          refine lv_ldiv hx hb dG_about_67 (zz_lne0 (by omega) (by omega)) ?_
          refine zz_topl (y := lN (184992831373312 / (1000 * (smr Rn 16)))) (pk_lDiv (a := 184992831373312) (b := 1000 * (smr Rn 16)) (by omega) (by omega) (by omega)) ?_
          exact zz_lretR (v := lN (184992831373312 / (1000 * (smr Rn 16)))) hx hb hr hlocks (by unfold abt; rw [if_neg (by omega)]) dG_about_68
        · -- not taken
          have c49 : ¬ (zer Rn 16 ≤ 0) := fun h => c49 ((nI_leI (a := zer Rn 16) (b := 0) (by omega) (by omega)).mpr h)
          obtain ⟨tz, hz1, hz2⟩ := hZ
          refine va_gets (A := fun _ => False) hx hb hz1 va_S.rf hown (ht _ wd266) (fun _ h => h) dG_about_52 ?_
          refine lv_iload_n hx hb dG_about_55 rfl (lv_at hl 1 rfl) ?_
          refine va_ti (v := .int (nI (few (zer Rn 16)))) hx hb hz2 va_S.rf (vp_in_nI (by omega) (by decide)) (by rw [nI_clamp (by omega)]) dG_about_56 ?_
          refine lv_i2l (v := lN (few (zer Rn 16))) hx hb dG_about_57 (nI_l (n := few (zer Rn 16)) (by omega)) ?_
          exact zz_lretR (v := lN (few (zer Rn 16))) hx hb hr hlocks (by unfold abt; rw [if_pos (by omega)]) dG_about_58
      · -- not taken
        have c11 : ¬ (16 ≤ i) := fun h => c11 ((nI_leI (a := 16) (b := i) (by omega) (by omega)).mpr h)
        refine lv_aload_n hx hb dG_about_14 rfl (lv_at hl 0 rfl) ?_
        refine va_get (D := D) (ci := 3) (v := .ref q1) (C := "StatRows$RegisterRow") (T := TG) (N := 1) hx hb ht inG hown hK hP 0 rfl rfl 0 (by decide) (ht _ wd73) (fun _ h9 => h9) rfl dG_about_15 ?_
        refine lv_iload hx hb dG_about_18 (lv_at hl 3 rfl) ?_
        refine zz_iald (k := i) hx hb hK hP 1 0 rfl rfl (by omega) (by decide) dG_about_20 ?_
        refine zz_top (y := nI (Rn i)) (hR i (by omega)) ?_
        have hRi := hR2 i (by omega)
        refine lv_if_ne (tgt := 27) hx hb dG_about_21 (by decide) (fun c21 => ?_) (fun c21 => ?_)
        · -- taken
          have c21 : ¬ (Rn i = 0) := fun h => c21 ((nI_eq (a := Rn i) (b := 0) (by omega) (by omega)).mpr h)
          have ez : zer Rn i = zer Rn (i + 1) := (if_neg c21).symm
          rw [ez] at hl
          refine lv_lload_n hx hb dG_about_27 rfl (lv_at hl 2 rfl) ?_
          refine lv_lconst (v := lN 1) hx hb dG_about_28 rfl ?_
          refine lv_bipush (v := nI 30) hx hb dG_about_29 (by decide) ?_
          refine lv_aload_n hx hb dG_about_31 rfl (lv_at hl 0 rfl) ?_
          refine va_get (D := D) (ci := 3) (v := .ref q1) (C := "StatRows$RegisterRow") (T := TG) (N := 1) hx hb ht inG hown hK hP 0 rfl rfl 0 (by decide) (ht _ wd73) (fun _ h9 => h9) rfl dG_about_32 ?_
          refine lv_iload hx hb dG_about_35 (lv_at hl 3 rfl) ?_
          refine zz_iald (k := i) hx hb hK hP 1 0 rfl rfl (by omega) (by decide) dG_about_37 ?_
          refine zz_top (y := nI (Rn i)) (hR i (by omega)) ?_
          refine lv_isub hx hb dG_about_38 ?_
          refine zz_top (y := nI (30 - (Rn i))) (pk_sub (a := 30) (b := Rn i) (by omega)) ?_
          refine lv_lshl (v := lN (2 ^ (30 - Rn i))) hx hb dG_about_39 (zz_shlc _ (by omega)) ?_
          refine lv_ladd hx hb dG_about_40 ?_
          refine zz_topl (y := lN ((smr Rn i) + (2 ^ (30 - Rn i)))) (lN_add (smr Rn i) (2 ^ (30 - Rn i))) ?_
          refine lv_lstore_n (lv' := [(2, .long (lN ((smr Rn i) + (2 ^ (30 - Rn i))))), (0, .ref q0), (1, .int (nI (zer Rn (i + 1)))), (4, .int (nI i))]) hx hb dG_about_41 rfl hl (by decide) rfl (fun ls hl => ?_)
          refine lv_iinc (v := nI (i + 1)) (lv' := [(4, .int (nI (i + 1))), (2, .long (lN ((smr Rn i) + (2 ^ (30 - Rn i))))), (0, .ref q0), (1, .int (nI (zer Rn (i + 1))))]) hx hb dG_about_42 hl (k := 3) rfl (nI_1 i) (by decide) rfl (fun ls hl => ?_)
          refine lv_goto (tgt := 7) hx hb dG_about_45 (by decide) ?_
          exact ih7 (i + 1) (by omega) (by omega) ls (lv_sub hl [2, 3, 1, 0] rfl)
        · -- not taken
          have c21 : Rn i = 0 := (nI_eq (a := Rn i) (b := 0) (by omega) (by omega)).mp c21
          refine lv_iinc (v := nI (zer Rn i + 1)) (lv' := [(1, .int (nI (zer Rn i + 1))), (0, .ref q0), (2, .long (lN (smr Rn i))), (4, .int (nI i))]) hx hb dG_about_24 hl (k := 1) rfl (nI_1 (zer Rn i)) (by decide) rfl (fun ls hl => ?_)
          have ez : zer Rn i + 1 = zer Rn (i + 1) := (if_pos c21).symm
          rw [ez] at hl
          refine lv_lload_n hx hb dG_about_27 rfl (lv_at hl 2 rfl) ?_
          refine lv_lconst (v := lN 1) hx hb dG_about_28 rfl ?_
          refine lv_bipush (v := nI 30) hx hb dG_about_29 (by decide) ?_
          refine lv_aload_n hx hb dG_about_31 rfl (lv_at hl 1 rfl) ?_
          refine va_get (D := D) (ci := 3) (v := .ref q1) (C := "StatRows$RegisterRow") (T := TG) (N := 1) hx hb ht inG hown hK hP 0 rfl rfl 0 (by decide) (ht _ wd73) (fun _ h9 => h9) rfl dG_about_32 ?_
          refine lv_iload hx hb dG_about_35 (lv_at hl 3 rfl) ?_
          refine zz_iald (k := i) hx hb hK hP 1 0 rfl rfl (by omega) (by decide) dG_about_37 ?_
          refine zz_top (y := nI (Rn i)) (hR i (by omega)) ?_
          refine lv_isub hx hb dG_about_38 ?_
          refine zz_top (y := nI (30 - (Rn i))) (pk_sub (a := 30) (b := Rn i) (by omega)) ?_
          refine lv_lshl (v := lN (2 ^ (30 - Rn i))) hx hb dG_about_39 (zz_shlc _ (by omega)) ?_
          refine lv_ladd hx hb dG_about_40 ?_
          refine zz_topl (y := lN ((smr Rn i) + (2 ^ (30 - Rn i)))) (lN_add (smr Rn i) (2 ^ (30 - Rn i))) ?_
          refine lv_lstore_n (lv' := [(2, .long (lN ((smr Rn i) + (2 ^ (30 - Rn i))))), (1, .int (nI (zer Rn (i + 1)))), (0, .ref q0), (4, .int (nI i))]) hx hb dG_about_41 rfl hl (by decide) rfl (fun ls hl => ?_)
          refine lv_iinc (v := nI (i + 1)) (lv' := [(4, .int (nI (i + 1))), (2, .long (lN ((smr Rn i) + (2 ^ (30 - Rn i))))), (1, .int (nI (zer Rn (i + 1)))), (0, .ref q0)]) hx hb dG_about_42 hl (k := 3) rfl (nI_1 i) (by decide) rfl (fun ls hl => ?_)
          refine lv_goto (tgt := 7) hx hb dG_about_45 (by decide) ?_
          exact ih7 (i + 1) (by omega) (by omega) ls (lv_sub hl [3, 2, 1, 0] rfl)
  exact lp7 ((16 - 0) + 1) 0 (Nat.zero_le _) (Nat.lt_succ_self _) ls (lv_sub hl [3, 2, 1, 0] rfl)
end
section
abbrev rm_X_isNumber : Room := { frames := 0, cells := 0, slots := 0, locals := 0 }
set_option maxHeartbeats 4000000 in
set_option maxRecDepth 100000 in
theorem c_X_isNumber (l : Launch) (x : Int32) : Met l yX_isNumber wX_isNumber rm_X_isNumber (zz_N [.int x]) (vp_Si (fun r : Int32 => r = nI (inr_ 256 x).toNat)) 0 0 (fun _ => False) := by
  refine Met.ofW (cc := cX_isNumber) (maxL := 1) (ret := (some .boolean)) (by decide) rfl ?_
  intro pg ev s mt args below meth kd s₁ B hml hv
  have hv : args = _ := hv
  subst hv
  have hx := B.exec
  have hb := B.bytes
  have hr := B.returns
  have ht : ∀ w ∈ W0, w.before _ s = true := fun w h => atoms_spec (ws := wX_isNumber) B.pre w (List.mem_cons_of_mem _ h)
  have hown : s.vm.findClass "StatRows" = some mt.cls := findClass_of_methodNamed B.named
  have hlocks := B.notSynchronized
  have hl := lv_entry ([.int x]) (n := 1) (Nat.le_of_ble_eq_true rfl)
  rw [lg_entry_eq]
  generalize (lg_sl ([.int x]) ++ List.replicate (1 - (lg_sl ([.int x])).length) Slot.unset).toArray = ls at hl ⊢
  have hl : lv_has ls 1 [(0, .int x)] := hl
  refine lv_iload_n hx hb dX_isNumber_0 rfl (lv_at hl 0 rfl) ?_
  refine lv_if_lt (tgt := 15) hx hb dX_isNumber_1 (by decide) (fun c1 => ?_) (fun c1 => ?_)
  · -- taken
    have hs : inr_ 256 x = false := decide_eq_false (fun q => q.1 c1)
    refine lv_iconst (v := nI 0) hx hb dX_isNumber_15 (by decide) ?_
    exact zz_zretR (v := nI 0) hx hb hr hlocks (by decide) (by rw [hs]; rfl) dX_isNumber_16
  · -- not taken
    refine lv_iload_n hx hb dX_isNumber_4 rfl (lv_at hl 0 rfl) ?_
    refine lv_sipush (v := nI 256) hx hb dX_isNumber_5 (by decide) ?_
    refine lv_icmp_ge (tgt := 15) hx hb dX_isNumber_8 (by decide) (fun c8 => ?_) (fun c8 => ?_)
    · -- taken
      have hs : inr_ 256 x = false := decide_eq_false (fun q => q.2 c8)
      refine lv_iconst (v := nI 0) hx hb dX_isNumber_15 (by decide) ?_
      exact zz_zretR (v := nI 0) hx hb hr hlocks (by decide) (by rw [hs]; rfl) dX_isNumber_16
    · -- not taken
      have hs : inr_ 256 x = true := decide_eq_true ⟨c1, c8⟩
      refine lv_iconst (v := nI 1) hx hb dX_isNumber_11 (by decide) ?_
      refine lv_goto (tgt := 16) hx hb dX_isNumber_12 (by decide) ?_
      exact zz_zretR (v := nI 1) hx hb hr hlocks (by decide) (by rw [hs]; rfl) dX_isNumber_16

abbrev rm_X_isPredicate : Room := { frames := 0, cells := 0, slots := 0, locals := 0 }
set_option maxHeartbeats 4000000 in
set_option maxRecDepth 100000 in
theorem c_X_isPredicate (l : Launch) (x : Int32) : Met l yX_isPredicate wX_isPredicate rm_X_isPredicate (zz_N [.int x]) (vp_Si (fun r : Int32 => r = nI (inr_ 8 x).toNat)) 0 0 (fun _ => False) := by
  refine Met.ofW (cc := cX_isPredicate) (maxL := 1) (ret := (some .boolean)) (by decide) rfl ?_
  intro pg ev s mt args below meth kd s₁ B hml hv
  have hv : args = _ := hv
  subst hv
  have hx := B.exec
  have hb := B.bytes
  have hr := B.returns
  have ht : ∀ w ∈ W0, w.before _ s = true := fun w h => atoms_spec (ws := wX_isPredicate) B.pre w (List.mem_cons_of_mem _ h)
  have hown : s.vm.findClass "StatRows" = some mt.cls := findClass_of_methodNamed B.named
  have hlocks := B.notSynchronized
  have hl := lv_entry ([.int x]) (n := 1) (Nat.le_of_ble_eq_true rfl)
  rw [lg_entry_eq]
  generalize (lg_sl ([.int x]) ++ List.replicate (1 - (lg_sl ([.int x])).length) Slot.unset).toArray = ls at hl ⊢
  have hl : lv_has ls 1 [(0, .int x)] := hl
  refine lv_iload_n hx hb dX_isPredicate_0 rfl (lv_at hl 0 rfl) ?_
  refine lv_if_lt (tgt := 14) hx hb dX_isPredicate_1 (by decide) (fun c1 => ?_) (fun c1 => ?_)
  · -- taken
    have hs : inr_ 8 x = false := decide_eq_false (fun q => q.1 c1)
    refine lv_iconst (v := nI 0) hx hb dX_isPredicate_14 (by decide) ?_
    exact zz_zretR (v := nI 0) hx hb hr hlocks (by decide) (by rw [hs]; rfl) dX_isPredicate_15
  · -- not taken
    refine lv_iload_n hx hb dX_isPredicate_4 rfl (lv_at hl 0 rfl) ?_
    refine lv_bipush (v := nI 8) hx hb dX_isPredicate_5 (by decide) ?_
    refine lv_icmp_ge (tgt := 14) hx hb dX_isPredicate_7 (by decide) (fun c7 => ?_) (fun c7 => ?_)
    · -- taken
      have hs : inr_ 8 x = false := decide_eq_false (fun q => q.2 c7)
      refine lv_iconst (v := nI 0) hx hb dX_isPredicate_14 (by decide) ?_
      exact zz_zretR (v := nI 0) hx hb hr hlocks (by decide) (by rw [hs]; rfl) dX_isPredicate_15
    · -- not taken
      have hs : inr_ 8 x = true := decide_eq_true ⟨c1, c7⟩
      refine lv_iconst (v := nI 1) hx hb dX_isPredicate_10 (by decide) ?_
      refine lv_goto (tgt := 15) hx hb dX_isPredicate_11 (by decide) ?_
      exact zz_zretR (v := nI 1) hx hb hr hlocks (by decide) (by rw [hs]; rfl) dX_isPredicate_15

abbrev rm_X_isPredicateSet : Room := { frames := 0, cells := 0, slots := 0, locals := 0 }
set_option maxHeartbeats 4000000 in
set_option maxRecDepth 100000 in
theorem c_X_isPredicateSet (l : Launch) (x : Int32) : Met l yX_isPredicateSet wX_isPredicateSet rm_X_isPredicateSet (zz_N [.int x]) (vp_Si (fun r : Int32 => r = nI (inr_ 256 x).toNat)) 0 0 (fun _ => False) := by
  refine Met.ofW (cc := cX_isPredicateSet) (maxL := 1) (ret := (some .boolean)) (by decide) rfl ?_
  intro pg ev s mt args below meth kd s₁ B hml hv
  have hv : args = _ := hv
  subst hv
  have hx := B.exec
  have hb := B.bytes
  have hr := B.returns
  have ht : ∀ w ∈ W0, w.before _ s = true := fun w h => atoms_spec (ws := wX_isPredicateSet) B.pre w (List.mem_cons_of_mem _ h)
  have hown : s.vm.findClass "StatRows" = some mt.cls := findClass_of_methodNamed B.named
  have hlocks := B.notSynchronized
  have hl := lv_entry ([.int x]) (n := 1) (Nat.le_of_ble_eq_true rfl)
  rw [lg_entry_eq]
  generalize (lg_sl ([.int x]) ++ List.replicate (1 - (lg_sl ([.int x])).length) Slot.unset).toArray = ls at hl ⊢
  have hl : lv_has ls 1 [(0, .int x)] := hl
  refine lv_iload_n hx hb dX_isPredicateSet_0 rfl (lv_at hl 0 rfl) ?_
  refine lv_if_lt (tgt := 15) hx hb dX_isPredicateSet_1 (by decide) (fun c1 => ?_) (fun c1 => ?_)
  · -- taken
    have hs : inr_ 256 x = false := decide_eq_false (fun q => q.1 c1)
    refine lv_iconst (v := nI 0) hx hb dX_isPredicateSet_15 (by decide) ?_
    exact zz_zretR (v := nI 0) hx hb hr hlocks (by decide) (by rw [hs]; rfl) dX_isPredicateSet_16
  · -- not taken
    refine lv_iload_n hx hb dX_isPredicateSet_4 rfl (lv_at hl 0 rfl) ?_
    refine lv_sipush (v := nI 256) hx hb dX_isPredicateSet_5 (by decide) ?_
    refine lv_icmp_ge (tgt := 15) hx hb dX_isPredicateSet_8 (by decide) (fun c8 => ?_) (fun c8 => ?_)
    · -- taken
      have hs : inr_ 256 x = false := decide_eq_false (fun q => q.2 c8)
      refine lv_iconst (v := nI 0) hx hb dX_isPredicateSet_15 (by decide) ?_
      exact zz_zretR (v := nI 0) hx hb hr hlocks (by decide) (by rw [hs]; rfl) dX_isPredicateSet_16
    · -- not taken
      have hs : inr_ 256 x = true := decide_eq_true ⟨c1, c8⟩
      refine lv_iconst (v := nI 1) hx hb dX_isPredicateSet_11 (by decide) ?_
      refine lv_goto (tgt := 16) hx hb dX_isPredicateSet_12 (by decide) ?_
      exact zz_zretR (v := nI 1) hx hb hr hlocks (by decide) (by rw [hs]; rfl) dX_isPredicateSet_16

abbrev rm_X_isNumberOrAny : Room := { frames := 1, cells := 0, slots := 0, locals := 20 }
set_option maxHeartbeats 4000000 in
set_option maxRecDepth 100000 in
theorem c_X_isNumberOrAny (l : Launch) (x : Int32) : Met l yX_isNumberOrAny wX_isNumberOrAny rm_X_isNumberOrAny (zz_N [.int x]) (vp_Si (fun r : Int32 => r = nI (decide (x = -1) || inr_ 256 x).toNat)) 0 0 (fun _ => False) := by
  refine Met.ofW (cc := cX_isNumberOrAny) (maxL := 1) (ret := (some .boolean)) (by decide) rfl ?_
  intro pg ev s mt args below meth kd s₁ B hml hv
  have hv : args = _ := hv
  subst hv
  have hx := B.exec
  have hb := B.bytes
  have hr := B.returns
  have ht : ∀ w ∈ W0, w.before _ s = true := fun w h => atoms_spec (ws := wX_isNumberOrAny) B.pre w (List.mem_cons_of_mem _ h)
  have hown : s.vm.findClass "StatRows" = some mt.cls := findClass_of_methodNamed B.named
  have hlocks := B.notSynchronized
  have hl := lv_entry ([.int x]) (n := 1) (Nat.le_of_ble_eq_true rfl)
  rw [lg_entry_eq]
  generalize (lg_sl ([.int x]) ++ List.replicate (1 - (lg_sl ([.int x])).length) Slot.unset).toArray = ls at hl ⊢
  have hl : lv_has ls 1 [(0, .int x)] := hl
  have b1 := btl (inr_ 256 x)
  refine lv_iload_n hx hb dX_isNumberOrAny_0 rfl (lv_at hl 0 rfl) ?_
  refine lv_iconst (v := (-1)) hx hb dX_isNumberOrAny_1 (by decide) ?_
  refine lv_icmp_eq (tgt := 12) hx hb dX_isNumberOrAny_2 (by decide) (fun c2 => ?_) (fun c2 => ?_)
  · -- taken
    have hs : (decide (x = -1) || inr_ 256 x) = true := by rw [decide_eq_true c2]; rfl
    refine lv_iconst (v := nI 1) hx hb dX_isNumberOrAny_12 (by decide) ?_
    refine lv_goto (tgt := 17) hx hb dX_isNumberOrAny_13 (by decide) ?_
    exact zz_zretR (v := nI 1) hx hb hr hlocks (by decide) (by rw [hs]; rfl) dX_isNumberOrAny_17
  · -- not taken
    refine lv_iload_n hx hb dX_isNumberOrAny_5 rfl (lv_at hl 0 rfl) ?_
    refine zz_ci (v := nI ((inr_ 256 x).toNat)) (W.runS (As := [.int x]) (rest := []) ⟨hx, hb, hml, hown, ht⟩ (c_X_isNumber l x) (va_cwS 1 ht (gd_S wd100 wd101 wd1 wd102) rfl rfl rfl (by decide +kernel) ⟨Nat.le_of_ble_eq_true rfl, Nat.le_of_ble_eq_true rfl⟩) zz_N_S rfl rfl hl.1 rfl (lv_room (Nat.le_of_ble_eq_true rfl)) dX_isNumberOrAny_6 ⟨Nat.le_of_ble_eq_true rfl, Nat.le_of_ble_eq_true rfl⟩) ?_
    refine lv_if_eq (tgt := 16) hx hb dX_isNumberOrAny_9 (by decide) (fun c9 => ?_) (fun c9 => ?_)
    · -- taken
      have c9 : (inr_ 256 x).toNat = 0 := (nI_eq (a := (inr_ 256 x).toNat) (b := 0) (by omega) (by omega)).mp c9
      have hs : (decide (x = -1) || inr_ 256 x) = false := by rw [decide_eq_false c2, bt0 c9]; rfl
      refine lv_iconst (v := nI 0) hx hb dX_isNumberOrAny_16 (by decide) ?_
      exact zz_zretR (v := nI 0) hx hb hr hlocks (by decide) (by rw [hs]; rfl) dX_isNumberOrAny_17
    · -- not taken
      have c9 : ¬ ((inr_ 256 x).toNat = 0) := fun h => c9 ((nI_eq (a := (inr_ 256 x).toNat) (b := 0) (by omega) (by omega)).mpr h)
      have hs : (decide (x = -1) || inr_ 256 x) = true := by rw [decide_eq_false c2, bt1 c9]; rfl
      refine lv_iconst (v := nI 1) hx hb dX_isNumberOrAny_12 (by decide) ?_
      refine lv_goto (tgt := 17) hx hb dX_isNumberOrAny_13 (by decide) ?_
      exact zz_zretR (v := nI 1) hx hb hr hlocks (by decide) (by rw [hs]; rfl) dX_isNumberOrAny_17

abbrev rm_X_isPredicateOrAny : Room := { frames := 1, cells := 0, slots := 0, locals := 20 }
set_option maxHeartbeats 4000000 in
set_option maxRecDepth 100000 in
theorem c_X_isPredicateOrAny (l : Launch) (x : Int32) : Met l yX_isPredicateOrAny wX_isPredicateOrAny rm_X_isPredicateOrAny (zz_N [.int x]) (vp_Si (fun r : Int32 => r = nI (decide (x = -1) || inr_ 8 x).toNat)) 0 0 (fun _ => False) := by
  refine Met.ofW (cc := cX_isPredicateOrAny) (maxL := 1) (ret := (some .boolean)) (by decide) rfl ?_
  intro pg ev s mt args below meth kd s₁ B hml hv
  have hv : args = _ := hv
  subst hv
  have hx := B.exec
  have hb := B.bytes
  have hr := B.returns
  have ht : ∀ w ∈ W0, w.before _ s = true := fun w h => atoms_spec (ws := wX_isPredicateOrAny) B.pre w (List.mem_cons_of_mem _ h)
  have hown : s.vm.findClass "StatRows" = some mt.cls := findClass_of_methodNamed B.named
  have hlocks := B.notSynchronized
  have hl := lv_entry ([.int x]) (n := 1) (Nat.le_of_ble_eq_true rfl)
  rw [lg_entry_eq]
  generalize (lg_sl ([.int x]) ++ List.replicate (1 - (lg_sl ([.int x])).length) Slot.unset).toArray = ls at hl ⊢
  have hl : lv_has ls 1 [(0, .int x)] := hl
  have b1 := btl (inr_ 8 x)
  refine lv_iload_n hx hb dX_isPredicateOrAny_0 rfl (lv_at hl 0 rfl) ?_
  refine lv_iconst (v := (-1)) hx hb dX_isPredicateOrAny_1 (by decide) ?_
  refine lv_icmp_eq (tgt := 12) hx hb dX_isPredicateOrAny_2 (by decide) (fun c2 => ?_) (fun c2 => ?_)
  · -- taken
    have hs : (decide (x = -1) || inr_ 8 x) = true := by rw [decide_eq_true c2]; rfl
    refine lv_iconst (v := nI 1) hx hb dX_isPredicateOrAny_12 (by decide) ?_
    refine lv_goto (tgt := 17) hx hb dX_isPredicateOrAny_13 (by decide) ?_
    exact zz_zretR (v := nI 1) hx hb hr hlocks (by decide) (by rw [hs]; rfl) dX_isPredicateOrAny_17
  · -- not taken
    refine lv_iload_n hx hb dX_isPredicateOrAny_5 rfl (lv_at hl 0 rfl) ?_
    refine zz_ci (v := nI ((inr_ 8 x).toNat)) (W.runS (As := [.int x]) (rest := []) ⟨hx, hb, hml, hown, ht⟩ (c_X_isPredicate l x) (va_cwS 1 ht (gd_S wd103 wd104 wd1 wd105) rfl rfl rfl (by decide +kernel) ⟨Nat.le_of_ble_eq_true rfl, Nat.le_of_ble_eq_true rfl⟩) zz_N_S rfl rfl hl.1 rfl (lv_room (Nat.le_of_ble_eq_true rfl)) dX_isPredicateOrAny_6 ⟨Nat.le_of_ble_eq_true rfl, Nat.le_of_ble_eq_true rfl⟩) ?_
    refine lv_if_eq (tgt := 16) hx hb dX_isPredicateOrAny_9 (by decide) (fun c9 => ?_) (fun c9 => ?_)
    · -- taken
      have c9 : (inr_ 8 x).toNat = 0 := (nI_eq (a := (inr_ 8 x).toNat) (b := 0) (by omega) (by omega)).mp c9
      have hs : (decide (x = -1) || inr_ 8 x) = false := by rw [decide_eq_false c2, bt0 c9]; rfl
      refine lv_iconst (v := nI 0) hx hb dX_isPredicateOrAny_16 (by decide) ?_
      exact zz_zretR (v := nI 0) hx hb hr hlocks (by decide) (by rw [hs]; rfl) dX_isPredicateOrAny_17
    · -- not taken
      have c9 : ¬ ((inr_ 8 x).toNat = 0) := fun h => c9 ((nI_eq (a := (inr_ 8 x).toNat) (b := 0) (by omega) (by omega)).mpr h)
      have hs : (decide (x = -1) || inr_ 8 x) = true := by rw [decide_eq_false c2, bt1 c9]; rfl
      refine lv_iconst (v := nI 1) hx hb dX_isPredicateOrAny_12 (by decide) ?_
      refine lv_goto (tgt := 17) hx hb dX_isPredicateOrAny_13 (by decide) ?_
      exact zz_zretR (v := nI 1) hx hb hr hlocks (by decide) (by rw [hs]; rfl) dX_isPredicateOrAny_17

abbrev rm_X_isTriple : Room := { frames := 1, cells := 0, slots := 0, locals := 20 }
set_option maxHeartbeats 4000000 in
set_option maxRecDepth 100000 in
theorem c_X_isTriple (l : Launch) (s1 p1 o1 : Int32) : Met l yX_isTriple wX_isTriple rm_X_isTriple (zz_N [.int s1, .int p1, .int o1]) (vp_Si (fun r : Int32 => r = nI (inr_ 256 s1 && inr_ 8 p1 && inr_ 256 o1).toNat)) 0 0 (fun _ => False) := by
  refine Met.ofW (cc := cX_isTriple) (maxL := 3) (ret := (some .boolean)) (by decide) rfl ?_
  intro pg ev s mt args below meth kd s₁ B hml hv
  have hv : args = _ := hv
  subst hv
  have hx := B.exec
  have hb := B.bytes
  have hr := B.returns
  have ht : ∀ w ∈ W0, w.before _ s = true := fun w h => atoms_spec (ws := wX_isTriple) B.pre w (List.mem_cons_of_mem _ h)
  have hown : s.vm.findClass "StatRows" = some mt.cls := findClass_of_methodNamed B.named
  have hlocks := B.notSynchronized
  have hl := lv_entry ([.int s1, .int p1, .int o1]) (n := 3) (Nat.le_of_ble_eq_true rfl)
  rw [lg_entry_eq]
  generalize (lg_sl ([.int s1, .int p1, .int o1]) ++ List.replicate (3 - (lg_sl ([.int s1, .int p1, .int o1])).length) Slot.unset).toArray = ls at hl ⊢
  have hl : lv_has ls 3 [(0, .int s1), (1, .int p1), (2, .int o1)] := hl
  have b1 := btl (inr_ 256 s1)
  have b2 := btl (inr_ 8 p1)
  have b3 := btl (inr_ 256 o1)
  refine lv_iload_n hx hb dX_isTriple_0 rfl (lv_at hl 0 rfl) ?_
  refine zz_ci (v := nI ((inr_ 256 s1).toNat)) (W.runS (As := [.int s1]) (rest := []) ⟨hx, hb, hml, hown, ht⟩ (c_X_isNumber l s1) (va_cwS 1 ht (gd_S wd100 wd101 wd1 wd102) rfl rfl rfl (by decide +kernel) ⟨Nat.le_of_ble_eq_true rfl, Nat.le_of_ble_eq_true rfl⟩) zz_N_S rfl rfl hl.1 rfl (lv_room (Nat.le_of_ble_eq_true rfl)) dX_isTriple_1 ⟨Nat.le_of_ble_eq_true rfl, Nat.le_of_ble_eq_true rfl⟩) ?_
  refine lv_if_eq (tgt := 25) hx hb dX_isTriple_4 (by decide) (fun c4 => ?_) (fun c4 => ?_)
  · -- taken
    have c4 : (inr_ 256 s1).toNat = 0 := (nI_eq (a := (inr_ 256 s1).toNat) (b := 0) (by omega) (by omega)).mp c4
    have hs : (inr_ 256 s1 && inr_ 8 p1 && inr_ 256 o1) = false := by rw [bt0 c4]; rfl
    refine lv_iconst (v := nI 0) hx hb dX_isTriple_25 (by decide) ?_
    exact zz_zretR (v := nI 0) hx hb hr hlocks (by decide) (by rw [hs]; rfl) dX_isTriple_26
  · -- not taken
    have c4 : ¬ ((inr_ 256 s1).toNat = 0) := fun h => c4 ((nI_eq (a := (inr_ 256 s1).toNat) (b := 0) (by omega) (by omega)).mpr h)
    have e1 := bt1 c4
    refine lv_iload_n hx hb dX_isTriple_7 rfl (lv_at hl 1 rfl) ?_
    refine zz_ci (v := nI ((inr_ 8 p1).toNat)) (W.runS (As := [.int p1]) (rest := []) ⟨hx, hb, hml, hown, ht⟩ (c_X_isPredicate l p1) (va_cwS 1 ht (gd_S wd103 wd104 wd1 wd105) rfl rfl rfl (by decide +kernel) ⟨Nat.le_of_ble_eq_true rfl, Nat.le_of_ble_eq_true rfl⟩) zz_N_S rfl rfl hl.1 rfl (lv_room (Nat.le_of_ble_eq_true rfl)) dX_isTriple_8 ⟨Nat.le_of_ble_eq_true rfl, Nat.le_of_ble_eq_true rfl⟩) ?_
    refine lv_if_eq (tgt := 25) hx hb dX_isTriple_11 (by decide) (fun c11 => ?_) (fun c11 => ?_)
    · -- taken
      have c11 : (inr_ 8 p1).toNat = 0 := (nI_eq (a := (inr_ 8 p1).toNat) (b := 0) (by omega) (by omega)).mp c11
      have hs : (inr_ 256 s1 && inr_ 8 p1 && inr_ 256 o1) = false := by rw [e1, bt0 c11]; rfl
      refine lv_iconst (v := nI 0) hx hb dX_isTriple_25 (by decide) ?_
      exact zz_zretR (v := nI 0) hx hb hr hlocks (by decide) (by rw [hs]; rfl) dX_isTriple_26
    · -- not taken
      have c11 : ¬ ((inr_ 8 p1).toNat = 0) := fun h => c11 ((nI_eq (a := (inr_ 8 p1).toNat) (b := 0) (by omega) (by omega)).mpr h)
      have e2 := bt1 c11
      refine lv_iload_n hx hb dX_isTriple_14 rfl (lv_at hl 2 rfl) ?_
      refine zz_ci (v := nI ((inr_ 256 o1).toNat)) (W.runS (As := [.int o1]) (rest := []) ⟨hx, hb, hml, hown, ht⟩ (c_X_isNumber l o1) (va_cwS 1 ht (gd_S wd100 wd101 wd1 wd102) rfl rfl rfl (by decide +kernel) ⟨Nat.le_of_ble_eq_true rfl, Nat.le_of_ble_eq_true rfl⟩) zz_N_S rfl rfl hl.1 rfl (lv_room (Nat.le_of_ble_eq_true rfl)) dX_isTriple_15 ⟨Nat.le_of_ble_eq_true rfl, Nat.le_of_ble_eq_true rfl⟩) ?_
      refine lv_if_eq (tgt := 25) hx hb dX_isTriple_18 (by decide) (fun c18 => ?_) (fun c18 => ?_)
      · -- taken
        have c18 : (inr_ 256 o1).toNat = 0 := (nI_eq (a := (inr_ 256 o1).toNat) (b := 0) (by omega) (by omega)).mp c18
        have hs : (inr_ 256 s1 && inr_ 8 p1 && inr_ 256 o1) = false := by rw [e1, e2, bt0 c18]; rfl
        refine lv_iconst (v := nI 0) hx hb dX_isTriple_25 (by decide) ?_
        exact zz_zretR (v := nI 0) hx hb hr hlocks (by decide) (by rw [hs]; rfl) dX_isTriple_26
      · -- not taken
        have c18 : ¬ ((inr_ 256 o1).toNat = 0) := fun h => c18 ((nI_eq (a := (inr_ 256 o1).toNat) (b := 0) (by omega) (by omega)).mpr h)
        have hs : (inr_ 256 s1 && inr_ 8 p1 && inr_ 256 o1) = true := by rw [e1, e2, bt1 c18]; rfl
        refine lv_iconst (v := nI 1) hx hb dX_isTriple_21 (by decide) ?_
        refine lv_goto (tgt := 26) hx hb dX_isTriple_22 (by decide) ?_
        exact zz_zretR (v := nI 1) hx hb hr hlocks (by decide) (by rw [hs]; rfl) dX_isTriple_26

abbrev rm_X_pair : Room := { frames := 0, cells := 0, slots := 0, locals := 0 }
set_option maxHeartbeats 4000000 in
set_option maxRecDepth 100000 in
theorem c_X_pair (l : Launch) (a b : Nat) : Met l yX_pair wX_pair rm_X_pair (zz_N [.int (nI a), .int (nI b)]) (vp_Si (fun r : Int32 => r = nI (256 * a + b))) 0 0 (fun _ => False) := by
  refine Met.ofW (cc := cX_pair) (maxL := 2) (ret := (some .int)) (by decide) rfl ?_
  intro pg ev s mt args below meth kd s₁ B hml hv
  have hv : args = _ := hv
  subst hv
  have hx := B.exec
  have hb := B.bytes
  have hr := B.returns
  have ht : ∀ w ∈ W0, w.before _ s = true := fun w h => atoms_spec (ws := wX_pair) B.pre w (List.mem_cons_of_mem _ h)
  have hown : s.vm.findClass "StatRows" = some mt.cls := findClass_of_methodNamed B.named
  have hlocks := B.notSynchronized
  have hl := lv_entry ([.int (nI a), .int (nI b)]) (n := 2) (Nat.le_of_ble_eq_true rfl)
  rw [lg_entry_eq]
  generalize (lg_sl ([.int (nI a), .int (nI b)]) ++ List.replicate (2 - (lg_sl ([.int (nI a), .int (nI b)])).length) Slot.unset).toArray = ls at hl ⊢
  have hl : lv_has ls 2 [(0, .int (nI a)), (1, .int (nI b))] := hl
  refine lv_sipush (v := nI 256) hx hb dX_pair_0 (by decide) ?_
  refine lv_iload_n hx hb dX_pair_3 rfl (lv_at hl 0 rfl) ?_
  refine lv_imul hx hb dX_pair_4 ?_
  refine zz_top (y := nI (256 * a)) (pk_mul 256 a) ?_
  refine lv_iload_n hx hb dX_pair_5 rfl (lv_at hl 1 rfl) ?_
  refine lv_iadd hx hb dX_pair_6 ?_
  refine zz_top (y := nI ((256 * a) + b)) (nI_add (256 * a) b) ?_
  exact zz_iretR (v := nI ((256 * a) + b)) hx hb hr hlocks (rfl) dX_pair_7

abbrev rm_X_shared : Room := { frames := 1, cells := 0, slots := 0, locals := 32 }
set_option maxHeartbeats 4000000 in
set_option maxRecDepth 100000 in
theorem c_X_shared (l : Launch) (a : Nat) (ha : a ≤ 224) (fr to : Int32) : Met l yX_shared wX_shared rm_X_shared (zz_N [.int (nI a), .int (nI (a + 31)), .int fr, .int to]) (vp_Si (fun r : Int32 => r = nI (many a fr to))) 0 0 (fun _ => False) := by
  refine Met.ofW (cc := cX_shared) (maxL := 6) (ret := (some .int)) (by decide) rfl ?_
  intro pg ev s mt args below meth kd s₁ B hml hv
  have hv : args = _ := hv
  subst hv
  have hx := B.exec
  have hb := B.bytes
  have hr := B.returns
  have ht : ∀ w ∈ W0, w.before _ s = true := fun w h => atoms_spec (ws := wX_shared) B.pre w (List.mem_cons_of_mem _ h)
  have hown : s.vm.findClass "StatRows" = some mt.cls := findClass_of_methodNamed B.named
  have hlocks := B.notSynchronized
  have hl := lv_entry ([.int (nI a), .int (nI (a + 31)), .int fr, .int to]) (n := 6) (Nat.le_of_ble_eq_true rfl)
  rw [lg_entry_eq]
  generalize (lg_sl ([.int (nI a), .int (nI (a + 31)), .int fr, .int to]) ++ List.replicate (6 - (lg_sl ([.int (nI a), .int (nI (a + 31)), .int fr, .int to])).length) Slot.unset).toArray = ls at hl ⊢
  have hl : lv_has ls 6 [(0, .int (nI a)), (1, .int (nI (a + 31))), (2, .int fr), (3, .int to)] := hl
  refine lv_iload_n hx hb dX_shared_0 rfl (lv_at hl 0 rfl) ?_
  refine lv_iload_n hx hb dX_shared_1 rfl (lv_at hl 2 rfl) ?_
  refine va_mmax (x := nI a) (y := fr) hx hb (hml.trans hl.1.symm) hown (ht _ wd278) (ht _ wd252) (ht _ wd9) (ht _ wd253) (Nat.le_of_ble_eq_true rfl) (Nat.le_of_ble_eq_true rfl) (Nat.le_of_ble_eq_true rfl) (Nat.le_of_ble_eq_true rfl) dX_shared_2 ?_
  refine lv_topi (fun lo elo => ?_)
  refine lv_istore (lv' := [(4, .int lo), (0, .int (nI a)), (1, .int (nI (a + 31))), (2, .int fr), (3, .int to)]) hx hb dX_shared_5 hl (by decide) rfl (fun ls hl => ?_)
  refine lv_iload_n hx hb dX_shared_7 rfl (lv_at hl 2 rfl) ?_
  refine lv_iload_n hx hb dX_shared_8 rfl (lv_at hl 4 rfl) ?_
  refine va_mmin (x := nI (a + 31)) (y := to) hx hb (hml.trans hl.1.symm) hown (ht _ wd291) (ht _ wd292) (ht _ wd9) (ht _ wd293) (Nat.le_of_ble_eq_true rfl) (Nat.le_of_ble_eq_true rfl) (Nat.le_of_ble_eq_true rfl) (Nat.le_of_ble_eq_true rfl) dX_shared_9 ?_
  refine lv_topi (fun hi ehi => ?_)
  refine lv_istore (lv' := [(5, .int hi), (4, .int lo), (0, .int (nI a)), (1, .int (nI (a + 31))), (2, .int fr), (3, .int to)]) hx hb dX_shared_12 hl (by decide) rfl (fun ls hl => ?_)
  refine lv_iload hx hb dX_shared_14 (lv_at hl 1 rfl) ?_
  refine lv_iload hx hb dX_shared_16 (lv_at hl 0 rfl) ?_
  refine lv_icmp_le (tgt := 25) hx hb dX_shared_18 (by decide) (fun c18 => ?_) (fun c18 => ?_)
  · -- taken
    refine lv_iload hx hb dX_shared_25 (lv_at hl 0 rfl) ?_
    refine lv_iload hx hb dX_shared_27 (lv_at hl 1 rfl) ?_
    refine lv_isub hx hb dX_shared_29 ?_
    refine lv_iconst (v := nI 1) hx hb dX_shared_30 (by decide) ?_
    refine lv_iadd hx hb dX_shared_31 ?_
    exact zz_iretR (v := (hi - lo) + (nI 1)) hx hb hr hlocks (shared1 ha elo ehi c18) dX_shared_32
  · -- not taken
    refine lv_iconst (v := nI 0) hx hb dX_shared_21 (by decide) ?_
    refine lv_goto (tgt := 32) hx hb dX_shared_22 (by decide) ?_
    exact zz_iretR (v := nI 0) hx hb hr hlocks (shared0 ha elo ehi c18) dX_shared_32

abbrev rm_X_clearTally : Room := { frames := 1, cells := 0, slots := 0, locals := 23 }
set_option maxHeartbeats 4000000 in
set_option maxRecDepth 100000 in
theorem c_X_clearTally (l : Launch) (D : va_G) (cI cB : ClassId) (sz : Nat) (x0 t0 t1 t2 p0 v0 g0 ta : Nat) (tl : Nat → Int32) : Met l yX_clearTally wX_clearTally rm_X_clearTally (zz_P D vwCl [(cI, .int), (cB, .boolean)] [.ref x0] [(x0, .inr (4, [.ref t0, .ref p0, .ref v0, .ref g0, .ref ta])), (ta, .inl (cI, 256, .inl tl))] sz) (va_Qv (fun u : (Nat → Int32) => ∀ j, j < 256 → u j = nI 0) (fun u : (Nat → Int32) => zz_B D vwCl [(cI, .int), (cB, .boolean)] (va_A [(x0, .inr (4, [.ref t0, .ref p0, .ref v0, .ref g0, .ref ta])), (ta, .inl (cI, 256, .inl tl))] sz) [(x0, .inr (4, [.ref t0, .ref p0, .ref v0, .ref g0, .ref ta])), (ta, .inl (cI, 256, .inl u))]) (va_A [(x0, .inr (4, [.ref t0, .ref p0, .ref v0, .ref g0, .ref ta])), (ta, .inl (cI, 256, .inl tl))] sz)) 0 0 (va_A [(x0, .inr (4, [.ref t0, .ref p0, .ref v0, .ref g0, .ref ta])), (ta, .inl (cI, 256, .inl tl))] sz) := by
  refine Met.ofW (cc := cX_clearTally) (maxL := 1) (ret := none) (by decide) rfl ?_
  intro pg ev s mt args below meth kd s₁ B hml hv
  obtain ⟨rfl, hsz, hP, hK, hD0, hN⟩ := hv
  have hx := B.exec
  have hb := B.bytes
  have hr := B.returns
  have ht : ∀ w ∈ W0, w.before _ s = true := fun w h => atoms_spec (ws := wX_clearTally) B.pre w (List.mem_cons_of_mem _ h)
  have hown : s.vm.findClass "StatRows" = some mt.cls := findClass_of_methodNamed B.named
  have hlocks := B.notSynchronized
  subst hsz
  have hD := hD0.self (sz := s.heap.size)
  generalize hAe : va_A [(x0, .inr (4, [.ref t0, .ref p0, .ref v0, .ref g0, .ref ta])), (ta, .inl (cI, 256, .inl tl))] s.heap.size = A at hD ⊢
  have hA : ∀ q : Nat, s.heap.size ≤ q → A q := fun q h => by rw [← hAe]; exact Or.inr h
  have hS : va_S A s.heap s.heap [] := va_S.rf
  have hP : va_P D vwCl [(x0, .inr (4, [.ref t0, .ref p0, .ref v0, .ref g0, .ref ta])), (ta, .inl (cI, 256, .inl tl))] s.heap := hP
  have hl := lv_entry ([.ref x0]) (n := 1) (Nat.le_of_ble_eq_true rfl)
  rw [lg_entry_eq]
  generalize (lg_sl ([.ref x0]) ++ List.replicate (1 - (lg_sl ([.ref x0])).length) Slot.unset).toArray = ls at hl ⊢
  have hl : lv_has ls 1 [(0, .ref x0)] := hl
  refine lv_aload_n hx hb dX_clearTally_0 rfl (lv_at hl 0 rfl) ?_
  refine va_get (D := D) (ci := 4) (v := .ref ta) (C := "StatRows") (T := TX) (N := 5) hx hb ht inX hown hK hP 0 rfl rfl 4 (by decide) (ht _ wd81) (fun _ h9 => h9) rfl dX_clearTally_1 ?_
  refine lv_iconst (v := nI 0) hx hb dX_clearTally_4 (by decide) ?_
  refine zz_wv (wc := [(ta, .inl (cI, 256, .inl tl))]) (wr := [(x0, .inr (4, [.ref t0, .ref p0, .ref v0, .ref g0, .ref ta]))]) (va_runS (As := [.ref ta, .int (nI 0)]) (rest := []) ⟨hx, hb, hml, hown, ht⟩ (c_JA_fill l D cI cB s.heap.size ta 256 tl (nI 0) (by decide)) (va_cwS 2 ht (gd_S wd164 wd165 wd8 wd166) rfl rfl rfl (by decide +kernel) ⟨Nat.le_of_ble_eq_true rfl, Nat.le_of_ble_eq_true rfl⟩) (zz_P_S hN hK (hP.sub (ws' := [(ta, .inl (cI, 256, .inl tl))]) [1] rfl) (hD.sub (ws' := [(ta, .inl (cI, 256, .inl tl))]) [1] (by decide) rfl)) rfl rfl hl.1 rfl (lv_room (Nat.le_of_ble_eq_true rfl)) dX_clearTally_5 ⟨Nat.le_of_ble_eq_true rfl, Nat.le_of_ble_eq_true rfl⟩) hP hD hS hA [1] [0] rfl rfl (by decide) (by decide) (fun u5 H locs hq5 hP hD hS => ?_)
  have hP := hP.sub (ws' := [(x0, .inr (4, [.ref t0, .ref p0, .ref v0, .ref g0, .ref ta])), (ta, .inl (cI, 256, .inl u5))]) [0, 1] rfl
  have hD := hD.sub (ws' := [(x0, .inr (4, [.ref t0, .ref p0, .ref v0, .ref g0, .ref ta])), (ta, .inl (cI, 256, .inl u5))]) [0, 1] (by decide) rfl
  exact zz_vretW (w1 := fun u : (Nat → Int32) => [(x0, .inr (4, [.ref t0, .ref p0, .ref v0, .ref g0, .ref ta])), (ta, .inl (cI, 256, .inl u))]) u5 hx hb hr hlocks (hq5) hP hK hD hS dX_clearTally_8

abbrev rm_X_tallySubjects : Room := { frames := 1, cells := 0, slots := 0, locals := 21 }
set_option maxHeartbeats 4000000 in
set_option maxRecDepth 100000 in
theorem c_X_tallySubjects (l : Launch) (D : va_G) (cI cB : ClassId) (sz : Nat) (x0 t0 t1 t2 p0 v0 g0 ta : Nat) (f g : Nat → Int32) (Ls : Nat → List Nat) (hT : RT Ls f g) (tl : Nat → Int32) (tv : Nat → Nat) (htv : ∀ v, v < 256 → tl v = nI (tv v)) (pp : Nat) (hp : pp < 8) : Met l yX_tallySubjects wX_tallySubjects rm_X_tallySubjects (zz_P D vwCl [(cI, .int), (cB, .boolean)] [.ref x0, .int (nI pp)] [(x0, .inr (4, [.ref t0, .ref p0, .ref v0, .ref g0, .ref ta])), (t0, .inr (0, [.ref t1, .ref t2])), (t1, .inl (cI, 400, .inl f)), (t2, .inl (cI, 9, .inl g)), (ta, .inl (cI, 256, .inl tl))] sz) (va_Qv (fun u : (Nat → Int32) => ∀ v, v < 256 → u v = nI (tv v + (Ls pp).countP (fun c => sub_ c == v))) (fun u : (Nat → Int32) => zz_B D vwCl [(cI, .int), (cB, .boolean)] (va_A [(x0, .inr (4, [.ref t0, .ref p0, .ref v0, .ref g0, .ref ta])), (t0, .inr (0, [.ref t1, .ref t2])), (t1, .inl (cI, 400, .inl f)), (t2, .inl (cI, 9, .inl g)), (ta, .inl (cI, 256, .inl tl))] sz) [(x0, .inr (4, [.ref t0, .ref p0, .ref v0, .ref g0, .ref ta])), (t0, .inr (0, [.ref t1, .ref t2])), (t1, .inl (cI, 400, .inl f)), (t2, .inl (cI, 9, .inl g)), (ta, .inl (cI, 256, .inl u))]) (va_A [(x0, .inr (4, [.ref t0, .ref p0, .ref v0, .ref g0, .ref ta])), (t0, .inr (0, [.ref t1, .ref t2])), (t1, .inl (cI, 400, .inl f)), (t2, .inl (cI, 9, .inl g)), (ta, .inl (cI, 256, .inl tl))] sz)) 0 0 (va_A [(x0, .inr (4, [.ref t0, .ref p0, .ref v0, .ref g0, .ref ta])), (t0, .inr (0, [.ref t1, .ref t2])), (t1, .inl (cI, 400, .inl f)), (t2, .inl (cI, 9, .inl g)), (ta, .inl (cI, 256, .inl tl))] sz) := by
  refine Met.ofW (cc := cX_tallySubjects) (maxL := 4) (ret := none) (by decide) rfl ?_
  intro pg ev s mt args below meth kd s₁ B hml hv
  obtain ⟨rfl, hsz, hP, hK, hD0, hN⟩ := hv
  have hx := B.exec
  have hb := B.bytes
  have hr := B.returns
  have ht : ∀ w ∈ W0, w.before _ s = true := fun w h => atoms_spec (ws := wX_tallySubjects) B.pre w (List.mem_cons_of_mem _ h)
  have hown : s.vm.findClass "StatRows" = some mt.cls := findClass_of_methodNamed B.named
  have hlocks := B.notSynchronized
  subst hsz
  have hD := hD0.self (sz := s.heap.size)
  generalize hAe : va_A [(x0, .inr (4, [.ref t0, .ref p0, .ref v0, .ref g0, .ref ta])), (t0, .inr (0, [.ref t1, .ref t2])), (t1, .inl (cI, 400, .inl f)), (t2, .inl (cI, 9, .inl g)), (ta, .inl (cI, 256, .inl tl))] s.heap.size = A at hD ⊢
  have hA : ∀ q : Nat, s.heap.size ≤ q → A q := fun q h => by rw [← hAe]; exact Or.inr h
  have hS : va_S A s.heap s.heap [] := va_S.rf
  have hP : va_P D vwCl [(x0, .inr (4, [.ref t0, .ref p0, .ref v0, .ref g0, .ref ta])), (t0, .inr (0, [.ref t1, .ref t2])), (t1, .inl (cI, 400, .inl f)), (t2, .inl (cI, 9, .inl g)), (ta, .inl (cI, 256, .inl tl))] s.heap := hP
  have hl := lv_entry ([.ref x0, .int (nI pp)]) (n := 4) (Nat.le_of_ble_eq_true rfl)
  rw [lg_entry_eq]
  generalize (lg_sl ([.ref x0, .int (nI pp)]) ++ List.replicate (4 - (lg_sl ([.ref x0, .int (nI pp)])).length) Slot.unset).toArray = ls at hl ⊢
  have hl : lv_has ls 4 [(0, .ref x0), (1, .int (nI pp))] := hl
  have htp := tr_top (Ls := Ls) hp
  have h400 := hT.2.2.1
  refine lv_aload_n hx hb dX_tallySubjects_0 rfl (lv_at hl 0 rfl) ?_
  refine va_get (D := D) (ci := 4) (v := .ref t0) (C := "StatRows") (T := TX) (N := 5) hx hb ht inX hown hK hP 0 rfl rfl 0 (by decide) (ht _ wd77) (fun _ h9 => h9) rfl dX_tallySubjects_1 ?_
  refine lv_iload_n hx hb dX_tallySubjects_4 rfl (lv_at hl 1 rfl) ?_
  refine zz_ci (v := nI (tr_off Ls pp + (Ls pp).length)) (W.runV (As := [.int (nI pp)]) (rest := []) ⟨hx, hb, hml, hown, ht⟩ (c_T_end l D cI cB t0 t1 t2 f g pp (tr_off Ls pp + (Ls pp).length) hp (hT.1 (pp + 1) (by omega))) (cwV 1 ht (gd_V wd171 wd118 wd119 wd2 wd120) rfl rfl rfl (by decide +kernel) ⟨Nat.le_of_ble_eq_true rfl, Nat.le_of_ble_eq_true rfl⟩) (zz_R_V hN hK (hP.sub (ws' := [(t0, .inr (0, [.ref t1, .ref t2])), (t1, .inl (cI, 400, .inl f)), (t2, .inl (cI, 9, .inl g))]) [1, 2, 3] rfl) 0 0 rfl rfl) rfl rfl hl.1 rfl (lv_room (Nat.le_of_ble_eq_true rfl)) dX_tallySubjects_5 ⟨Nat.le_of_ble_eq_true rfl, Nat.le_of_ble_eq_true rfl⟩) ?_
  refine lv_istore_n (lv' := [(2, .int (nI (tr_off Ls pp + (Ls pp).length))), (0, .ref x0), (1, .int (nI pp))]) hx hb dX_tallySubjects_8 rfl hl (by decide) rfl (fun ls hl => ?_)
  refine lv_aload_n hx hb dX_tallySubjects_9 rfl (lv_at hl 1 rfl) ?_
  refine va_get (D := D) (ci := 4) (v := .ref t0) (C := "StatRows") (T := TX) (N := 5) hx hb ht inX hown hK hP 0 rfl rfl 0 (by decide) (ht _ wd77) (fun _ h9 => h9) rfl dX_tallySubjects_10 ?_
  refine lv_iload_n hx hb dX_tallySubjects_13 rfl (lv_at hl 2 rfl) ?_
  refine zz_ci (v := nI (tr_off Ls pp + 0)) (W.runV (As := [.int (nI pp)]) (rest := []) ⟨hx, hb, hml, hown, ht⟩ (c_T_start l D cI cB t0 t1 t2 f g pp (tr_off Ls pp) (by omega) (hT.1 pp (by omega))) (cwV 1 ht (gd_V wd172 wd122 wd123 wd2 wd124) rfl rfl rfl (by decide +kernel) ⟨Nat.le_of_ble_eq_true rfl, Nat.le_of_ble_eq_true rfl⟩) (zz_R_V hN hK (hP.sub (ws' := [(t0, .inr (0, [.ref t1, .ref t2])), (t1, .inl (cI, 400, .inl f)), (t2, .inl (cI, 9, .inl g))]) [1, 2, 3] rfl) 0 0 rfl rfl) rfl rfl hl.1 rfl (lv_room (Nat.le_of_ble_eq_true rfl)) dX_tallySubjects_14 ⟨Nat.le_of_ble_eq_true rfl, Nat.le_of_ble_eq_true rfl⟩) ?_
  refine lv_istore_n (lv' := [(3, .int (nI (tr_off Ls pp + 0))), (2, .int (nI (tr_off Ls pp + (Ls pp).length))), (0, .ref x0), (1, .int (nI pp))]) hx hb dX_tallySubjects_17 rfl hl (by decide) rfl (fun ls hl => ?_)
  have lp18 : ∀ (fu : Nat) (i : Nat) (tk : Nat → Int32) (hi : i ≤ (Ls pp).length) (hz : ∀ v, v < 256 → tk v = nI (tv v + ((Ls pp).take i).countP (fun c => sub_ c == v))) (hm : (Ls pp).length - i < fu) (H : Heap) (locs : List Loc) (hP : va_P D vwCl [(x0, .inr (4, [.ref t0, .ref p0, .ref v0, .ref g0, .ref ta])), (t0, .inr (0, [.ref t1, .ref t2])), (t1, .inl (cI, 400, .inl f)), (t2, .inl (cI, 9, .inl g)), (ta, .inl (cI, 256, .inl tk))] H) (hD : va_D A [(x0, .inr (4, [.ref t0, .ref p0, .ref v0, .ref g0, .ref ta])), (t0, .inr (0, [.ref t1, .ref t2])), (t1, .inl (cI, 400, .inl f)), (t2, .inl (cI, 9, .inl g)), (ta, .inl (cI, 256, .inl tk))]) (hS : va_S A s.heap H locs) (ls : Array Slot) (hl : lv_has ls 4 [(0, .ref x0), (1, .int (nI pp)), (2, .int (nI (tr_off Ls pp + (Ls pp).length))), (3, .int (nI (tr_off Ls pp + i)))]), W pg l ev (headSpec wX_tallySubjects rm_X_tallySubjects).room s mt (([.ref x0, .int (nI pp)] : List Value).toArray) below meth kd H locs 0 0 (MQ below (va_Qv (fun u : (Nat → Int32) => ∀ v, v < 256 → u v = nI (tv v + (Ls pp).countP (fun c => sub_ c == v))) (fun u : (Nat → Int32) => zz_B D vwCl [(cI, .int), (cB, .boolean)] A [(x0, .inr (4, [.ref t0, .ref p0, .ref v0, .ref g0, .ref ta])), (t0, .inr (0, [.ref t1, .ref t2])), (t1, .inl (cI, 400, .inl f)), (t2, .inl (cI, 9, .inl g)), (ta, .inl (cI, 256, .inl u))]) A) (([.ref x0, .int (nI pp)] : List Value).toArray) s 0 0 A) (F0 mt 18 ls []) := by
    intro fu
    induction fu with
    | zero => intro i tk hi hz hm; exact absurd hm (Nat.not_lt_zero _)
    | succ fu ih18 =>
      intro i tk hi hz hm H locs hP hD hS ls hl
      refine lv_iload_n hx hb dX_tallySubjects_18 rfl (lv_at hl 3 rfl) ?_
      refine lv_iload_n hx hb dX_tallySubjects_19 rfl (lv_at hl 2 rfl) ?_
      refine lv_icmp_ge (tgt := 46) hx hb dX_tallySubjects_20 (by decide) (fun c20 => ?_) (fun c20 => ?_)
      · -- taken
        have c20 : tr_off Ls pp + (Ls pp).length ≤ tr_off Ls pp + i := (nI_leI (a := tr_off Ls pp + (Ls pp).length) (b := tr_off Ls pp + i) (by omega) (by omega)).mp c20
        exact zz_vretW (w1 := fun u : (Nat → Int32) => [(x0, .inr (4, [.ref t0, .ref p0, .ref v0, .ref g0, .ref ta])), (t0, .inr (0, [.ref t1, .ref t2])), (t1, .inl (cI, 400, .inl f)), (t2, .inl (cI, 9, .inl g)), (ta, .inl (cI, 256, .inl u))]) tk hx hb hr hlocks (fun v hv => by
          have h := hz v hv
          rw [tkl _ i (by omega)] at h
          exact h) hP hK hD hS dX_tallySubjects_46
      · -- not taken
        have c20 : ¬ (tr_off Ls pp + (Ls pp).length ≤ tr_off Ls pp + i) := fun h => c20 ((nI_leI (a := tr_off Ls pp + (Ls pp).length) (b := tr_off Ls pp + i) (by omega) (by omega)).mpr h)
        have hci := hT.2.2.2.1 pp hp i (by omega)
        refine lv_aload_n hx hb dX_tallySubjects_23 rfl (lv_at hl 0 rfl) ?_
        refine va_get (D := D) (ci := 4) (v := .ref ta) (C := "StatRows") (T := TX) (N := 5) hx hb ht inX hown hK hP 0 rfl rfl 4 (by decide) (ht _ wd81) (fun _ h9 => h9) rfl dX_tallySubjects_24 ?_
        refine lv_aload_n hx hb dX_tallySubjects_27 rfl (lv_at hl 0 rfl) ?_
        refine va_get (D := D) (ci := 4) (v := .ref t0) (C := "StatRows") (T := TX) (N := 5) hx hb ht inX hown hK hP 0 rfl rfl 0 (by decide) (ht _ wd77) (fun _ h9 => h9) rfl dX_tallySubjects_28 ?_
        refine lv_iload_n hx hb dX_tallySubjects_31 rfl (lv_at hl 3 rfl) ?_
        refine zz_ci (v := nI ((Ls pp).getD i 0 / 256)) (W.runV (As := [.int (nI (tr_off Ls pp + i))]) (rest := [.ref ta]) ⟨hx, hb, hml, hown, ht⟩ (c_T_subjectAt l D cI cB t0 t1 t2 f g (tr_off Ls pp + i) ((Ls pp).getD i 0) (by omega) (hT.2.1 pp hp i (by omega)) (hT.2.2.2.1 pp hp i (by omega))) (cwV 1 ht (gd_V wd173 wd174 wd175 wd2 wd176) rfl rfl rfl (by decide +kernel) ⟨Nat.le_of_ble_eq_true rfl, Nat.le_of_ble_eq_true rfl⟩) (zz_R_V hN hK (hP.sub (ws' := [(t0, .inr (0, [.ref t1, .ref t2])), (t1, .inl (cI, 400, .inl f)), (t2, .inl (cI, 9, .inl g))]) [1, 2, 3] rfl) 0 0 rfl rfl) rfl rfl hl.1 rfl (lv_room (Nat.le_of_ble_eq_true rfl)) dX_tallySubjects_32 ⟨Nat.le_of_ble_eq_true rfl, Nat.le_of_ble_eq_true rfl⟩) ?_
        refine lv_dup2_11 hx hb dX_tallySubjects_35 rfl rfl ?_
        refine zz_iald (k := (Ls pp).getD i 0 / 256) hx hb hK hP 4 0 rfl rfl (by omega) (by decide) dX_tallySubjects_36 ?_
        refine zz_top (y := nI (tv ((Ls pp).getD i 0 / 256) + ((Ls pp).take i).countP (fun c => sub_ c == ((Ls pp).getD i 0 / 256)))) (hz _ (by omega)) ?_
        refine lv_iconst (v := nI 1) hx hb dX_tallySubjects_37 (by decide) ?_
        refine lv_iadd hx hb dX_tallySubjects_38 ?_
        refine zz_top (y := nI ((tv ((Ls pp).getD i 0 / 256) + ((Ls pp).take i).countP (fun c => sub_ c == ((Ls pp).getD i 0 / 256))) + 1)) (nI_add (tv ((Ls pp).getD i 0 / 256) + ((Ls pp).take i).countP (fun c => sub_ c == ((Ls pp).getD i 0 / 256))) 1) ?_
        refine zz_iast (k := (Ls pp).getD i 0 / 256) hx hb hK hP hD hS 4 0 rfl rfl (by omega) (by decide) dX_tallySubjects_39 (fun H locs hP hD hS => ?_)
        have hP : va_P D vwCl [(x0, .inr (4, [.ref t0, .ref p0, .ref v0, .ref g0, .ref ta])), (t0, .inr (0, [.ref t1, .ref t2])), (t1, .inl (cI, 400, .inl f)), (t2, .inl (cI, 9, .inl g)), (ta, .inl (cI, 256, .inl (upd tk ((Ls pp).getD i 0 / 256) (nI ((tv ((Ls pp).getD i 0 / 256) + ((Ls pp).take i).countP (fun c => sub_ c == ((Ls pp).getD i 0 / 256))) + 1)))))] H := hP
        have hD : va_D A [(x0, .inr (4, [.ref t0, .ref p0, .ref v0, .ref g0, .ref ta])), (t0, .inr (0, [.ref t1, .ref t2])), (t1, .inl (cI, 400, .inl f)), (t2, .inl (cI, 9, .inl g)), (ta, .inl (cI, 256, .inl (upd tk ((Ls pp).getD i 0 / 256) (nI ((tv ((Ls pp).getD i 0 / 256) + ((Ls pp).take i).countP (fun c => sub_ c == ((Ls pp).getD i 0 / 256))) + 1)))))] := hD
        refine lv_iinc (v := nI (tr_off Ls pp + i + 1)) (lv' := [(3, .int (nI (tr_off Ls pp + i + 1))), (0, .ref x0), (1, .int (nI pp)), (2, .int (nI (tr_off Ls pp + (Ls pp).length)))]) hx hb dX_tallySubjects_40 hl (k := 3) rfl (nI_1 (tr_off Ls pp + i)) (by decide) rfl (fun ls hl => ?_)
        refine lv_goto (tgt := 18) hx hb dX_tallySubjects_43 (by decide) ?_
        exact ih18 (i + 1) (upd tk ((Ls pp).getD i 0 / 256) (nI ((tv ((Ls pp).getD i 0 / 256) + ((Ls pp).take i).countP (fun c => sub_ c == ((Ls pp).getD i 0 / 256))) + 1))) (by omega) (tal_step (key := sub_) (by omega) (fun _ => true) hz rfl) (by omega) _ _ hP hD hS ls (lv_sub hl [1, 2, 3, 0] rfl)
  exact lp18 (((Ls pp).length - 0) + 1) 0 tl (Nat.zero_le _) (fun v hv => by rw [htv v hv]; simp) (Nat.lt_succ_self _) s.heap _ hP hD hS ls (lv_sub hl [2, 3, 1, 0] rfl)

abbrev rm_X_tallySubjectsOfAll : Room := { frames := 2, cells := 0, slots := 0, locals := 44 }
set_option maxHeartbeats 4000000 in
set_option maxRecDepth 100000 in
theorem c_X_tallySubjectsOfAll (l : Launch) (D : va_G) (cI cB : ClassId) (sz : Nat) (x0 t0 t1 t2 p0 v0 g0 ta : Nat) (f g : Nat → Int32) (Ls : Nat → List Nat) (hT : RT Ls f g) (tl : Nat → Int32) (b : Nat) (hb2 : b < 256) : Met l yX_tallySubjectsOfAll wX_tallySubjectsOfAll rm_X_tallySubjectsOfAll (zz_P D vwCl [(cI, .int), (cB, .boolean)] [.ref x0, .int (nI b)] [(x0, .inr (4, [.ref t0, .ref p0, .ref v0, .ref g0, .ref ta])), (t0, .inr (0, [.ref t1, .ref t2])), (t1, .inl (cI, 400, .inl f)), (t2, .inl (cI, 9, .inl g)), (ta, .inl (cI, 256, .inl tl))] sz) (va_Qv (fun u : (Nat → Int32) => ∀ v, v < 256 → u v = nI (tsm Ls b v 8)) (fun u : (Nat → Int32) => zz_B D vwCl [(cI, .int), (cB, .boolean)] (va_A [(x0, .inr (4, [.ref t0, .ref p0, .ref v0, .ref g0, .ref ta])), (t0, .inr (0, [.ref t1, .ref t2])), (t1, .inl (cI, 400, .inl f)), (t2, .inl (cI, 9, .inl g)), (ta, .inl (cI, 256, .inl tl))] sz) [(x0, .inr (4, [.ref t0, .ref p0, .ref v0, .ref g0, .ref ta])), (t0, .inr (0, [.ref t1, .ref t2])), (t1, .inl (cI, 400, .inl f)), (t2, .inl (cI, 9, .inl g)), (ta, .inl (cI, 256, .inl u))]) (va_A [(x0, .inr (4, [.ref t0, .ref p0, .ref v0, .ref g0, .ref ta])), (t0, .inr (0, [.ref t1, .ref t2])), (t1, .inl (cI, 400, .inl f)), (t2, .inl (cI, 9, .inl g)), (ta, .inl (cI, 256, .inl tl))] sz)) 0 0 (va_A [(x0, .inr (4, [.ref t0, .ref p0, .ref v0, .ref g0, .ref ta])), (t0, .inr (0, [.ref t1, .ref t2])), (t1, .inl (cI, 400, .inl f)), (t2, .inl (cI, 9, .inl g)), (ta, .inl (cI, 256, .inl tl))] sz) := by
  refine Met.ofW (cc := cX_tallySubjectsOfAll) (maxL := 3) (ret := none) (by decide) rfl ?_
  intro pg ev s mt args below meth kd s₁ B hml hv
  obtain ⟨rfl, hsz, hP, hK, hD0, hN⟩ := hv
  have hx := B.exec
  have hb := B.bytes
  have hr := B.returns
  have ht : ∀ w ∈ W0, w.before _ s = true := fun w h => atoms_spec (ws := wX_tallySubjectsOfAll) B.pre w (List.mem_cons_of_mem _ h)
  have hown : s.vm.findClass "StatRows" = some mt.cls := findClass_of_methodNamed B.named
  have hlocks := B.notSynchronized
  subst hsz
  have hD := hD0.self (sz := s.heap.size)
  generalize hAe : va_A [(x0, .inr (4, [.ref t0, .ref p0, .ref v0, .ref g0, .ref ta])), (t0, .inr (0, [.ref t1, .ref t2])), (t1, .inl (cI, 400, .inl f)), (t2, .inl (cI, 9, .inl g)), (ta, .inl (cI, 256, .inl tl))] s.heap.size = A at hD ⊢
  have hA : ∀ q : Nat, s.heap.size ≤ q → A q := fun q h => by rw [← hAe]; exact Or.inr h
  have hS : va_S A s.heap s.heap [] := va_S.rf
  have hP : va_P D vwCl [(x0, .inr (4, [.ref t0, .ref p0, .ref v0, .ref g0, .ref ta])), (t0, .inr (0, [.ref t1, .ref t2])), (t1, .inl (cI, 400, .inl f)), (t2, .inl (cI, 9, .inl g)), (ta, .inl (cI, 256, .inl tl))] s.heap := hP
  have hl := lv_entry ([.ref x0, .int (nI b)]) (n := 3) (Nat.le_of_ble_eq_true rfl)
  rw [lg_entry_eq]
  generalize (lg_sl ([.ref x0, .int (nI b)]) ++ List.replicate (3 - (lg_sl ([.ref x0, .int (nI b)])).length) Slot.unset).toArray = ls at hl ⊢
  have hl : lv_has ls 3 [(0, .ref x0), (1, .int (nI b))] := hl
  refine lv_aload_n hx hb dX_tallySubjectsOfAll_0 rfl (lv_at hl 0 rfl) ?_
  refine zz_wv (wc := [(x0, .inr (4, [.ref t0, .ref p0, .ref v0, .ref g0, .ref ta])), (ta, .inl (cI, 256, .inl tl))]) (wr := [(t0, .inr (0, [.ref t1, .ref t2])), (t1, .inl (cI, 400, .inl f)), (t2, .inl (cI, 9, .inl g))]) (va_runV (As := []) (rest := []) ⟨hx, hb, hml, hown, ht⟩ (c_X_clearTally l D cI cB s.heap.size x0 t0 t1 t2 p0 v0 g0 ta tl) (cwV 0 ht (gd_V wd160 wd162 wp4 wd1 wd163) rfl rfl rfl (by decide +kernel) ⟨Nat.le_of_ble_eq_true rfl, Nat.le_of_ble_eq_true rfl⟩) (zz_P_V hN hK (hP.sub (ws' := [(x0, .inr (4, [.ref t0, .ref p0, .ref v0, .ref g0, .ref ta])), (ta, .inl (cI, 256, .inl tl))]) [0, 4] rfl) (hD.sub (ws' := [(x0, .inr (4, [.ref t0, .ref p0, .ref v0, .ref g0, .ref ta])), (ta, .inl (cI, 256, .inl tl))]) [0, 4] (by decide) rfl) 4 0 rfl rfl) rfl rfl hl.1 rfl (lv_room (Nat.le_of_ble_eq_true rfl)) dX_tallySubjectsOfAll_1 ⟨Nat.le_of_ble_eq_true rfl, Nat.le_of_ble_eq_true rfl⟩) hP hD hS hA [0, 4] [1, 2, 3] rfl rfl (by decide) (by decide) (fun u1 H locs hq1 hP hD hS => ?_)
  have hP := hP.sub (ws' := [(x0, .inr (4, [.ref t0, .ref p0, .ref v0, .ref g0, .ref ta])), (t0, .inr (0, [.ref t1, .ref t2])), (t1, .inl (cI, 400, .inl f)), (t2, .inl (cI, 9, .inl g)), (ta, .inl (cI, 256, .inl u1))]) [3, 0, 1, 2, 4] rfl
  have hD := hD.sub (ws' := [(x0, .inr (4, [.ref t0, .ref p0, .ref v0, .ref g0, .ref ta])), (t0, .inr (0, [.ref t1, .ref t2])), (t1, .inl (cI, 400, .inl f)), (t2, .inl (cI, 9, .inl g)), (ta, .inl (cI, 256, .inl u1))]) [3, 0, 1, 2, 4] (by decide) rfl
  refine lv_iconst (v := nI 0) hx hb dX_tallySubjectsOfAll_4 (by decide) ?_
  refine lv_istore_n (lv' := [(2, .int (nI 0)), (0, .ref x0), (1, .int (nI b))]) hx hb dX_tallySubjectsOfAll_5 rfl hl (by decide) rfl (fun ls hl => ?_)
  have lp6 : ∀ (fu : Nat) (i : Nat) (tk : Nat → Int32) (hi : i ≤ 8) (hz : ∀ v, v < 256 → tk v = nI (tsm Ls b v i)) (hm : 8 - i < fu) (H : Heap) (locs : List Loc) (hP : va_P D vwCl [(x0, .inr (4, [.ref t0, .ref p0, .ref v0, .ref g0, .ref ta])), (t0, .inr (0, [.ref t1, .ref t2])), (t1, .inl (cI, 400, .inl f)), (t2, .inl (cI, 9, .inl g)), (ta, .inl (cI, 256, .inl tk))] H) (hD : va_D A [(x0, .inr (4, [.ref t0, .ref p0, .ref v0, .ref g0, .ref ta])), (t0, .inr (0, [.ref t1, .ref t2])), (t1, .inl (cI, 400, .inl f)), (t2, .inl (cI, 9, .inl g)), (ta, .inl (cI, 256, .inl tk))]) (hS : va_S A s.heap H locs) (ls : Array Slot) (hl : lv_has ls 3 [(0, .ref x0), (1, .int (nI b)), (2, .int (nI i))]), W pg l ev (headSpec wX_tallySubjectsOfAll rm_X_tallySubjectsOfAll).room s mt (([.ref x0, .int (nI b)] : List Value).toArray) below meth kd H locs 0 0 (MQ below (va_Qv (fun u : (Nat → Int32) => ∀ v, v < 256 → u v = nI (tsm Ls b v 8)) (fun u : (Nat → Int32) => zz_B D vwCl [(cI, .int), (cB, .boolean)] A [(x0, .inr (4, [.ref t0, .ref p0, .ref v0, .ref g0, .ref ta])), (t0, .inr (0, [.ref t1, .ref t2])), (t1, .inl (cI, 400, .inl f)), (t2, .inl (cI, 9, .inl g)), (ta, .inl (cI, 256, .inl u))]) A) (([.ref x0, .int (nI b)] : List Value).toArray) s 0 0 A) (F0 mt 6 ls []) := by
    intro fu
    induction fu with
    | zero => intro i tk hi hz hm; exact absurd hm (Nat.not_lt_zero _)
    | succ fu ih6 =>
      intro i tk hi hz hm H locs hP hD hS ls hl
      refine lv_iload_n hx hb dX_tallySubjectsOfAll_6 rfl (lv_at hl 2 rfl) ?_
      refine lv_bipush (v := nI 8) hx hb dX_tallySubjectsOfAll_7 (by decide) ?_
      refine lv_icmp_ge (tgt := 32) hx hb dX_tallySubjectsOfAll_9 (by decide) (fun c9 => ?_) (fun c9 => ?_)
      · -- taken
        have c9 : 8 ≤ i := (nI_leI (a := 8) (b := i) (by omega) (by omega)).mp c9
        exact zz_vretW (w1 := fun u : (Nat → Int32) => [(x0, .inr (4, [.ref t0, .ref p0, .ref v0, .ref g0, .ref ta])), (t0, .inr (0, [.ref t1, .ref t2])), (t1, .inl (cI, 400, .inl f)), (t2, .inl (cI, 9, .inl g)), (ta, .inl (cI, 256, .inl u))]) tk hx hb hr hlocks (fun v hv => by
          have h := hz v hv
          rw [show i = 8 by omega] at h
          exact h) hP hK hD hS dX_tallySubjectsOfAll_32
      · -- not taken
        have c9 : ¬ (8 ≤ i) := fun h => c9 ((nI_leI (a := 8) (b := i) (by omega) (by omega)).mpr h)
        have hdl := Nat.div_le_self b (2 ^ i)
        have hml2 : b / 2 ^ i % 2 < 2 := Nat.mod_lt _ (by decide)
        refine lv_iload_n hx hb dX_tallySubjectsOfAll_12 rfl (lv_at hl 1 rfl) ?_
        refine lv_iload_n hx hb dX_tallySubjectsOfAll_13 rfl (lv_at hl 2 rfl) ?_
        refine lv_ishr hx hb dX_tallySubjectsOfAll_14 ?_
        refine zz_top (y := nI (b / 2 ^ i)) (zz_shrV (n := b) (k := i) (by omega) (by omega)) ?_
        refine lv_iconst (v := nI 1) hx hb dX_tallySubjectsOfAll_15 (by decide) ?_
        refine lv_iand hx hb dX_tallySubjectsOfAll_16 ?_
        refine zz_top (y := nI ((b / 2 ^ i) % 2)) (pk_andN (n := b / 2 ^ i) (by omega) 1 (by decide)) ?_
        refine lv_iconst (v := nI 1) hx hb dX_tallySubjectsOfAll_17 (by decide) ?_
        refine lv_icmp_ne (tgt := 26) hx hb dX_tallySubjectsOfAll_18 (by decide) (fun c18 => ?_) (fun c18 => ?_)
        · -- taken
          have c18 : ¬ ((b / 2 ^ i) % 2 = 1) := fun h => c18 ((nI_eq (a := (b / 2 ^ i) % 2) (b := 1) (by omega) (by omega)).mpr h)
          have hbt : ¬ bit_ b i = true := by unfold bit_; simpa using c18
          refine lv_iinc (v := nI (i + 1)) (lv' := [(2, .int (nI (i + 1))), (0, .ref x0), (1, .int (nI b))]) hx hb dX_tallySubjectsOfAll_26 hl (k := 2) rfl (nI_1 i) (by decide) rfl (fun ls hl => ?_)
          refine lv_goto (tgt := 6) hx hb dX_tallySubjectsOfAll_29 (by decide) ?_
          exact ih6 (i + 1) tk (by omega) (fun v hv => by rw [hz v hv, tsm_s, if_neg hbt]; rfl) (by omega) _ _ hP hD hS ls (lv_sub hl [1, 2, 0] rfl)
        · -- not taken
          have c18 : (b / 2 ^ i) % 2 = 1 := (nI_eq (a := (b / 2 ^ i) % 2) (b := 1) (by omega) (by omega)).mp c18
          have hbt : bit_ b i = true := by unfold bit_; simpa using c18
          refine lv_aload_n hx hb dX_tallySubjectsOfAll_21 rfl (lv_at hl 0 rfl) ?_
          refine lv_iload_n hx hb dX_tallySubjectsOfAll_22 rfl (lv_at hl 2 rfl) ?_
          refine zz_wv (wc := [(x0, .inr (4, [.ref t0, .ref p0, .ref v0, .ref g0, .ref ta])), (t0, .inr (0, [.ref t1, .ref t2])), (t1, .inl (cI, 400, .inl f)), (t2, .inl (cI, 9, .inl g)), (ta, .inl (cI, 256, .inl tk))]) (wr := []) (va_runV (As := [.int (nI i)]) (rest := []) ⟨hx, hb, hml, hown, ht⟩ (c_X_tallySubjects l D cI cB H.size x0 t0 t1 t2 p0 v0 g0 ta f g Ls hT tk (fun v => tsm Ls b v i) hz i (by omega)) (cwV 1 ht (gd_V wd167 wd169 wp5 wd1 wd170) rfl rfl rfl (by decide +kernel) ⟨Nat.le_of_ble_eq_true rfl, Nat.le_of_ble_eq_true rfl⟩) (zz_P_V hN hK (hP.sub (ws' := [(x0, .inr (4, [.ref t0, .ref p0, .ref v0, .ref g0, .ref ta])), (t0, .inr (0, [.ref t1, .ref t2])), (t1, .inl (cI, 400, .inl f)), (t2, .inl (cI, 9, .inl g)), (ta, .inl (cI, 256, .inl tk))]) [0, 1, 2, 3, 4] rfl) (hD.sub (ws' := [(x0, .inr (4, [.ref t0, .ref p0, .ref v0, .ref g0, .ref ta])), (t0, .inr (0, [.ref t1, .ref t2])), (t1, .inl (cI, 400, .inl f)), (t2, .inl (cI, 9, .inl g)), (ta, .inl (cI, 256, .inl tk))]) [0, 1, 2, 3, 4] (by decide) rfl) 4 0 rfl rfl) rfl rfl hl.1 rfl (lv_room (Nat.le_of_ble_eq_true rfl)) dX_tallySubjectsOfAll_23 ⟨Nat.le_of_ble_eq_true rfl, Nat.le_of_ble_eq_true rfl⟩) hP hD hS hA [0, 1, 2, 3, 4] [] rfl rfl (by decide) (by decide) (fun u23 H locs hq23 hP hD hS => ?_)
          have hP := hP.sub (ws' := [(x0, .inr (4, [.ref t0, .ref p0, .ref v0, .ref g0, .ref ta])), (t0, .inr (0, [.ref t1, .ref t2])), (t1, .inl (cI, 400, .inl f)), (t2, .inl (cI, 9, .inl g)), (ta, .inl (cI, 256, .inl u23))]) [0, 1, 2, 3, 4] rfl
          have hD := hD.sub (ws' := [(x0, .inr (4, [.ref t0, .ref p0, .ref v0, .ref g0, .ref ta])), (t0, .inr (0, [.ref t1, .ref t2])), (t1, .inl (cI, 400, .inl f)), (t2, .inl (cI, 9, .inl g)), (ta, .inl (cI, 256, .inl u23))]) [0, 1, 2, 3, 4] (by decide) rfl
          refine lv_iinc (v := nI (i + 1)) (lv' := [(2, .int (nI (i + 1))), (0, .ref x0), (1, .int (nI b))]) hx hb dX_tallySubjectsOfAll_26 hl (k := 2) rfl (nI_1 i) (by decide) rfl (fun ls hl => ?_)
          refine lv_goto (tgt := 6) hx hb dX_tallySubjectsOfAll_29 (by decide) ?_
          exact ih6 (i + 1) u23 (by omega) (fun v hv => by rw [hq23 v hv, tsm_s, if_pos hbt]) (by omega) _ _ hP hD hS ls (lv_sub hl [1, 2, 0] rfl)
  exact lp6 ((8 - 0) + 1) 0 u1 (Nat.zero_le _) hq1 (Nat.lt_succ_self _) _ _ hP hD hS ls (lv_sub hl [1, 2, 0] rfl)

abbrev rm_X_tallyObjects : Room := { frames := 2, cells := 0, slots := 0, locals := 43 }
set_option maxHeartbeats 4000000 in
set_option maxRecDepth 100000 in
theorem c_X_tallyObjects (l : Launch) (D : va_G) (cI cB : ClassId) (sz : Nat) (x0 t0 t1 t2 p0 v0 g0 ta : Nat) (f g : Nat → Int32) (Ls : Nat → List Nat) (hT : RT Ls f g) (tl : Nat → Int32) (pp : Nat) (hp : pp < 8) (fl : Bool) : Met l yX_tallyObjects wX_tallyObjects rm_X_tallyObjects (zz_P D vwCl [(cI, .int), (cB, .boolean)] [.ref x0, .int (nI pp), .int (nI fl.toNat)] [(x0, .inr (4, [.ref t0, .ref p0, .ref v0, .ref g0, .ref ta])), (t0, .inr (0, [.ref t1, .ref t2])), (t1, .inl (cI, 400, .inl f)), (t2, .inl (cI, 9, .inl g)), (ta, .inl (cI, 256, .inl tl))] sz) (va_Qv (fun u : (Nat → Int32) => ∀ v, v < 256 → u v = nI (0 + (Ls pp).countP (fun c => okf fl c && obj_ c == v))) (fun u : (Nat → Int32) => zz_B D vwCl [(cI, .int), (cB, .boolean)] (va_A [(x0, .inr (4, [.ref t0, .ref p0, .ref v0, .ref g0, .ref ta])), (t0, .inr (0, [.ref t1, .ref t2])), (t1, .inl (cI, 400, .inl f)), (t2, .inl (cI, 9, .inl g)), (ta, .inl (cI, 256, .inl tl))] sz) [(x0, .inr (4, [.ref t0, .ref p0, .ref v0, .ref g0, .ref ta])), (t0, .inr (0, [.ref t1, .ref t2])), (t1, .inl (cI, 400, .inl f)), (t2, .inl (cI, 9, .inl g)), (ta, .inl (cI, 256, .inl u))]) (va_A [(x0, .inr (4, [.ref t0, .ref p0, .ref v0, .ref g0, .ref ta])), (t0, .inr (0, [.ref t1, .ref t2])), (t1, .inl (cI, 400, .inl f)), (t2, .inl (cI, 9, .inl g)), (ta, .inl (cI, 256, .inl tl))] sz)) 0 0 (va_A [(x0, .inr (4, [.ref t0, .ref p0, .ref v0, .ref g0, .ref ta])), (t0, .inr (0, [.ref t1, .ref t2])), (t1, .inl (cI, 400, .inl f)), (t2, .inl (cI, 9, .inl g)), (ta, .inl (cI, 256, .inl tl))] sz) := by
  refine Met.ofW (cc := cX_tallyObjects) (maxL := 5) (ret := none) (by decide) rfl ?_
  intro pg ev s mt args below meth kd s₁ B hml hv
  obtain ⟨rfl, hsz, hP, hK, hD0, hN⟩ := hv
  have hx := B.exec
  have hb := B.bytes
  have hr := B.returns
  have ht : ∀ w ∈ W0, w.before _ s = true := fun w h => atoms_spec (ws := wX_tallyObjects) B.pre w (List.mem_cons_of_mem _ h)
  have hown : s.vm.findClass "StatRows" = some mt.cls := findClass_of_methodNamed B.named
  have hlocks := B.notSynchronized
  subst hsz
  have hD := hD0.self (sz := s.heap.size)
  generalize hAe : va_A [(x0, .inr (4, [.ref t0, .ref p0, .ref v0, .ref g0, .ref ta])), (t0, .inr (0, [.ref t1, .ref t2])), (t1, .inl (cI, 400, .inl f)), (t2, .inl (cI, 9, .inl g)), (ta, .inl (cI, 256, .inl tl))] s.heap.size = A at hD ⊢
  have hA : ∀ q : Nat, s.heap.size ≤ q → A q := fun q h => by rw [← hAe]; exact Or.inr h
  have hS : va_S A s.heap s.heap [] := va_S.rf
  have hP : va_P D vwCl [(x0, .inr (4, [.ref t0, .ref p0, .ref v0, .ref g0, .ref ta])), (t0, .inr (0, [.ref t1, .ref t2])), (t1, .inl (cI, 400, .inl f)), (t2, .inl (cI, 9, .inl g)), (ta, .inl (cI, 256, .inl tl))] s.heap := hP
  have hl := lv_entry ([.ref x0, .int (nI pp), .int (nI fl.toNat)]) (n := 5) (Nat.le_of_ble_eq_true rfl)
  rw [lg_entry_eq]
  generalize (lg_sl ([.ref x0, .int (nI pp), .int (nI fl.toNat)]) ++ List.replicate (5 - (lg_sl ([.ref x0, .int (nI pp), .int (nI fl.toNat)])).length) Slot.unset).toArray = ls at hl ⊢
  have hl : lv_has ls 5 [(0, .ref x0), (1, .int (nI pp)), (2, .int (nI fl.toNat))] := hl
  have htp := tr_top (Ls := Ls) hp
  have h400 := hT.2.2.1
  have hfl := btl fl
  refine lv_aload_n hx hb dX_tallyObjects_0 rfl (lv_at hl 0 rfl) ?_
  refine zz_wv (wc := [(x0, .inr (4, [.ref t0, .ref p0, .ref v0, .ref g0, .ref ta])), (ta, .inl (cI, 256, .inl tl))]) (wr := [(t0, .inr (0, [.ref t1, .ref t2])), (t1, .inl (cI, 400, .inl f)), (t2, .inl (cI, 9, .inl g))]) (va_runV (As := []) (rest := []) ⟨hx, hb, hml, hown, ht⟩ (c_X_clearTally l D cI cB s.heap.size x0 t0 t1 t2 p0 v0 g0 ta tl) (cwV 0 ht (gd_V wd160 wd162 wp4 wd1 wd163) rfl rfl rfl (by decide +kernel) ⟨Nat.le_of_ble_eq_true rfl, Nat.le_of_ble_eq_true rfl⟩) (zz_P_V hN hK (hP.sub (ws' := [(x0, .inr (4, [.ref t0, .ref p0, .ref v0, .ref g0, .ref ta])), (ta, .inl (cI, 256, .inl tl))]) [0, 4] rfl) (hD.sub (ws' := [(x0, .inr (4, [.ref t0, .ref p0, .ref v0, .ref g0, .ref ta])), (ta, .inl (cI, 256, .inl tl))]) [0, 4] (by decide) rfl) 4 0 rfl rfl) rfl rfl hl.1 rfl (lv_room (Nat.le_of_ble_eq_true rfl)) dX_tallyObjects_1 ⟨Nat.le_of_ble_eq_true rfl, Nat.le_of_ble_eq_true rfl⟩) hP hD hS hA [0, 4] [1, 2, 3] rfl rfl (by decide) (by decide) (fun u1 H locs hq1 hP hD hS => ?_)
  have hP := hP.sub (ws' := [(x0, .inr (4, [.ref t0, .ref p0, .ref v0, .ref g0, .ref ta])), (t0, .inr (0, [.ref t1, .ref t2])), (t1, .inl (cI, 400, .inl f)), (t2, .inl (cI, 9, .inl g)), (ta, .inl (cI, 256, .inl u1))]) [3, 0, 1, 2, 4] rfl
  have hD := hD.sub (ws' := [(x0, .inr (4, [.ref t0, .ref p0, .ref v0, .ref g0, .ref ta])), (t0, .inr (0, [.ref t1, .ref t2])), (t1, .inl (cI, 400, .inl f)), (t2, .inl (cI, 9, .inl g)), (ta, .inl (cI, 256, .inl u1))]) [3, 0, 1, 2, 4] (by decide) rfl
  refine lv_aload_n hx hb dX_tallyObjects_4 rfl (lv_at hl 0 rfl) ?_
  refine va_get (D := D) (ci := 4) (v := .ref t0) (C := "StatRows") (T := TX) (N := 5) hx hb ht inX hown hK hP 0 rfl rfl 0 (by decide) (ht _ wd77) (fun _ h9 => h9) rfl dX_tallyObjects_5 ?_
  refine lv_iload_n hx hb dX_tallyObjects_8 rfl (lv_at hl 1 rfl) ?_
  refine zz_ci (v := nI (tr_off Ls pp + (Ls pp).length)) (W.runV (As := [.int (nI pp)]) (rest := []) ⟨hx, hb, hml, hown, ht⟩ (c_T_end l D cI cB t0 t1 t2 f g pp (tr_off Ls pp + (Ls pp).length) hp (hT.1 (pp + 1) (by omega))) (cwV 1 ht (gd_V wd171 wd118 wd119 wd2 wd120) rfl rfl rfl (by decide +kernel) ⟨Nat.le_of_ble_eq_true rfl, Nat.le_of_ble_eq_true rfl⟩) (zz_R_V hN hK (hP.sub (ws' := [(t0, .inr (0, [.ref t1, .ref t2])), (t1, .inl (cI, 400, .inl f)), (t2, .inl (cI, 9, .inl g))]) [1, 2, 3] rfl) 0 0 rfl rfl) rfl rfl hl.1 rfl (lv_room (Nat.le_of_ble_eq_true rfl)) dX_tallyObjects_9 ⟨Nat.le_of_ble_eq_true rfl, Nat.le_of_ble_eq_true rfl⟩) ?_
  refine lv_istore_n (lv' := [(3, .int (nI (tr_off Ls pp + (Ls pp).length))), (0, .ref x0), (1, .int (nI pp)), (2, .int (nI fl.toNat))]) hx hb dX_tallyObjects_12 rfl hl (by decide) rfl (fun ls hl => ?_)
  refine lv_aload_n hx hb dX_tallyObjects_13 rfl (lv_at hl 1 rfl) ?_
  refine va_get (D := D) (ci := 4) (v := .ref t0) (C := "StatRows") (T := TX) (N := 5) hx hb ht inX hown hK hP 0 rfl rfl 0 (by decide) (ht _ wd77) (fun _ h9 => h9) rfl dX_tallyObjects_14 ?_
  refine lv_iload_n hx hb dX_tallyObjects_17 rfl (lv_at hl 2 rfl) ?_
  refine zz_ci (v := nI (tr_off Ls pp + 0)) (W.runV (As := [.int (nI pp)]) (rest := []) ⟨hx, hb, hml, hown, ht⟩ (c_T_start l D cI cB t0 t1 t2 f g pp (tr_off Ls pp) (by omega) (hT.1 pp (by omega))) (cwV 1 ht (gd_V wd172 wd122 wd123 wd2 wd124) rfl rfl rfl (by decide +kernel) ⟨Nat.le_of_ble_eq_true rfl, Nat.le_of_ble_eq_true rfl⟩) (zz_R_V hN hK (hP.sub (ws' := [(t0, .inr (0, [.ref t1, .ref t2])), (t1, .inl (cI, 400, .inl f)), (t2, .inl (cI, 9, .inl g))]) [1, 2, 3] rfl) 0 0 rfl rfl) rfl rfl hl.1 rfl (lv_room (Nat.le_of_ble_eq_true rfl)) dX_tallyObjects_18 ⟨Nat.le_of_ble_eq_true rfl, Nat.le_of_ble_eq_true rfl⟩) ?_
  refine lv_istore (lv' := [(4, .int (nI (tr_off Ls pp + 0))), (3, .int (nI (tr_off Ls pp + (Ls pp).length))), (0, .ref x0), (1, .int (nI pp)), (2, .int (nI fl.toNat))]) hx hb dX_tallyObjects_21 hl (by decide) rfl (fun ls hl => ?_)
  have lp23 : ∀ (fu : Nat) (i : Nat) (tk : Nat → Int32) (hi : i ≤ (Ls pp).length) (hz : ∀ v, v < 256 → tk v = nI (0 + ((Ls pp).take i).countP (fun c => okf fl c && obj_ c == v))) (hm : (Ls pp).length - i < fu) (H : Heap) (locs : List Loc) (hP : va_P D vwCl [(x0, .inr (4, [.ref t0, .ref p0, .ref v0, .ref g0, .ref ta])), (t0, .inr (0, [.ref t1, .ref t2])), (t1, .inl (cI, 400, .inl f)), (t2, .inl (cI, 9, .inl g)), (ta, .inl (cI, 256, .inl tk))] H) (hD : va_D A [(x0, .inr (4, [.ref t0, .ref p0, .ref v0, .ref g0, .ref ta])), (t0, .inr (0, [.ref t1, .ref t2])), (t1, .inl (cI, 400, .inl f)), (t2, .inl (cI, 9, .inl g)), (ta, .inl (cI, 256, .inl tk))]) (hS : va_S A s.heap H locs) (ls : Array Slot) (hl : lv_has ls 5 [(0, .ref x0), (1, .int (nI pp)), (2, .int (nI fl.toNat)), (3, .int (nI (tr_off Ls pp + (Ls pp).length))), (4, .int (nI (tr_off Ls pp + i)))]), W pg l ev (headSpec wX_tallyObjects rm_X_tallyObjects).room s mt (([.ref x0, .int (nI pp), .int (nI fl.toNat)] : List Value).toArray) below meth kd H locs 0 0 (MQ below (va_Qv (fun u : (Nat → Int32) => ∀ v, v < 256 → u v = nI (0 + (Ls pp).countP (fun c => okf fl c && obj_ c == v))) (fun u : (Nat → Int32) => zz_B D vwCl [(cI, .int), (cB, .boolean)] A [(x0, .inr (4, [.ref t0, .ref p0, .ref v0, .ref g0, .ref ta])), (t0, .inr (0, [.ref t1, .ref t2])), (t1, .inl (cI, 400, .inl f)), (t2, .inl (cI, 9, .inl g)), (ta, .inl (cI, 256, .inl u))]) A) (([.ref x0, .int (nI pp), .int (nI fl.toNat)] : List Value).toArray) s 0 0 A) (F0 mt 23 ls []) := by
    intro fu
    induction fu with
    | zero => intro i tk hi hz hm; exact absurd hm (Nat.not_lt_zero _)
    | succ fu ih23 =>
      intro i tk hi hz hm H locs hP hD hS ls hl
      refine lv_iload hx hb dX_tallyObjects_23 (lv_at hl 4 rfl) ?_
      refine lv_iload_n hx hb dX_tallyObjects_25 rfl (lv_at hl 3 rfl) ?_
      refine lv_icmp_ge (tgt := 69) hx hb dX_tallyObjects_26 (by decide) (fun c26 => ?_) (fun c26 => ?_)
      · -- taken
        have c26 : tr_off Ls pp + (Ls pp).length ≤ tr_off Ls pp + i := (nI_leI (a := tr_off Ls pp + (Ls pp).length) (b := tr_off Ls pp + i) (by omega) (by omega)).mp c26
        exact zz_vretW (w1 := fun u : (Nat → Int32) => [(x0, .inr (4, [.ref t0, .ref p0, .ref v0, .ref g0, .ref ta])), (t0, .inr (0, [.ref t1, .ref t2])), (t1, .inl (cI, 400, .inl f)), (t2, .inl (cI, 9, .inl g)), (ta, .inl (cI, 256, .inl u))]) tk hx hb hr hlocks (fun v hv => by
          have h := hz v hv
          rw [tkl _ i (by omega)] at h
          exact h) hP hK hD hS dX_tallyObjects_69
      · -- not taken
        have c26 : ¬ (tr_off Ls pp + (Ls pp).length ≤ tr_off Ls pp + i) := fun h => c26 ((nI_leI (a := tr_off Ls pp + (Ls pp).length) (b := tr_off Ls pp + i) (by omega) (by omega)).mpr h)
        have hci := hT.2.2.2.1 pp hp i (by omega)
        have hsb := btl (smp ((Ls pp).getD i 0))
        refine lv_iload_n hx hb dX_tallyObjects_29 rfl (lv_at hl 2 rfl) ?_
        refine lv_if_eq (tgt := 45) hx hb dX_tallyObjects_30 (by decide) (fun c30 => ?_) (fun c30 => ?_)
        · -- taken
          have c30 : fl.toNat = 0 := (nI_eq (a := fl.toNat) (b := 0) (by omega) (by omega)).mp c30
          have hok : okf fl ((Ls pp).getD i 0) = true := by unfold okf; rw [bt0 c30]; rfl
          refine lv_aload_n hx hb dX_tallyObjects_45 rfl (lv_at hl 0 rfl) ?_
          refine va_get (D := D) (ci := 4) (v := .ref ta) (C := "StatRows") (T := TX) (N := 5) hx hb ht inX hown hK hP 0 rfl rfl 4 (by decide) (ht _ wd81) (fun _ h9 => h9) rfl dX_tallyObjects_46 ?_
          refine lv_aload_n hx hb dX_tallyObjects_49 rfl (lv_at hl 0 rfl) ?_
          refine va_get (D := D) (ci := 4) (v := .ref t0) (C := "StatRows") (T := TX) (N := 5) hx hb ht inX hown hK hP 0 rfl rfl 0 (by decide) (ht _ wd77) (fun _ h9 => h9) rfl dX_tallyObjects_50 ?_
          refine lv_iload hx hb dX_tallyObjects_53 (lv_at hl 4 rfl) ?_
          refine zz_ci (v := nI ((Ls pp).getD i 0 % 256)) (W.runV (As := [.int (nI (tr_off Ls pp + i))]) (rest := [.ref ta]) ⟨hx, hb, hml, hown, ht⟩ (c_T_objectAt l D cI cB t0 t1 t2 f g (tr_off Ls pp + i) ((Ls pp).getD i 0) (by omega) (hT.2.1 pp hp i (by omega)) (hT.2.2.2.1 pp hp i (by omega))) (cwV 1 ht (gd_V wd198 wd199 wd200 wd2 wd201) rfl rfl rfl (by decide +kernel) ⟨Nat.le_of_ble_eq_true rfl, Nat.le_of_ble_eq_true rfl⟩) (zz_R_V hN hK (hP.sub (ws' := [(t0, .inr (0, [.ref t1, .ref t2])), (t1, .inl (cI, 400, .inl f)), (t2, .inl (cI, 9, .inl g))]) [1, 2, 3] rfl) 0 0 rfl rfl) rfl rfl hl.1 rfl (lv_room (Nat.le_of_ble_eq_true rfl)) dX_tallyObjects_55 ⟨Nat.le_of_ble_eq_true rfl, Nat.le_of_ble_eq_true rfl⟩) ?_
          refine lv_dup2_11 hx hb dX_tallyObjects_58 rfl rfl ?_
          refine zz_iald (k := (Ls pp).getD i 0 % 256) hx hb hK hP 4 0 rfl rfl (by omega) (by decide) dX_tallyObjects_59 ?_
          refine zz_top (y := nI (0 + ((Ls pp).take i).countP (fun c => okf fl c && obj_ c == ((Ls pp).getD i 0 % 256)))) (hz _ (by omega)) ?_
          refine lv_iconst (v := nI 1) hx hb dX_tallyObjects_60 (by decide) ?_
          refine lv_iadd hx hb dX_tallyObjects_61 ?_
          refine zz_top (y := nI ((0 + ((Ls pp).take i).countP (fun c => okf fl c && obj_ c == ((Ls pp).getD i 0 % 256))) + 1)) (nI_add (0 + ((Ls pp).take i).countP (fun c => okf fl c && obj_ c == ((Ls pp).getD i 0 % 256))) 1) ?_
          refine zz_iast (k := (Ls pp).getD i 0 % 256) hx hb hK hP hD hS 4 0 rfl rfl (by omega) (by decide) dX_tallyObjects_62 (fun H locs hP hD hS => ?_)
          have hP : va_P D vwCl [(x0, .inr (4, [.ref t0, .ref p0, .ref v0, .ref g0, .ref ta])), (t0, .inr (0, [.ref t1, .ref t2])), (t1, .inl (cI, 400, .inl f)), (t2, .inl (cI, 9, .inl g)), (ta, .inl (cI, 256, .inl (upd tk ((Ls pp).getD i 0 % 256) (nI ((0 + ((Ls pp).take i).countP (fun c => okf fl c && obj_ c == ((Ls pp).getD i 0 % 256))) + 1)))))] H := hP
          have hD : va_D A [(x0, .inr (4, [.ref t0, .ref p0, .ref v0, .ref g0, .ref ta])), (t0, .inr (0, [.ref t1, .ref t2])), (t1, .inl (cI, 400, .inl f)), (t2, .inl (cI, 9, .inl g)), (ta, .inl (cI, 256, .inl (upd tk ((Ls pp).getD i 0 % 256) (nI ((0 + ((Ls pp).take i).countP (fun c => okf fl c && obj_ c == ((Ls pp).getD i 0 % 256))) + 1)))))] := hD
          refine lv_iinc (v := nI (tr_off Ls pp + i + 1)) (lv' := [(4, .int (nI (tr_off Ls pp + i + 1))), (0, .ref x0), (1, .int (nI pp)), (2, .int (nI fl.toNat)), (3, .int (nI (tr_off Ls pp + (Ls pp).length)))]) hx hb dX_tallyObjects_63 hl (k := 4) rfl (nI_1 (tr_off Ls pp + i)) (by decide) rfl (fun ls hl => ?_)
          refine lv_goto (tgt := 23) hx hb dX_tallyObjects_66 (by decide) ?_
          exact ih23 (i + 1) (upd tk ((Ls pp).getD i 0 % 256) (nI ((0 + ((Ls pp).take i).countP (fun c => okf fl c && obj_ c == ((Ls pp).getD i 0 % 256))) + 1))) (by omega) (tal_step (key := obj_) (tv := fun _ => 0) (by omega) (okf fl) hz hok) (by omega) _ _ hP hD hS ls (lv_sub hl [1, 2, 3, 4, 0] rfl)
        · -- not taken
          have c30 : ¬ (fl.toNat = 0) := fun h => c30 ((nI_eq (a := fl.toNat) (b := 0) (by omega) (by omega)).mpr h)
          refine lv_aload_n hx hb dX_tallyObjects_33 rfl (lv_at hl 0 rfl) ?_
          refine va_get (D := D) (ci := 4) (v := .ref t0) (C := "StatRows") (T := TX) (N := 5) hx hb ht inX hown hK hP 0 rfl rfl 0 (by decide) (ht _ wd77) (fun _ h9 => h9) rfl dX_tallyObjects_34 ?_
          refine lv_iload hx hb dX_tallyObjects_37 (lv_at hl 4 rfl) ?_
          refine zz_ci (v := nI ((smp ((Ls pp).getD i 0)).toNat)) (W.runV (As := [.int (nI (tr_off Ls pp + i))]) (rest := []) ⟨hx, hb, hml, hown, ht⟩ (c_T_isSampled l D cI cB t0 t1 t2 f g (tr_off Ls pp + i) ((Ls pp).getD i 0) (by omega) (hT.2.1 pp hp i (by omega))) (cwV 1 ht (gd_V wd189 wd190 wd191 wd2 wd192) rfl rfl rfl (by decide +kernel) ⟨Nat.le_of_ble_eq_true rfl, Nat.le_of_ble_eq_true rfl⟩) (zz_R_V hN hK (hP.sub (ws' := [(t0, .inr (0, [.ref t1, .ref t2])), (t1, .inl (cI, 400, .inl f)), (t2, .inl (cI, 9, .inl g))]) [1, 2, 3] rfl) 0 0 rfl rfl) rfl rfl hl.1 rfl (lv_room (Nat.le_of_ble_eq_true rfl)) dX_tallyObjects_39 ⟨Nat.le_of_ble_eq_true rfl, Nat.le_of_ble_eq_true rfl⟩) ?_
          refine lv_if_eq (tgt := 63) hx hb dX_tallyObjects_42 (by decide) (fun c42 => ?_) (fun c42 => ?_)
          · -- taken
            have c42 : (smp ((Ls pp).getD i 0)).toNat = 0 := (nI_eq (a := (smp ((Ls pp).getD i 0)).toNat) (b := 0) (by omega) (by omega)).mp c42
            have hok : okf fl ((Ls pp).getD i 0) = false := by unfold okf; rw [bt1 c30, bt0 c42]; rfl
            refine lv_iinc (v := nI (tr_off Ls pp + i + 1)) (lv' := [(4, .int (nI (tr_off Ls pp + i + 1))), (0, .ref x0), (1, .int (nI pp)), (2, .int (nI fl.toNat)), (3, .int (nI (tr_off Ls pp + (Ls pp).length)))]) hx hb dX_tallyObjects_63 hl (k := 4) rfl (nI_1 (tr_off Ls pp + i)) (by decide) rfl (fun ls hl => ?_)
            refine lv_goto (tgt := 23) hx hb dX_tallyObjects_66 (by decide) ?_
            exact ih23 (i + 1) tk (by omega) (tal_skip (key := obj_) (tv := fun _ => 0) (by omega) (okf fl) hz hok) (by omega) _ _ hP hD hS ls (lv_sub hl [1, 2, 3, 4, 0] rfl)
          · -- not taken
            have c42 : ¬ ((smp ((Ls pp).getD i 0)).toNat = 0) := fun h => c42 ((nI_eq (a := (smp ((Ls pp).getD i 0)).toNat) (b := 0) (by omega) (by omega)).mpr h)
            have hok : okf fl ((Ls pp).getD i 0) = true := by unfold okf; rw [bt1 c42]; simp
            refine lv_aload_n hx hb dX_tallyObjects_45 rfl (lv_at hl 0 rfl) ?_
            refine va_get (D := D) (ci := 4) (v := .ref ta) (C := "StatRows") (T := TX) (N := 5) hx hb ht inX hown hK hP 0 rfl rfl 4 (by decide) (ht _ wd81) (fun _ h9 => h9) rfl dX_tallyObjects_46 ?_
            refine lv_aload_n hx hb dX_tallyObjects_49 rfl (lv_at hl 0 rfl) ?_
            refine va_get (D := D) (ci := 4) (v := .ref t0) (C := "StatRows") (T := TX) (N := 5) hx hb ht inX hown hK hP 0 rfl rfl 0 (by decide) (ht _ wd77) (fun _ h9 => h9) rfl dX_tallyObjects_50 ?_
            refine lv_iload hx hb dX_tallyObjects_53 (lv_at hl 4 rfl) ?_
            refine zz_ci (v := nI ((Ls pp).getD i 0 % 256)) (W.runV (As := [.int (nI (tr_off Ls pp + i))]) (rest := [.ref ta]) ⟨hx, hb, hml, hown, ht⟩ (c_T_objectAt l D cI cB t0 t1 t2 f g (tr_off Ls pp + i) ((Ls pp).getD i 0) (by omega) (hT.2.1 pp hp i (by omega)) (hT.2.2.2.1 pp hp i (by omega))) (cwV 1 ht (gd_V wd198 wd199 wd200 wd2 wd201) rfl rfl rfl (by decide +kernel) ⟨Nat.le_of_ble_eq_true rfl, Nat.le_of_ble_eq_true rfl⟩) (zz_R_V hN hK (hP.sub (ws' := [(t0, .inr (0, [.ref t1, .ref t2])), (t1, .inl (cI, 400, .inl f)), (t2, .inl (cI, 9, .inl g))]) [1, 2, 3] rfl) 0 0 rfl rfl) rfl rfl hl.1 rfl (lv_room (Nat.le_of_ble_eq_true rfl)) dX_tallyObjects_55 ⟨Nat.le_of_ble_eq_true rfl, Nat.le_of_ble_eq_true rfl⟩) ?_
            refine lv_dup2_11 hx hb dX_tallyObjects_58 rfl rfl ?_
            refine zz_iald (k := (Ls pp).getD i 0 % 256) hx hb hK hP 4 0 rfl rfl (by omega) (by decide) dX_tallyObjects_59 ?_
            refine zz_top (y := nI (0 + ((Ls pp).take i).countP (fun c => okf fl c && obj_ c == ((Ls pp).getD i 0 % 256)))) (hz _ (by omega)) ?_
            refine lv_iconst (v := nI 1) hx hb dX_tallyObjects_60 (by decide) ?_
            refine lv_iadd hx hb dX_tallyObjects_61 ?_
            refine zz_top (y := nI ((0 + ((Ls pp).take i).countP (fun c => okf fl c && obj_ c == ((Ls pp).getD i 0 % 256))) + 1)) (nI_add (0 + ((Ls pp).take i).countP (fun c => okf fl c && obj_ c == ((Ls pp).getD i 0 % 256))) 1) ?_
            refine zz_iast (k := (Ls pp).getD i 0 % 256) hx hb hK hP hD hS 4 0 rfl rfl (by omega) (by decide) dX_tallyObjects_62 (fun H locs hP hD hS => ?_)
            have hP : va_P D vwCl [(x0, .inr (4, [.ref t0, .ref p0, .ref v0, .ref g0, .ref ta])), (t0, .inr (0, [.ref t1, .ref t2])), (t1, .inl (cI, 400, .inl f)), (t2, .inl (cI, 9, .inl g)), (ta, .inl (cI, 256, .inl (upd tk ((Ls pp).getD i 0 % 256) (nI ((0 + ((Ls pp).take i).countP (fun c => okf fl c && obj_ c == ((Ls pp).getD i 0 % 256))) + 1)))))] H := hP
            have hD : va_D A [(x0, .inr (4, [.ref t0, .ref p0, .ref v0, .ref g0, .ref ta])), (t0, .inr (0, [.ref t1, .ref t2])), (t1, .inl (cI, 400, .inl f)), (t2, .inl (cI, 9, .inl g)), (ta, .inl (cI, 256, .inl (upd tk ((Ls pp).getD i 0 % 256) (nI ((0 + ((Ls pp).take i).countP (fun c => okf fl c && obj_ c == ((Ls pp).getD i 0 % 256))) + 1)))))] := hD
            refine lv_iinc (v := nI (tr_off Ls pp + i + 1)) (lv' := [(4, .int (nI (tr_off Ls pp + i + 1))), (0, .ref x0), (1, .int (nI pp)), (2, .int (nI fl.toNat)), (3, .int (nI (tr_off Ls pp + (Ls pp).length)))]) hx hb dX_tallyObjects_63 hl (k := 4) rfl (nI_1 (tr_off Ls pp + i)) (by decide) rfl (fun ls hl => ?_)
            refine lv_goto (tgt := 23) hx hb dX_tallyObjects_66 (by decide) ?_
            exact ih23 (i + 1) (upd tk ((Ls pp).getD i 0 % 256) (nI ((0 + ((Ls pp).take i).countP (fun c => okf fl c && obj_ c == ((Ls pp).getD i 0 % 256))) + 1))) (by omega) (tal_step (key := obj_) (tv := fun _ => 0) (by omega) (okf fl) hz hok) (by omega) _ _ hP hD hS ls (lv_sub hl [1, 2, 3, 4, 0] rfl)
  exact lp23 (((Ls pp).length - 0) + 1) 0 u1 (Nat.zero_le _) (fun v hv => by rw [hq1 v hv]; simp) (Nat.lt_succ_self _) _ _ hP hD hS ls (lv_sub hl [2, 3, 4, 1, 0] rfl)

abbrev rm_X_differentInTally : Room := { frames := 0, cells := 0, slots := 0, locals := 0 }
set_option maxHeartbeats 4000000 in
set_option maxRecDepth 100000 in
theorem c_X_differentInTally (l : Launch) (D : va_G) (cI cB : ClassId) (x0 t0 t1 t2 p0 v0 g0 ta : Nat) (tl : Nat → Int32) (tv : Nat → Nat) (htv : ∀ v, v < 256 → tl v = nI (tv v)) (htb : ∀ v, v < 256 → tv v < 1000) : Met l yX_differentInTally wX_differentInTally rm_X_differentInTally (zz_R D vwCl [(cI, .int), (cB, .boolean)] [.ref x0] [(x0, .inr (4, [.ref t0, .ref p0, .ref v0, .ref g0, .ref ta])), (ta, .inl (cI, 256, .inl tl))]) (vp_Si (fun r : Int32 => r = nI (cnt (fun v => decide (0 < tv v)) 256))) 0 0 (fun _ => False) := by
  refine Met.ofW (cc := cX_differentInTally) (maxL := 3) (ret := (some .int)) (by decide) rfl ?_
  intro pg ev s mt args below meth kd s₁ B hml hv
  obtain ⟨rfl, hP, hK, hN⟩ := hv
  have hx := B.exec
  have hb := B.bytes
  have hr := B.returns
  have ht : ∀ w ∈ W0, w.before _ s = true := fun w h => atoms_spec (ws := wX_differentInTally) B.pre w (List.mem_cons_of_mem _ h)
  have hown : s.vm.findClass "StatRows" = some mt.cls := findClass_of_methodNamed B.named
  have hlocks := B.notSynchronized
  have hl := lv_entry ([.ref x0]) (n := 3) (Nat.le_of_ble_eq_true rfl)
  rw [lg_entry_eq]
  generalize (lg_sl ([.ref x0]) ++ List.replicate (3 - (lg_sl ([.ref x0])).length) Slot.unset).toArray = ls at hl ⊢
  have hl : lv_has ls 3 [(0, .ref x0)] := hl
  refine lv_iconst (v := nI 0) hx hb dX_differentInTally_0 (by decide) ?_
  refine lv_istore_n (lv' := [(1, .int (nI 0)), (0, .ref x0)]) hx hb dX_differentInTally_1 rfl hl (by decide) rfl (fun ls hl => ?_)
  refine lv_iconst (v := nI 0) hx hb dX_differentInTally_2 (by decide) ?_
  refine lv_istore_n (lv' := [(2, .int (nI 0)), (1, .int (nI 0)), (0, .ref x0)]) hx hb dX_differentInTally_3 rfl hl (by decide) rfl (fun ls hl => ?_)
  have lp4 : ∀ (fu : Nat) (i : Nat) (hi : i ≤ 256) (hm : 256 - i < fu) (ls : Array Slot) (hl : lv_has ls 3 [(0, .ref x0), (1, .int (nI (cnt (fun v => decide (0 < tv v)) i))), (2, .int (nI i))]), W pg l ev (headSpec wX_differentInTally rm_X_differentInTally).room s mt (([.ref x0] : List Value).toArray) below meth kd s.heap [] 0 0 (MQ below (vp_Si (fun r : Int32 => r = nI (cnt (fun v => decide (0 < tv v)) 256))) (([.ref x0] : List Value).toArray) s 0 0 (fun _ => False)) (F0 mt 4 ls []) := by
    intro fu
    induction fu with
    | zero => intro i hi hm; exact absurd hm (Nat.not_lt_zero _)
    | succ fu ih4 =>
      intro i hi hm ls hl
      refine lv_iload_n hx hb dX_differentInTally_4 rfl (lv_at hl 2 rfl) ?_
      refine lv_sipush (v := nI 256) hx hb dX_differentInTally_5 (by decide) ?_
      refine lv_icmp_ge (tgt := 29) hx hb dX_differentInTally_8 (by decide) (fun c8 => ?_) (fun c8 => ?_)
      · -- taken
        have c8 : 256 ≤ i := (nI_leI (a := 256) (b := i) (by omega) (by omega)).mp c8
        refine lv_iload_n hx hb dX_differentInTally_29 rfl (lv_at hl 1 rfl) ?_
        exact zz_iretR (v := nI (cnt (fun v => decide (0 < tv v)) i)) hx hb hr hlocks (by rw [show i = 256 by omega]) dX_differentInTally_30
      · -- not taken
        have c8 : ¬ (256 ≤ i) := fun h => c8 ((nI_leI (a := 256) (b := i) (by omega) (by omega)).mpr h)
        refine lv_aload_n hx hb dX_differentInTally_11 rfl (lv_at hl 0 rfl) ?_
        refine va_get (D := D) (ci := 4) (v := .ref ta) (C := "StatRows") (T := TX) (N := 5) hx hb ht inX hown hK hP 0 rfl rfl 4 (by decide) (ht _ wd81) (fun _ h9 => h9) rfl dX_differentInTally_12 ?_
        refine lv_iload_n hx hb dX_differentInTally_15 rfl (lv_at hl 2 rfl) ?_
        refine zz_iald (k := i) hx hb hK hP 1 0 rfl rfl (by omega) (by decide) dX_differentInTally_16 ?_
        refine zz_top (y := nI (tv i)) (htv i (by omega)) ?_
        have htb1 := htb i (by omega)
        refine lv_if_le (tgt := 23) hx hb dX_differentInTally_17 (by decide) (fun c17 => ?_) (fun c17 => ?_)
        · -- taken
          have c17 : tv i ≤ 0 := (nI_leI (a := tv i) (b := 0) (by omega) (by omega)).mp c17
          have ez : cnt (fun v => decide (0 < tv v)) i = cnt (fun v => decide (0 < tv v)) (i + 1) := by rw [cnt_s, decide_eq_false (by omega)]; rfl
          rw [ez] at hl
          refine lv_iinc (v := nI (i + 1)) (lv' := [(2, .int (nI (i + 1))), (0, .ref x0), (1, .int (nI (cnt (fun v => decide (0 < tv v)) (i + 1))))]) hx hb dX_differentInTally_23 hl (k := 2) rfl (nI_1 i) (by decide) rfl (fun ls hl => ?_)
          refine lv_goto (tgt := 4) hx hb dX_differentInTally_26 (by decide) ?_
          exact ih4 (i + 1) (by omega) (by omega) ls (lv_sub hl [1, 2, 0] rfl)
        · -- not taken
          have c17 : ¬ (tv i ≤ 0) := fun h => c17 ((nI_leI (a := tv i) (b := 0) (by omega) (by omega)).mpr h)
          refine lv_iinc (v := nI (cnt (fun v => decide (0 < tv v)) i + 1)) (lv' := [(1, .int (nI (cnt (fun v => decide (0 < tv v)) i + 1))), (0, .ref x0), (2, .int (nI i))]) hx hb dX_differentInTally_20 hl (k := 1) rfl (nI_1 (cnt (fun v => decide (0 < tv v)) i)) (by decide) rfl (fun ls hl => ?_)
          have ez : cnt (fun v => decide (0 < tv v)) i + 1 = cnt (fun v => decide (0 < tv v)) (i + 1) := by rw [cnt_s, decide_eq_true (by omega)]; rfl
          rw [ez] at hl
          refine lv_iinc (v := nI (i + 1)) (lv' := [(2, .int (nI (i + 1))), (1, .int (nI (cnt (fun v => decide (0 < tv v)) (i + 1)))), (0, .ref x0)]) hx hb dX_differentInTally_23 hl (k := 2) rfl (nI_1 i) (by decide) rfl (fun ls hl => ?_)
          refine lv_goto (tgt := 4) hx hb dX_differentInTally_26 (by decide) ?_
          exact ih4 (i + 1) (by omega) (by omega) ls (lv_sub hl [2, 1, 0] rfl)
  exact lp4 ((256 - 0) + 1) 0 (Nat.zero_le _) (Nat.lt_succ_self _) ls (lv_sub hl [2, 1, 0] rfl)

abbrev rm_X_sumAtSubjects : Room := { frames := 2, cells := 0, slots := 0, locals := 42 }
set_option maxHeartbeats 4000000 in
set_option maxRecDepth 100000 in
theorem c_X_sumAtSubjects (l : Launch) (D : va_G) (cI cB : ClassId) (x0 t0 t1 t2 p0 v0 g0 ta : Nat) (f g : Nat → Int32) (Ls : Nat → List Nat) (hT : RT Ls f g) (tl : Nat → Int32) (tv : Nat → Nat) (htv : ∀ v, v < 256 → tl v = nI (tv v)) (htb : ∀ v, v < 256 → tv v < 1000) (pp : Nat) (hp : pp < 8) (fl : Bool) : Met l yX_sumAtSubjects wX_sumAtSubjects rm_X_sumAtSubjects (zz_R D vwCl [(cI, .int), (cB, .boolean)] [.ref x0, .int (nI pp), .int (nI fl.toNat)] [(x0, .inr (4, [.ref t0, .ref p0, .ref v0, .ref g0, .ref ta])), (t0, .inr (0, [.ref t1, .ref t2])), (t1, .inl (cI, 400, .inl f)), (t2, .inl (cI, 9, .inl g)), (ta, .inl (cI, 256, .inl tl))]) (vp_Sl (fun r : Int64 => r = lN (sumf (fun c => if okf fl c = true then tv (sub_ c) else 0) (Ls pp)))) 0 0 (fun _ => False) := by
  refine Met.ofW (cc := cX_sumAtSubjects) (maxL := 7) (ret := (some .long)) (by decide) rfl ?_
  intro pg ev s mt args below meth kd s₁ B hml hv
  obtain ⟨rfl, hP, hK, hN⟩ := hv
  have hx := B.exec
  have hb := B.bytes
  have hr := B.returns
  have ht : ∀ w ∈ W0, w.before _ s = true := fun w h => atoms_spec (ws := wX_sumAtSubjects) B.pre w (List.mem_cons_of_mem _ h)
  have hown : s.vm.findClass "StatRows" = some mt.cls := findClass_of_methodNamed B.named
  have hlocks := B.notSynchronized
  have hl := lv_entry ([.ref x0, .int (nI pp), .int (nI fl.toNat)]) (n := 7) (Nat.le_of_ble_eq_true rfl)
  rw [lg_entry_eq]
  generalize (lg_sl ([.ref x0, .int (nI pp), .int (nI fl.toNat)]) ++ List.replicate (7 - (lg_sl ([.ref x0, .int (nI pp), .int (nI fl.toNat)])).length) Slot.unset).toArray = ls at hl ⊢
  have hl : lv_has ls 7 [(0, .ref x0), (1, .int (nI pp)), (2, .int (nI fl.toNat))] := hl
  have htp := tr_top (Ls := Ls) hp
  have h400 := hT.2.2.1
  have hfl := btl fl
  refine lv_lconst (v := lN 0) hx hb dX_sumAtSubjects_0 rfl ?_
  refine lv_lstore_n (lv' := [(3, .long (lN 0)), (0, .ref x0), (1, .int (nI pp)), (2, .int (nI fl.toNat))]) hx hb dX_sumAtSubjects_1 rfl hl (by decide) rfl (fun ls hl => ?_)
  refine lv_aload_n hx hb dX_sumAtSubjects_2 rfl (lv_at hl 1 rfl) ?_
  refine va_get (D := D) (ci := 4) (v := .ref t0) (C := "StatRows") (T := TX) (N := 5) hx hb ht inX hown hK hP 0 rfl rfl 0 (by decide) (ht _ wd77) (fun _ h9 => h9) rfl dX_sumAtSubjects_3 ?_
  refine lv_iload_n hx hb dX_sumAtSubjects_6 rfl (lv_at hl 2 rfl) ?_
  refine zz_ci (v := nI (tr_off Ls pp + (Ls pp).length)) (W.runV (As := [.int (nI pp)]) (rest := []) ⟨hx, hb, hml, hown, ht⟩ (c_T_end l D cI cB t0 t1 t2 f g pp (tr_off Ls pp + (Ls pp).length) hp (hT.1 (pp + 1) (by omega))) (cwV 1 ht (gd_V wd171 wd118 wd119 wd2 wd120) rfl rfl rfl (by decide +kernel) ⟨Nat.le_of_ble_eq_true rfl, Nat.le_of_ble_eq_true rfl⟩) (zz_R_V hN hK (hP.sub (ws' := [(t0, .inr (0, [.ref t1, .ref t2])), (t1, .inl (cI, 400, .inl f)), (t2, .inl (cI, 9, .inl g))]) [1, 2, 3] rfl) 0 0 rfl rfl) rfl rfl hl.1 rfl (lv_room (Nat.le_of_ble_eq_true rfl)) dX_sumAtSubjects_7 ⟨Nat.le_of_ble_eq_true rfl, Nat.le_of_ble_eq_true rfl⟩) ?_
  refine lv_istore (lv' := [(5, .int (nI (tr_off Ls pp + (Ls pp).length))), (3, .long (lN 0)), (0, .ref x0), (1, .int (nI pp)), (2, .int (nI fl.toNat))]) hx hb dX_sumAtSubjects_10 hl (by decide) rfl (fun ls hl => ?_)
  refine lv_aload_n hx hb dX_sumAtSubjects_12 rfl (lv_at hl 2 rfl) ?_
  refine va_get (D := D) (ci := 4) (v := .ref t0) (C := "StatRows") (T := TX) (N := 5) hx hb ht inX hown hK hP 0 rfl rfl 0 (by decide) (ht _ wd77) (fun _ h9 => h9) rfl dX_sumAtSubjects_13 ?_
  refine lv_iload_n hx hb dX_sumAtSubjects_16 rfl (lv_at hl 3 rfl) ?_
  refine zz_ci (v := nI (tr_off Ls pp + 0)) (W.runV (As := [.int (nI pp)]) (rest := []) ⟨hx, hb, hml, hown, ht⟩ (c_T_start l D cI cB t0 t1 t2 f g pp (tr_off Ls pp) (by omega) (hT.1 pp (by omega))) (cwV 1 ht (gd_V wd172 wd122 wd123 wd2 wd124) rfl rfl rfl (by decide +kernel) ⟨Nat.le_of_ble_eq_true rfl, Nat.le_of_ble_eq_true rfl⟩) (zz_R_V hN hK (hP.sub (ws' := [(t0, .inr (0, [.ref t1, .ref t2])), (t1, .inl (cI, 400, .inl f)), (t2, .inl (cI, 9, .inl g))]) [1, 2, 3] rfl) 0 0 rfl rfl) rfl rfl hl.1 rfl (lv_room (Nat.le_of_ble_eq_true rfl)) dX_sumAtSubjects_17 ⟨Nat.le_of_ble_eq_true rfl, Nat.le_of_ble_eq_true rfl⟩) ?_
  refine lv_istore (lv' := [(6, .int (nI (tr_off Ls pp + 0))), (5, .int (nI (tr_off Ls pp + (Ls pp).length))), (3, .long (lN 0)), (0, .ref x0), (1, .int (nI pp)), (2, .int (nI fl.toNat))]) hx hb dX_sumAtSubjects_20 hl (by decide) rfl (fun ls hl => ?_)
  have lp22 : ∀ (fu : Nat) (i : Nat) (hi : i ≤ (Ls pp).length) (hm : (Ls pp).length - i < fu) (ls : Array Slot) (hl : lv_has ls 7 [(0, .ref x0), (1, .int (nI pp)), (2, .int (nI fl.toNat)), (3, .long (lN (sumf (fun c => if okf fl c = true then tv (sub_ c) else 0) ((Ls pp).take i)))), (5, .int (nI (tr_off Ls pp + (Ls pp).length))), (6, .int (nI (tr_off Ls pp + i)))]), W pg l ev (headSpec wX_sumAtSubjects rm_X_sumAtSubjects).room s mt (([.ref x0, .int (nI pp), .int (nI fl.toNat)] : List Value).toArray) below meth kd s.heap [] 0 0 (MQ below (vp_Sl (fun r : Int64 => r = lN (sumf (fun c => if okf fl c = true then tv (sub_ c) else 0) (Ls pp)))) (([.ref x0, .int (nI pp), .int (nI fl.toNat)] : List Value).toArray) s 0 0 (fun _ => False)) (F0 mt 22 ls []) := by
    intro fu
    induction fu with
    | zero => intro i hi hm; exact absurd hm (Nat.not_lt_zero _)
    | succ fu ih22 =>
      intro i hi hm ls hl
      refine lv_iload hx hb dX_sumAtSubjects_22 (lv_at hl 5 rfl) ?_
      refine lv_iload hx hb dX_sumAtSubjects_24 (lv_at hl 4 rfl) ?_
      refine lv_icmp_ge (tgt := 69) hx hb dX_sumAtSubjects_26 (by decide) (fun c26 => ?_) (fun c26 => ?_)
      · -- taken
        have c26 : tr_off Ls pp + (Ls pp).length ≤ tr_off Ls pp + i := (nI_leI (a := tr_off Ls pp + (Ls pp).length) (b := tr_off Ls pp + i) (by omega) (by omega)).mp c26
        refine lv_lload_n hx hb dX_sumAtSubjects_69 rfl (lv_at hl 3 rfl) ?_
        exact zz_lretR (v := lN (sumf (fun c => if okf fl c = true then tv (sub_ c) else 0) ((Ls pp).take i))) hx hb hr hlocks (by rw [tkl _ i (by omega)]) dX_sumAtSubjects_70
      · -- not taken
        have c26 : ¬ (tr_off Ls pp + (Ls pp).length ≤ tr_off Ls pp + i) := fun h => c26 ((nI_leI (a := tr_off Ls pp + (Ls pp).length) (b := tr_off Ls pp + i) (by omega) (by omega)).mpr h)
        have hci := hT.2.2.2.1 pp hp i (by omega)
        have hsb := btl (smp ((Ls pp).getD i 0))
        have htb1 := htb ((Ls pp).getD i 0 / 256) (by omega)
        refine lv_iload_n hx hb dX_sumAtSubjects_29 rfl (lv_at hl 2 rfl) ?_
        refine lv_if_eq (tgt := 45) hx hb dX_sumAtSubjects_30 (by decide) (fun c30 => ?_) (fun c30 => ?_)
        · -- taken
          have c30 : fl.toNat = 0 := (nI_eq (a := fl.toNat) (b := 0) (by omega) (by omega)).mp c30
          have hok : okf fl ((Ls pp).getD i 0) = true := by unfold okf; rw [bt0 c30]; rfl
          refine lv_lload_n hx hb dX_sumAtSubjects_45 rfl (lv_at hl 3 rfl) ?_
          refine lv_aload_n hx hb dX_sumAtSubjects_46 rfl (lv_at hl 0 rfl) ?_
          refine va_get (D := D) (ci := 4) (v := .ref ta) (C := "StatRows") (T := TX) (N := 5) hx hb ht inX hown hK hP 0 rfl rfl 4 (by decide) (ht _ wd81) (fun _ h9 => h9) rfl dX_sumAtSubjects_47 ?_
          refine lv_aload_n hx hb dX_sumAtSubjects_50 rfl (lv_at hl 0 rfl) ?_
          refine va_get (D := D) (ci := 4) (v := .ref t0) (C := "StatRows") (T := TX) (N := 5) hx hb ht inX hown hK hP 0 rfl rfl 0 (by decide) (ht _ wd77) (fun _ h9 => h9) rfl dX_sumAtSubjects_51 ?_
          refine lv_iload hx hb dX_sumAtSubjects_54 (lv_at hl 5 rfl) ?_
          refine zz_ci (v := nI ((Ls pp).getD i 0 / 256)) (W.runV (As := [.int (nI (tr_off Ls pp + i))]) (rest := [.ref ta, .long (lN (sumf (fun c => if okf fl c = true then tv (sub_ c) else 0) ((Ls pp).take i)))]) ⟨hx, hb, hml, hown, ht⟩ (c_T_subjectAt l D cI cB t0 t1 t2 f g (tr_off Ls pp + i) ((Ls pp).getD i 0) (by omega) (hT.2.1 pp hp i (by omega)) (hT.2.2.2.1 pp hp i (by omega))) (cwV 1 ht (gd_V wd173 wd174 wd175 wd2 wd176) rfl rfl rfl (by decide +kernel) ⟨Nat.le_of_ble_eq_true rfl, Nat.le_of_ble_eq_true rfl⟩) (zz_R_V hN hK (hP.sub (ws' := [(t0, .inr (0, [.ref t1, .ref t2])), (t1, .inl (cI, 400, .inl f)), (t2, .inl (cI, 9, .inl g))]) [1, 2, 3] rfl) 0 0 rfl rfl) rfl rfl hl.1 rfl (lv_room (Nat.le_of_ble_eq_true rfl)) dX_sumAtSubjects_56 ⟨Nat.le_of_ble_eq_true rfl, Nat.le_of_ble_eq_true rfl⟩) ?_
          refine zz_iald (k := (Ls pp).getD i 0 / 256) hx hb hK hP 4 0 rfl rfl (by omega) (by decide) dX_sumAtSubjects_59 ?_
          refine zz_top (y := nI (tv ((Ls pp).getD i 0 / 256))) (htv _ (by omega)) ?_
          refine lv_i2l (v := lN (tv ((Ls pp).getD i 0 / 256))) hx hb dX_sumAtSubjects_60 (nI_l (n := tv ((Ls pp).getD i 0 / 256)) (by omega)) ?_
          refine lv_ladd hx hb dX_sumAtSubjects_61 ?_
          refine zz_topl (y := lN ((sumf (fun c => if okf fl c = true then tv (sub_ c) else 0) ((Ls pp).take i)) + (tv ((Ls pp).getD i 0 / 256)))) (lN_add (sumf (fun c => if okf fl c = true then tv (sub_ c) else 0) ((Ls pp).take i)) (tv ((Ls pp).getD i 0 / 256))) ?_
          refine zz_topl (y := lN (sumf (fun c => if okf fl c = true then tv (sub_ c) else 0) ((Ls pp).take (i + 1)))) (by rw [tk1 _ i 0 (by omega), sumf1, hok]; rfl) ?_
          refine lv_lstore_n (lv' := [(3, .long (lN (sumf (fun c => if okf fl c = true then tv (sub_ c) else 0) ((Ls pp).take (i + 1))))), (0, .ref x0), (1, .int (nI pp)), (2, .int (nI fl.toNat)), (5, .int (nI (tr_off Ls pp + (Ls pp).length))), (6, .int (nI (tr_off Ls pp + i)))]) hx hb dX_sumAtSubjects_62 rfl hl (by decide) rfl (fun ls hl => ?_)
          refine lv_iinc (v := nI (tr_off Ls pp + i + 1)) (lv' := [(6, .int (nI (tr_off Ls pp + i + 1))), (3, .long (lN (sumf (fun c => if okf fl c = true then tv (sub_ c) else 0) ((Ls pp).take (i + 1))))), (0, .ref x0), (1, .int (nI pp)), (2, .int (nI fl.toNat)), (5, .int (nI (tr_off Ls pp + (Ls pp).length)))]) hx hb dX_sumAtSubjects_63 hl (k := 5) rfl (nI_1 (tr_off Ls pp + i)) (by decide) rfl (fun ls hl => ?_)
          refine lv_goto (tgt := 22) hx hb dX_sumAtSubjects_66 (by decide) ?_
          exact ih22 (i + 1) (by omega) (by omega) ls (lv_sub hl [2, 3, 4, 1, 5, 0] rfl)
        · -- not taken
          have c30 : ¬ (fl.toNat = 0) := fun h => c30 ((nI_eq (a := fl.toNat) (b := 0) (by omega) (by omega)).mpr h)
          refine lv_aload_n hx hb dX_sumAtSubjects_33 rfl (lv_at hl 0 rfl) ?_
          refine va_get (D := D) (ci := 4) (v := .ref t0) (C := "StatRows") (T := TX) (N := 5) hx hb ht inX hown hK hP 0 rfl rfl 0 (by decide) (ht _ wd77) (fun _ h9 => h9) rfl dX_sumAtSubjects_34 ?_
          refine lv_iload hx hb dX_sumAtSubjects_37 (lv_at hl 5 rfl) ?_
          refine zz_ci (v := nI ((smp ((Ls pp).getD i 0)).toNat)) (W.runV (As := [.int (nI (tr_off Ls pp + i))]) (rest := []) ⟨hx, hb, hml, hown, ht⟩ (c_T_isSampled l D cI cB t0 t1 t2 f g (tr_off Ls pp + i) ((Ls pp).getD i 0) (by omega) (hT.2.1 pp hp i (by omega))) (cwV 1 ht (gd_V wd189 wd190 wd191 wd2 wd192) rfl rfl rfl (by decide +kernel) ⟨Nat.le_of_ble_eq_true rfl, Nat.le_of_ble_eq_true rfl⟩) (zz_R_V hN hK (hP.sub (ws' := [(t0, .inr (0, [.ref t1, .ref t2])), (t1, .inl (cI, 400, .inl f)), (t2, .inl (cI, 9, .inl g))]) [1, 2, 3] rfl) 0 0 rfl rfl) rfl rfl hl.1 rfl (lv_room (Nat.le_of_ble_eq_true rfl)) dX_sumAtSubjects_39 ⟨Nat.le_of_ble_eq_true rfl, Nat.le_of_ble_eq_true rfl⟩) ?_
          refine lv_if_eq (tgt := 63) hx hb dX_sumAtSubjects_42 (by decide) (fun c42 => ?_) (fun c42 => ?_)
          · -- taken
            have c42 : (smp ((Ls pp).getD i 0)).toNat = 0 := (nI_eq (a := (smp ((Ls pp).getD i 0)).toNat) (b := 0) (by omega) (by omega)).mp c42
            have hok : okf fl ((Ls pp).getD i 0) = false := by unfold okf; rw [bt1 c30, bt0 c42]; rfl
            have ez : sumf (fun c => if okf fl c = true then tv (sub_ c) else 0) ((Ls pp).take i) = sumf (fun c => if okf fl c = true then tv (sub_ c) else 0) ((Ls pp).take (i + 1)) := by rw [tk1 _ i 0 (by omega), sumf1, hok]; rfl
            rw [ez] at hl
            refine lv_iinc (v := nI (tr_off Ls pp + i + 1)) (lv' := [(6, .int (nI (tr_off Ls pp + i + 1))), (0, .ref x0), (1, .int (nI pp)), (2, .int (nI fl.toNat)), (3, .long (lN (sumf (fun c => if okf fl c = true then tv (sub_ c) else 0) ((Ls pp).take (i + 1))))), (5, .int (nI (tr_off Ls pp + (Ls pp).length)))]) hx hb dX_sumAtSubjects_63 hl (k := 5) rfl (nI_1 (tr_off Ls pp + i)) (by decide) rfl (fun ls hl => ?_)
            refine lv_goto (tgt := 22) hx hb dX_sumAtSubjects_66 (by decide) ?_
            exact ih22 (i + 1) (by omega) (by omega) ls (lv_sub hl [1, 2, 3, 4, 5, 0] rfl)
          · -- not taken
            have c42 : ¬ ((smp ((Ls pp).getD i 0)).toNat = 0) := fun h => c42 ((nI_eq (a := (smp ((Ls pp).getD i 0)).toNat) (b := 0) (by omega) (by omega)).mpr h)
            have hok : okf fl ((Ls pp).getD i 0) = true := by unfold okf; rw [bt1 c42]; simp
            refine lv_lload_n hx hb dX_sumAtSubjects_45 rfl (lv_at hl 3 rfl) ?_
            refine lv_aload_n hx hb dX_sumAtSubjects_46 rfl (lv_at hl 0 rfl) ?_
            refine va_get (D := D) (ci := 4) (v := .ref ta) (C := "StatRows") (T := TX) (N := 5) hx hb ht inX hown hK hP 0 rfl rfl 4 (by decide) (ht _ wd81) (fun _ h9 => h9) rfl dX_sumAtSubjects_47 ?_
            refine lv_aload_n hx hb dX_sumAtSubjects_50 rfl (lv_at hl 0 rfl) ?_
            refine va_get (D := D) (ci := 4) (v := .ref t0) (C := "StatRows") (T := TX) (N := 5) hx hb ht inX hown hK hP 0 rfl rfl 0 (by decide) (ht _ wd77) (fun _ h9 => h9) rfl dX_sumAtSubjects_51 ?_
            refine lv_iload hx hb dX_sumAtSubjects_54 (lv_at hl 5 rfl) ?_
            refine zz_ci (v := nI ((Ls pp).getD i 0 / 256)) (W.runV (As := [.int (nI (tr_off Ls pp + i))]) (rest := [.ref ta, .long (lN (sumf (fun c => if okf fl c = true then tv (sub_ c) else 0) ((Ls pp).take i)))]) ⟨hx, hb, hml, hown, ht⟩ (c_T_subjectAt l D cI cB t0 t1 t2 f g (tr_off Ls pp + i) ((Ls pp).getD i 0) (by omega) (hT.2.1 pp hp i (by omega)) (hT.2.2.2.1 pp hp i (by omega))) (cwV 1 ht (gd_V wd173 wd174 wd175 wd2 wd176) rfl rfl rfl (by decide +kernel) ⟨Nat.le_of_ble_eq_true rfl, Nat.le_of_ble_eq_true rfl⟩) (zz_R_V hN hK (hP.sub (ws' := [(t0, .inr (0, [.ref t1, .ref t2])), (t1, .inl (cI, 400, .inl f)), (t2, .inl (cI, 9, .inl g))]) [1, 2, 3] rfl) 0 0 rfl rfl) rfl rfl hl.1 rfl (lv_room (Nat.le_of_ble_eq_true rfl)) dX_sumAtSubjects_56 ⟨Nat.le_of_ble_eq_true rfl, Nat.le_of_ble_eq_true rfl⟩) ?_
            refine zz_iald (k := (Ls pp).getD i 0 / 256) hx hb hK hP 4 0 rfl rfl (by omega) (by decide) dX_sumAtSubjects_59 ?_
            refine zz_top (y := nI (tv ((Ls pp).getD i 0 / 256))) (htv _ (by omega)) ?_
            refine lv_i2l (v := lN (tv ((Ls pp).getD i 0 / 256))) hx hb dX_sumAtSubjects_60 (nI_l (n := tv ((Ls pp).getD i 0 / 256)) (by omega)) ?_
            refine lv_ladd hx hb dX_sumAtSubjects_61 ?_
            refine zz_topl (y := lN ((sumf (fun c => if okf fl c = true then tv (sub_ c) else 0) ((Ls pp).take i)) + (tv ((Ls pp).getD i 0 / 256)))) (lN_add (sumf (fun c => if okf fl c = true then tv (sub_ c) else 0) ((Ls pp).take i)) (tv ((Ls pp).getD i 0 / 256))) ?_
            refine zz_topl (y := lN (sumf (fun c => if okf fl c = true then tv (sub_ c) else 0) ((Ls pp).take (i + 1)))) (by rw [tk1 _ i 0 (by omega), sumf1, hok]; rfl) ?_
            refine lv_lstore_n (lv' := [(3, .long (lN (sumf (fun c => if okf fl c = true then tv (sub_ c) else 0) ((Ls pp).take (i + 1))))), (0, .ref x0), (1, .int (nI pp)), (2, .int (nI fl.toNat)), (5, .int (nI (tr_off Ls pp + (Ls pp).length))), (6, .int (nI (tr_off Ls pp + i)))]) hx hb dX_sumAtSubjects_62 rfl hl (by decide) rfl (fun ls hl => ?_)
            refine lv_iinc (v := nI (tr_off Ls pp + i + 1)) (lv' := [(6, .int (nI (tr_off Ls pp + i + 1))), (3, .long (lN (sumf (fun c => if okf fl c = true then tv (sub_ c) else 0) ((Ls pp).take (i + 1))))), (0, .ref x0), (1, .int (nI pp)), (2, .int (nI fl.toNat)), (5, .int (nI (tr_off Ls pp + (Ls pp).length)))]) hx hb dX_sumAtSubjects_63 hl (k := 5) rfl (nI_1 (tr_off Ls pp + i)) (by decide) rfl (fun ls hl => ?_)
            refine lv_goto (tgt := 22) hx hb dX_sumAtSubjects_66 (by decide) ?_
            exact ih22 (i + 1) (by omega) (by omega) ls (lv_sub hl [2, 3, 4, 1, 5, 0] rfl)
  exact lp22 (((Ls pp).length - 0) + 1) 0 (Nat.zero_le _) (Nat.lt_succ_self _) ls (lv_sub hl [3, 4, 5, 2, 1, 0] rfl)

abbrev rm_X_withObjectBetween : Room := { frames := 1, cells := 0, slots := 0, locals := 21 }
set_option maxHeartbeats 4000000 in
set_option maxRecDepth 100000 in
theorem c_X_withObjectBetween (l : Launch) (D : va_G) (cI cB : ClassId) (x0 t0 t1 t2 p0 v0 g0 ta : Nat) (f g : Nat → Int32) (Ls : Nat → List Nat) (hT : RT Ls f g) (pp : Nat) (hp : pp < 8) (fr to : Int32) : Met l yX_withObjectBetween wX_withObjectBetween rm_X_withObjectBetween (zz_R D vwCl [(cI, .int), (cB, .boolean)] [.ref x0, .int (nI pp), .int fr, .int to] [(x0, .inr (4, [.ref t0, .ref p0, .ref v0, .ref g0, .ref ta])), (t0, .inr (0, [.ref t1, .ref t2])), (t1, .inl (cI, 400, .inl f)), (t2, .inl (cI, 9, .inl g))]) (vp_Si (fun r : Int32 => r = nI ((Ls pp).countP (fun c => btw fr to (obj_ c))))) 0 0 (fun _ => False) := by
  refine Met.ofW (cc := cX_withObjectBetween) (maxL := 8) (ret := (some .int)) (by decide) rfl ?_
  intro pg ev s mt args below meth kd s₁ B hml hv
  obtain ⟨rfl, hP, hK, hN⟩ := hv
  have hx := B.exec
  have hb := B.bytes
  have hr := B.returns
  have ht : ∀ w ∈ W0, w.before _ s = true := fun w h => atoms_spec (ws := wX_withObjectBetween) B.pre w (List.mem_cons_of_mem _ h)
  have hown : s.vm.findClass "StatRows" = some mt.cls := findClass_of_methodNamed B.named
  have hlocks := B.notSynchronized
  have hl := lv_entry ([.ref x0, .int (nI pp), .int fr, .int to]) (n := 8) (Nat.le_of_ble_eq_true rfl)
  rw [lg_entry_eq]
  generalize (lg_sl ([.ref x0, .int (nI pp), .int fr, .int to]) ++ List.replicate (8 - (lg_sl ([.ref x0, .int (nI pp), .int fr, .int to])).length) Slot.unset).toArray = ls at hl ⊢
  have hl : lv_has ls 8 [(0, .ref x0), (1, .int (nI pp)), (2, .int fr), (3, .int to)] := hl
  have htp := tr_top (Ls := Ls) hp
  have h400 := hT.2.2.1
  refine lv_iconst (v := nI 0) hx hb dX_withObjectBetween_0 (by decide) ?_
  refine lv_istore (lv' := [(4, .int (nI 0)), (0, .ref x0), (1, .int (nI pp)), (2, .int fr), (3, .int to)]) hx hb dX_withObjectBetween_1 hl (by decide) rfl (fun ls hl => ?_)
  refine lv_aload_n hx hb dX_withObjectBetween_3 rfl (lv_at hl 1 rfl) ?_
  refine va_get (D := D) (ci := 4) (v := .ref t0) (C := "StatRows") (T := TX) (N := 5) hx hb ht inX hown hK hP 0 rfl rfl 0 (by decide) (ht _ wd77) (fun _ h9 => h9) rfl dX_withObjectBetween_4 ?_
  refine lv_iload_n hx hb dX_withObjectBetween_7 rfl (lv_at hl 2 rfl) ?_
  refine zz_ci (v := nI (tr_off Ls pp + (Ls pp).length)) (W.runV (As := [.int (nI pp)]) (rest := []) ⟨hx, hb, hml, hown, ht⟩ (c_T_end l D cI cB t0 t1 t2 f g pp (tr_off Ls pp + (Ls pp).length) hp (hT.1 (pp + 1) (by omega))) (cwV 1 ht (gd_V wd171 wd118 wd119 wd2 wd120) rfl rfl rfl (by decide +kernel) ⟨Nat.le_of_ble_eq_true rfl, Nat.le_of_ble_eq_true rfl⟩) (zz_R_V hN hK (hP.sub (ws' := [(t0, .inr (0, [.ref t1, .ref t2])), (t1, .inl (cI, 400, .inl f)), (t2, .inl (cI, 9, .inl g))]) [1, 2, 3] rfl) 0 0 rfl rfl) rfl rfl hl.1 rfl (lv_room (Nat.le_of_ble_eq_true rfl)) dX_withObjectBetween_8 ⟨Nat.le_of_ble_eq_true rfl, Nat.le_of_ble_eq_true rfl⟩) ?_
  refine lv_istore (lv' := [(5, .int (nI (tr_off Ls pp + (Ls pp).length))), (4, .int (nI 0)), (0, .ref x0), (1, .int (nI pp)), (2, .int fr), (3, .int to)]) hx hb dX_withObjectBetween_11 hl (by decide) rfl (fun ls hl => ?_)
  refine lv_aload_n hx hb dX_withObjectBetween_13 rfl (lv_at hl 2 rfl) ?_
  refine va_get (D := D) (ci := 4) (v := .ref t0) (C := "StatRows") (T := TX) (N := 5) hx hb ht inX hown hK hP 0 rfl rfl 0 (by decide) (ht _ wd77) (fun _ h9 => h9) rfl dX_withObjectBetween_14 ?_
  refine lv_iload_n hx hb dX_withObjectBetween_17 rfl (lv_at hl 3 rfl) ?_
  refine zz_ci (v := nI (tr_off Ls pp + 0)) (W.runV (As := [.int (nI pp)]) (rest := []) ⟨hx, hb, hml, hown, ht⟩ (c_T_start l D cI cB t0 t1 t2 f g pp (tr_off Ls pp) (by omega) (hT.1 pp (by omega))) (cwV 1 ht (gd_V wd172 wd122 wd123 wd2 wd124) rfl rfl rfl (by decide +kernel) ⟨Nat.le_of_ble_eq_true rfl, Nat.le_of_ble_eq_true rfl⟩) (zz_R_V hN hK (hP.sub (ws' := [(t0, .inr (0, [.ref t1, .ref t2])), (t1, .inl (cI, 400, .inl f)), (t2, .inl (cI, 9, .inl g))]) [1, 2, 3] rfl) 0 0 rfl rfl) rfl rfl hl.1 rfl (lv_room (Nat.le_of_ble_eq_true rfl)) dX_withObjectBetween_18 ⟨Nat.le_of_ble_eq_true rfl, Nat.le_of_ble_eq_true rfl⟩) ?_
  refine lv_istore (lv' := [(6, .int (nI (tr_off Ls pp + 0))), (5, .int (nI (tr_off Ls pp + (Ls pp).length))), (4, .int (nI 0)), (0, .ref x0), (1, .int (nI pp)), (2, .int fr), (3, .int to)]) hx hb dX_withObjectBetween_21 hl (by decide) rfl (fun ls hl => ?_)
  have lp23 : ∀ (fu : Nat) (i : Nat) (hi : i ≤ (Ls pp).length) (hm : (Ls pp).length - i < fu) (ls : Array Slot) (hl : lv_has ls 8 [(0, .ref x0), (1, .int (nI pp)), (2, .int fr), (3, .int to), (4, .int (nI (((Ls pp).take i).countP (fun c => btw fr to (obj_ c))))), (5, .int (nI (tr_off Ls pp + (Ls pp).length))), (6, .int (nI (tr_off Ls pp + i)))]), W pg l ev (headSpec wX_withObjectBetween rm_X_withObjectBetween).room s mt (([.ref x0, .int (nI pp), .int fr, .int to] : List Value).toArray) below meth kd s.heap [] 0 0 (MQ below (vp_Si (fun r : Int32 => r = nI ((Ls pp).countP (fun c => btw fr to (obj_ c))))) (([.ref x0, .int (nI pp), .int fr, .int to] : List Value).toArray) s 0 0 (fun _ => False)) (F0 mt 23 ls []) := by
    intro fu
    induction fu with
    | zero => intro i hi hm; exact absurd hm (Nat.not_lt_zero _)
    | succ fu ih23 =>
      intro i hi hm ls hl
      refine lv_iload hx hb dX_withObjectBetween_23 (lv_at hl 6 rfl) ?_
      refine lv_iload hx hb dX_withObjectBetween_25 (lv_at hl 5 rfl) ?_
      refine lv_icmp_ge (tgt := 62) hx hb dX_withObjectBetween_27 (by decide) (fun c27 => ?_) (fun c27 => ?_)
      · -- taken
        have c27 : tr_off Ls pp + (Ls pp).length ≤ tr_off Ls pp + i := (nI_leI (a := tr_off Ls pp + (Ls pp).length) (b := tr_off Ls pp + i) (by omega) (by omega)).mp c27
        refine lv_iload hx hb dX_withObjectBetween_62 (lv_at hl 4 rfl) ?_
        exact zz_iretR (v := nI (((Ls pp).take i).countP (fun c => btw fr to (obj_ c)))) hx hb hr hlocks (by rw [tkl _ i (by omega)]) dX_withObjectBetween_64
      · -- not taken
        have c27 : ¬ (tr_off Ls pp + (Ls pp).length ≤ tr_off Ls pp + i) := fun h => c27 ((nI_leI (a := tr_off Ls pp + (Ls pp).length) (b := tr_off Ls pp + i) (by omega) (by omega)).mpr h)
        have hci := hT.2.2.2.1 pp hp i (by omega)
        refine lv_aload_n hx hb dX_withObjectBetween_30 rfl (lv_at hl 0 rfl) ?_
        refine va_get (D := D) (ci := 4) (v := .ref t0) (C := "StatRows") (T := TX) (N := 5) hx hb ht inX hown hK hP 0 rfl rfl 0 (by decide) (ht _ wd77) (fun _ h9 => h9) rfl dX_withObjectBetween_31 ?_
        refine lv_iload hx hb dX_withObjectBetween_34 (lv_at hl 6 rfl) ?_
        refine zz_ci (v := nI ((Ls pp).getD i 0 % 256)) (W.runV (As := [.int (nI (tr_off Ls pp + i))]) (rest := []) ⟨hx, hb, hml, hown, ht⟩ (c_T_objectAt l D cI cB t0 t1 t2 f g (tr_off Ls pp + i) ((Ls pp).getD i 0) (by omega) (hT.2.1 pp hp i (by omega)) (hT.2.2.2.1 pp hp i (by omega))) (cwV 1 ht (gd_V wd198 wd199 wd200 wd2 wd201) rfl rfl rfl (by decide +kernel) ⟨Nat.le_of_ble_eq_true rfl, Nat.le_of_ble_eq_true rfl⟩) (zz_R_V hN hK (hP.sub (ws' := [(t0, .inr (0, [.ref t1, .ref t2])), (t1, .inl (cI, 400, .inl f)), (t2, .inl (cI, 9, .inl g))]) [1, 2, 3] rfl) 0 0 rfl rfl) rfl rfl hl.1 rfl (lv_room (Nat.le_of_ble_eq_true rfl)) dX_withObjectBetween_36 ⟨Nat.le_of_ble_eq_true rfl, Nat.le_of_ble_eq_true rfl⟩) ?_
        refine lv_istore (lv' := [(7, .int (nI ((Ls pp).getD i 0 % 256))), (0, .ref x0), (1, .int (nI pp)), (2, .int fr), (3, .int to), (4, .int (nI (((Ls pp).take i).countP (fun c => btw fr to (obj_ c))))), (5, .int (nI (tr_off Ls pp + (Ls pp).length))), (6, .int (nI (tr_off Ls pp + i)))]) hx hb dX_withObjectBetween_39 hl (by decide) rfl (fun ls hl => ?_)
        refine lv_iload_n hx hb dX_withObjectBetween_41 rfl (lv_at hl 3 rfl) ?_
        refine lv_iload hx hb dX_withObjectBetween_42 (lv_at hl 0 rfl) ?_
        refine lv_icmp_gt (tgt := 56) hx hb dX_withObjectBetween_44 (by decide) (fun c44 => ?_) (fun c44 => ?_)
        · -- taken
          have ez : ((Ls pp).take i).countP (fun c => btw fr to (obj_ c)) = ((Ls pp).take (i + 1)).countP (fun c => btw fr to (obj_ c)) := by
            rw [tk1 _ i 0 (by omega), cp1]
            have : btw fr to (obj_ ((Ls pp).getD i 0)) = false := decide_eq_false (fun q => q.1 c44)
            rw [this]; rfl
          rw [ez] at hl
          refine lv_iinc (v := nI (tr_off Ls pp + i + 1)) (lv' := [(6, .int (nI (tr_off Ls pp + i + 1))), (7, .int (nI ((Ls pp).getD i 0 % 256))), (0, .ref x0), (1, .int (nI pp)), (2, .int fr), (3, .int to), (4, .int (nI (((Ls pp).take (i + 1)).countP (fun c => btw fr to (obj_ c))))), (5, .int (nI (tr_off Ls pp + (Ls pp).length)))]) hx hb dX_withObjectBetween_56 hl (k := 7) rfl (nI_1 (tr_off Ls pp + i)) (by decide) rfl (fun ls hl => ?_)
          refine lv_goto (tgt := 23) hx hb dX_withObjectBetween_59 (by decide) ?_
          exact ih23 (i + 1) (by omega) (by omega) ls (lv_sub hl [2, 3, 4, 5, 6, 7, 0] rfl)
        · -- not taken
          refine lv_iload hx hb dX_withObjectBetween_47 (lv_at hl 0 rfl) ?_
          refine lv_iload_n hx hb dX_withObjectBetween_49 rfl (lv_at hl 4 rfl) ?_
          refine lv_icmp_gt (tgt := 56) hx hb dX_withObjectBetween_50 (by decide) (fun c50 => ?_) (fun c50 => ?_)
          · -- taken
            have ez : ((Ls pp).take i).countP (fun c => btw fr to (obj_ c)) = ((Ls pp).take (i + 1)).countP (fun c => btw fr to (obj_ c)) := by
              rw [tk1 _ i 0 (by omega), cp1]
              have : btw fr to (obj_ ((Ls pp).getD i 0)) = false := decide_eq_false (fun q => q.2 c50)
              rw [this]; rfl
            rw [ez] at hl
            refine lv_iinc (v := nI (tr_off Ls pp + i + 1)) (lv' := [(6, .int (nI (tr_off Ls pp + i + 1))), (7, .int (nI ((Ls pp).getD i 0 % 256))), (0, .ref x0), (1, .int (nI pp)), (2, .int fr), (3, .int to), (4, .int (nI (((Ls pp).take (i + 1)).countP (fun c => btw fr to (obj_ c))))), (5, .int (nI (tr_off Ls pp + (Ls pp).length)))]) hx hb dX_withObjectBetween_56 hl (k := 7) rfl (nI_1 (tr_off Ls pp + i)) (by decide) rfl (fun ls hl => ?_)
            refine lv_goto (tgt := 23) hx hb dX_withObjectBetween_59 (by decide) ?_
            exact ih23 (i + 1) (by omega) (by omega) ls (lv_sub hl [2, 3, 4, 5, 6, 7, 0] rfl)
          · -- not taken
            refine lv_iinc (v := nI (((Ls pp).take i).countP (fun c => btw fr to (obj_ c)) + 1)) (lv' := [(4, .int (nI (((Ls pp).take i).countP (fun c => btw fr to (obj_ c)) + 1))), (7, .int (nI ((Ls pp).getD i 0 % 256))), (0, .ref x0), (1, .int (nI pp)), (2, .int fr), (3, .int to), (5, .int (nI (tr_off Ls pp + (Ls pp).length))), (6, .int (nI (tr_off Ls pp + i)))]) hx hb dX_withObjectBetween_53 hl (k := 5) rfl (nI_1 (((Ls pp).take i).countP (fun c => btw fr to (obj_ c)))) (by decide) rfl (fun ls hl => ?_)
            have ez : ((Ls pp).take i).countP (fun c => btw fr to (obj_ c)) + 1 = ((Ls pp).take (i + 1)).countP (fun c => btw fr to (obj_ c)) := by
              rw [tk1 _ i 0 (by omega), cp1]
              have : btw fr to (obj_ ((Ls pp).getD i 0)) = true := decide_eq_true ⟨c44, c50⟩
              rw [this]; rfl
            rw [ez] at hl
            refine lv_iinc (v := nI (tr_off Ls pp + i + 1)) (lv' := [(6, .int (nI (tr_off Ls pp + i + 1))), (4, .int (nI (((Ls pp).take (i + 1)).countP (fun c => btw fr to (obj_ c))))), (7, .int (nI ((Ls pp).getD i 0 % 256))), (0, .ref x0), (1, .int (nI pp)), (2, .int fr), (3, .int to), (5, .int (nI (tr_off Ls pp + (Ls pp).length)))]) hx hb dX_withObjectBetween_56 hl (k := 7) rfl (nI_1 (tr_off Ls pp + i)) (by decide) rfl (fun ls hl => ?_)
            refine lv_goto (tgt := 23) hx hb dX_withObjectBetween_59 (by decide) ?_
            exact ih23 (i + 1) (by omega) (by omega) ls (lv_sub hl [3, 4, 5, 6, 1, 7, 0] rfl)
  exact lp23 (((Ls pp).length - 0) + 1) 0 (Nat.zero_le _) (Nat.lt_succ_self _) ls (lv_sub hl [3, 4, 5, 6, 2, 1, 0] rfl)
end
section
abbrev rm_X_subjectsOf : Room := { frames := 2, cells := 0, slots := 0, locals := 44 }
set_option maxHeartbeats 4000000 in
set_option maxRecDepth 100000 in
theorem c_X_subjectsOf (l : Launch) (D : va_G) (cI cB : ClassId) (sz : Nat) (x0 t0 t1 t2 p0 v0 g0 ta : Nat) (f g : Nat → Int32) (Ls : Nat → List Nat) (hT : RT Ls f g) (tl : Nat → Int32) (pp : Nat) (hp : pp < 8) : Met l yX_subjectsOf wX_subjectsOf rm_X_subjectsOf (zz_P D vwCl [(cI, .int), (cB, .boolean)] [.ref x0, .int (nI pp)] [(x0, .inr (4, [.ref t0, .ref p0, .ref v0, .ref g0, .ref ta])), (t0, .inr (0, [.ref t1, .ref t2])), (t1, .inl (cI, 400, .inl f)), (t2, .inl (cI, 9, .inl g)), (ta, .inl (cI, 256, .inl tl))] sz) (va_Qi (fun (r : Int32) (u : (Nat → Int32)) => r = nI (cnt (anyk sub_ (Ls pp)) 256)) (fun u : (Nat → Int32) => zz_B D vwCl [(cI, .int), (cB, .boolean)] (va_A [(x0, .inr (4, [.ref t0, .ref p0, .ref v0, .ref g0, .ref ta])), (t0, .inr (0, [.ref t1, .ref t2])), (t1, .inl (cI, 400, .inl f)), (t2, .inl (cI, 9, .inl g)), (ta, .inl (cI, 256, .inl tl))] sz) [(x0, .inr (4, [.ref t0, .ref p0, .ref v0, .ref g0, .ref ta])), (t0, .inr (0, [.ref t1, .ref t2])), (t1, .inl (cI, 400, .inl f)), (t2, .inl (cI, 9, .inl g)), (ta, .inl (cI, 256, .inl u))]) (va_A [(x0, .inr (4, [.ref t0, .ref p0, .ref v0, .ref g0, .ref ta])), (t0, .inr (0, [.ref t1, .ref t2])), (t1, .inl (cI, 400, .inl f)), (t2, .inl (cI, 9, .inl g)), (ta, .inl (cI, 256, .inl tl))] sz)) 0 0 (va_A [(x0, .inr (4, [.ref t0, .ref p0, .ref v0, .ref g0, .ref ta])), (t0, .inr (0, [.ref t1, .ref t2])), (t1, .inl (cI, 400, .inl f)), (t2, .inl (cI, 9, .inl g)), (ta, .inl (cI, 256, .inl tl))] sz) := by
  refine Met.ofW (cc := cX_subjectsOf) (maxL := 2) (ret := (some .int)) (by decide) rfl ?_
  intro pg ev s mt args below meth kd s₁ B hml hv
  obtain ⟨rfl, hsz, hP, hK, hD0, hN⟩ := hv
  have hx := B.exec
  have hb := B.bytes
  have hr := B.returns
  have ht : ∀ w ∈ W0, w.before _ s = true := fun w h => atoms_spec (ws := wX_subjectsOf) B.pre w (List.mem_cons_of_mem _ h)
  have hown : s.vm.findClass "StatRows" = some mt.cls := findClass_of_methodNamed B.named
  have hlocks := B.notSynchronized
  subst hsz
  have hD := hD0.self (sz := s.heap.size)
  generalize hAe : va_A [(x0, .inr (4, [.ref t0, .ref p0, .ref v0, .ref g0, .ref ta])), (t0, .inr (0, [.ref t1, .ref t2])), (t1, .inl (cI, 400, .inl f)), (t2, .inl (cI, 9, .inl g)), (ta, .inl (cI, 256, .inl tl))] s.heap.size = A at hD ⊢
  have hA : ∀ q : Nat, s.heap.size ≤ q → A q := fun q h => by rw [← hAe]; exact Or.inr h
  have hS : va_S A s.heap s.heap [] := va_S.rf
  have hP : va_P D vwCl [(x0, .inr (4, [.ref t0, .ref p0, .ref v0, .ref g0, .ref ta])), (t0, .inr (0, [.ref t1, .ref t2])), (t1, .inl (cI, 400, .inl f)), (t2, .inl (cI, 9, .inl g)), (ta, .inl (cI, 256, .inl tl))] s.heap := hP
  have hl := lv_entry ([.ref x0, .int (nI pp)]) (n := 2) (Nat.le_of_ble_eq_true rfl)
  rw [lg_entry_eq]
  generalize (lg_sl ([.ref x0, .int (nI pp)]) ++ List.replicate (2 - (lg_sl ([.ref x0, .int (nI pp)])).length) Slot.unset).toArray = ls at hl ⊢
  have hl : lv_has ls 2 [(0, .ref x0), (1, .int (nI pp))] := hl
  have htp := tr_top (Ls := Ls) hp
  have h400 := hT.2.2.1
  refine lv_aload_n hx hb dX_subjectsOf_0 rfl (lv_at hl 0 rfl) ?_
  refine zz_wv (wc := [(x0, .inr (4, [.ref t0, .ref p0, .ref v0, .ref g0, .ref ta])), (ta, .inl (cI, 256, .inl tl))]) (wr := [(t0, .inr (0, [.ref t1, .ref t2])), (t1, .inl (cI, 400, .inl f)), (t2, .inl (cI, 9, .inl g))]) (va_runV (As := []) (rest := []) ⟨hx, hb, hml, hown, ht⟩ (c_X_clearTally l D cI cB s.heap.size x0 t0 t1 t2 p0 v0 g0 ta tl) (cwV 0 ht (gd_V wd160 wd162 wp4 wd1 wd163) rfl rfl rfl (by decide +kernel) ⟨Nat.le_of_ble_eq_true rfl, Nat.le_of_ble_eq_true rfl⟩) (zz_P_V hN hK (hP.sub (ws' := [(x0, .inr (4, [.ref t0, .ref p0, .ref v0, .ref g0, .ref ta])), (ta, .inl (cI, 256, .inl tl))]) [0, 4] rfl) (hD.sub (ws' := [(x0, .inr (4, [.ref t0, .ref p0, .ref v0, .ref g0, .ref ta])), (ta, .inl (cI, 256, .inl tl))]) [0, 4] (by decide) rfl) 4 0 rfl rfl) rfl rfl hl.1 rfl (lv_room (Nat.le_of_ble_eq_true rfl)) dX_subjectsOf_1 ⟨Nat.le_of_ble_eq_true rfl, Nat.le_of_ble_eq_true rfl⟩) hP hD hS hA [0, 4] [1, 2, 3] rfl rfl (by decide) (by decide) (fun u1 H locs hq1 hP hD hS => ?_)
  have hP := hP.sub (ws' := [(x0, .inr (4, [.ref t0, .ref p0, .ref v0, .ref g0, .ref ta])), (t0, .inr (0, [.ref t1, .ref t2])), (t1, .inl (cI, 400, .inl f)), (t2, .inl (cI, 9, .inl g)), (ta, .inl (cI, 256, .inl u1))]) [3, 0, 1, 2, 4] rfl
  have hD := hD.sub (ws' := [(x0, .inr (4, [.ref t0, .ref p0, .ref v0, .ref g0, .ref ta])), (t0, .inr (0, [.ref t1, .ref t2])), (t1, .inl (cI, 400, .inl f)), (t2, .inl (cI, 9, .inl g)), (ta, .inl (cI, 256, .inl u1))]) [3, 0, 1, 2, 4] (by decide) rfl
  refine lv_aload_n hx hb dX_subjectsOf_4 rfl (lv_at hl 0 rfl) ?_
  refine lv_iload_n hx hb dX_subjectsOf_5 rfl (lv_at hl 1 rfl) ?_
  refine zz_wv (wc := [(x0, .inr (4, [.ref t0, .ref p0, .ref v0, .ref g0, .ref ta])), (t0, .inr (0, [.ref t1, .ref t2])), (t1, .inl (cI, 400, .inl f)), (t2, .inl (cI, 9, .inl g)), (ta, .inl (cI, 256, .inl u1))]) (wr := []) (va_runV (As := [.int (nI pp)]) (rest := []) ⟨hx, hb, hml, hown, ht⟩ (c_X_tallySubjects l D cI cB H.size x0 t0 t1 t2 p0 v0 g0 ta f g Ls hT u1 (fun _ => 0) hq1 pp hp) (cwV 1 ht (gd_V wd167 wd169 wp5 wd1 wd170) rfl rfl rfl (by decide +kernel) ⟨Nat.le_of_ble_eq_true rfl, Nat.le_of_ble_eq_true rfl⟩) (zz_P_V hN hK (hP.sub (ws' := [(x0, .inr (4, [.ref t0, .ref p0, .ref v0, .ref g0, .ref ta])), (t0, .inr (0, [.ref t1, .ref t2])), (t1, .inl (cI, 400, .inl f)), (t2, .inl (cI, 9, .inl g)), (ta, .inl (cI, 256, .inl u1))]) [0, 1, 2, 3, 4] rfl) (hD.sub (ws' := [(x0, .inr (4, [.ref t0, .ref p0, .ref v0, .ref g0, .ref ta])), (t0, .inr (0, [.ref t1, .ref t2])), (t1, .inl (cI, 400, .inl f)), (t2, .inl (cI, 9, .inl g)), (ta, .inl (cI, 256, .inl u1))]) [0, 1, 2, 3, 4] (by decide) rfl) 4 0 rfl rfl) rfl rfl hl.1 rfl (lv_room (Nat.le_of_ble_eq_true rfl)) dX_subjectsOf_6 ⟨Nat.le_of_ble_eq_true rfl, Nat.le_of_ble_eq_true rfl⟩) hP hD hS hA [0, 1, 2, 3, 4] [] rfl rfl (by decide) (by decide) (fun u6 H locs hq6 hP hD hS => ?_)
  have hP := hP.sub (ws' := [(x0, .inr (4, [.ref t0, .ref p0, .ref v0, .ref g0, .ref ta])), (t0, .inr (0, [.ref t1, .ref t2])), (t1, .inl (cI, 400, .inl f)), (t2, .inl (cI, 9, .inl g)), (ta, .inl (cI, 256, .inl u6))]) [0, 1, 2, 3, 4] rfl
  have hD := hD.sub (ws' := [(x0, .inr (4, [.ref t0, .ref p0, .ref v0, .ref g0, .ref ta])), (t0, .inr (0, [.ref t1, .ref t2])), (t1, .inl (cI, 400, .inl f)), (t2, .inl (cI, 9, .inl g)), (ta, .inl (cI, 256, .inl u6))]) [0, 1, 2, 3, 4] (by decide) rfl
  refine lv_aload_n hx hb dX_subjectsOf_9 rfl (lv_at hl 0 rfl) ?_
  refine zz_ci (v := nI (cnt (fun v => decide (0 < (fun v => 0 + (Ls pp).countP (fun c => sub_ c == v)) v)) 256)) (W.runV (As := []) (rest := []) ⟨hx, hb, hml, hown, ht⟩ (c_X_differentInTally l D cI cB x0 t0 t1 t2 p0 v0 g0 ta u6 (fun v => 0 + (Ls pp).countP (fun c => sub_ c == v)) hq6 (fun v _ => by have := cpl (fun c => sub_ c == v) (Ls pp); show 0 + _ < 1000; omega)) (cwV 0 ht (gd_V wd177 wd179 wp6 wd1 wd180) rfl rfl rfl (by decide +kernel) ⟨Nat.le_of_ble_eq_true rfl, Nat.le_of_ble_eq_true rfl⟩) (zz_R_V hN hK (hP.sub (ws' := [(x0, .inr (4, [.ref t0, .ref p0, .ref v0, .ref g0, .ref ta])), (ta, .inl (cI, 256, .inl u6))]) [0, 4] rfl) 4 0 rfl rfl) rfl rfl hl.1 rfl (lv_room (Nat.le_of_ble_eq_true rfl)) dX_subjectsOf_10 ⟨Nat.le_of_ble_eq_true rfl, Nat.le_of_ble_eq_true rfl⟩) ?_
  exact zz_iretW (v := nI (cnt (fun v => decide (0 < (fun v => 0 + (Ls pp).countP (fun c => sub_ c == v)) v)) 256)) (w1 := fun u : (Nat → Int32) => [(x0, .inr (4, [.ref t0, .ref p0, .ref v0, .ref g0, .ref ta])), (t0, .inr (0, [.ref t1, .ref t2])), (t1, .inl (cI, 400, .inl f)), (t2, .inl (cI, 9, .inl g)), (ta, .inl (cI, 256, .inl u))]) u6 hx hb hr hlocks (congrArg nI (cnt_congr 256 (fun v _ => anyk_pos0 sub_ (Ls pp) v))) hP hK hD hS dX_subjectsOf_13

abbrev rm_X_objectsOf : Room := { frames := 3, cells := 0, slots := 0, locals := 67 }
set_option maxHeartbeats 4000000 in
set_option maxRecDepth 100000 in
theorem c_X_objectsOf (l : Launch) (D : va_G) (cI cB : ClassId) (sz : Nat) (x0 t0 t1 t2 p0 v0 g0 ta : Nat) (f g : Nat → Int32) (Ls : Nat → List Nat) (hT : RT Ls f g) (tl : Nat → Int32) (pp : Nat) (hp : pp < 8) : Met l yX_objectsOf wX_objectsOf rm_X_objectsOf (zz_P D vwCl [(cI, .int), (cB, .boolean)] [.ref x0, .int (nI pp)] [(x0, .inr (4, [.ref t0, .ref p0, .ref v0, .ref g0, .ref ta])), (t0, .inr (0, [.ref t1, .ref t2])), (t1, .inl (cI, 400, .inl f)), (t2, .inl (cI, 9, .inl g)), (ta, .inl (cI, 256, .inl tl))] sz) (va_Qi (fun (r : Int32) (u : (Nat → Int32)) => r = nI (cnt (anyk obj_ (Ls pp)) 256)) (fun u : (Nat → Int32) => zz_B D vwCl [(cI, .int), (cB, .boolean)] (va_A [(x0, .inr (4, [.ref t0, .ref p0, .ref v0, .ref g0, .ref ta])), (t0, .inr (0, [.ref t1, .ref t2])), (t1, .inl (cI, 400, .inl f)), (t2, .inl (cI, 9, .inl g)), (ta, .inl (cI, 256, .inl tl))] sz) [(x0, .inr (4, [.ref t0, .ref p0, .ref v0, .ref g0, .ref ta])), (t0, .inr (0, [.ref t1, .ref t2])), (t1, .inl (cI, 400, .inl f)), (t2, .inl (cI, 9, .inl g)), (ta, .inl (cI, 256, .inl u))]) (va_A [(x0, .inr (4, [.ref t0, .ref p0, .ref v0, .ref g0, .ref ta])), (t0, .inr (0, [.ref t1, .ref t2])), (t1, .inl (cI, 400, .inl f)), (t2, .inl (cI, 9, .inl g)), (ta, .inl (cI, 256, .inl tl))] sz)) 0 0 (va_A [(x0, .inr (4, [.ref t0, .ref p0, .ref v0, .ref g0, .ref ta])), (t0, .inr (0, [.ref t1, .ref t2])), (t1, .inl (cI, 400, .inl f)), (t2, .inl (cI, 9, .inl g)), (ta, .inl (cI, 256, .inl tl))] sz) := by
  refine Met.ofW (cc := cX_objectsOf) (maxL := 2) (ret := (some .int)) (by decide) rfl ?_
  intro pg ev s mt args below meth kd s₁ B hml hv
  obtain ⟨rfl, hsz, hP, hK, hD0, hN⟩ := hv
  have hx := B.exec
  have hb := B.bytes
  have hr := B.returns
  have ht : ∀ w ∈ W0, w.before _ s = true := fun w h => atoms_spec (ws := wX_objectsOf) B.pre w (List.mem_cons_of_mem _ h)
  have hown : s.vm.findClass "StatRows" = some mt.cls := findClass_of_methodNamed B.named
  have hlocks := B.notSynchronized
  subst hsz
  have hD := hD0.self (sz := s.heap.size)
  generalize hAe : va_A [(x0, .inr (4, [.ref t0, .ref p0, .ref v0, .ref g0, .ref ta])), (t0, .inr (0, [.ref t1, .ref t2])), (t1, .inl (cI, 400, .inl f)), (t2, .inl (cI, 9, .inl g)), (ta, .inl (cI, 256, .inl tl))] s.heap.size = A at hD ⊢
  have hA : ∀ q : Nat, s.heap.size ≤ q → A q := fun q h => by rw [← hAe]; exact Or.inr h
  have hS : va_S A s.heap s.heap [] := va_S.rf
  have hP : va_P D vwCl [(x0, .inr (4, [.ref t0, .ref p0, .ref v0, .ref g0, .ref ta])), (t0, .inr (0, [.ref t1, .ref t2])), (t1, .inl (cI, 400, .inl f)), (t2, .inl (cI, 9, .inl g)), (ta, .inl (cI, 256, .inl tl))] s.heap := hP
  have hl := lv_entry ([.ref x0, .int (nI pp)]) (n := 2) (Nat.le_of_ble_eq_true rfl)
  rw [lg_entry_eq]
  generalize (lg_sl ([.ref x0, .int (nI pp)]) ++ List.replicate (2 - (lg_sl ([.ref x0, .int (nI pp)])).length) Slot.unset).toArray = ls at hl ⊢
  have hl : lv_has ls 2 [(0, .ref x0), (1, .int (nI pp))] := hl
  have htp := tr_top (Ls := Ls) hp
  have h400 := hT.2.2.1
  refine lv_aload_n hx hb dX_objectsOf_0 rfl (lv_at hl 0 rfl) ?_
  refine lv_iload_n hx hb dX_objectsOf_1 rfl (lv_at hl 1 rfl) ?_
  refine lv_iconst (v := nI 0) hx hb dX_objectsOf_2 (by decide) ?_
  refine zz_wv (wc := [(x0, .inr (4, [.ref t0, .ref p0, .ref v0, .ref g0, .ref ta])), (t0, .inr (0, [.ref t1, .ref t2])), (t1, .inl (cI, 400, .inl f)), (t2, .inl (cI, 9, .inl g)), (ta, .inl (cI, 256, .inl tl))]) (wr := []) (va_runV (As := [.int (nI pp), .int (nI 0)]) (rest := []) ⟨hx, hb, hml, hown, ht⟩ (c_X_tallyObjects l D cI cB s.heap.size x0 t0 t1 t2 p0 v0 g0 ta f g Ls hT tl pp hp false) (cwV 2 ht (gd_V wd185 wd187 wp8 wd1 wd188) rfl rfl rfl (by decide +kernel) ⟨Nat.le_of_ble_eq_true rfl, Nat.le_of_ble_eq_true rfl⟩) (zz_P_V hN hK (hP.sub (ws' := [(x0, .inr (4, [.ref t0, .ref p0, .ref v0, .ref g0, .ref ta])), (t0, .inr (0, [.ref t1, .ref t2])), (t1, .inl (cI, 400, .inl f)), (t2, .inl (cI, 9, .inl g)), (ta, .inl (cI, 256, .inl tl))]) [0, 1, 2, 3, 4] rfl) (hD.sub (ws' := [(x0, .inr (4, [.ref t0, .ref p0, .ref v0, .ref g0, .ref ta])), (t0, .inr (0, [.ref t1, .ref t2])), (t1, .inl (cI, 400, .inl f)), (t2, .inl (cI, 9, .inl g)), (ta, .inl (cI, 256, .inl tl))]) [0, 1, 2, 3, 4] (by decide) rfl) 4 0 rfl rfl) rfl rfl hl.1 rfl (lv_room (Nat.le_of_ble_eq_true rfl)) dX_objectsOf_3 ⟨Nat.le_of_ble_eq_true rfl, Nat.le_of_ble_eq_true rfl⟩) hP hD hS hA [0, 1, 2, 3, 4] [] rfl rfl (by decide) (by decide) (fun u3 H locs hq3 hP hD hS => ?_)
  have hP := hP.sub (ws' := [(x0, .inr (4, [.ref t0, .ref p0, .ref v0, .ref g0, .ref ta])), (t0, .inr (0, [.ref t1, .ref t2])), (t1, .inl (cI, 400, .inl f)), (t2, .inl (cI, 9, .inl g)), (ta, .inl (cI, 256, .inl u3))]) [0, 1, 2, 3, 4] rfl
  have hD := hD.sub (ws' := [(x0, .inr (4, [.ref t0, .ref p0, .ref v0, .ref g0, .ref ta])), (t0, .inr (0, [.ref t1, .ref t2])), (t1, .inl (cI, 400, .inl f)), (t2, .inl (cI, 9, .inl g)), (ta, .inl (cI, 256, .inl u3))]) [0, 1, 2, 3, 4] (by decide) rfl
  refine lv_aload_n hx hb dX_objectsOf_6 rfl (lv_at hl 0 rfl) ?_
  refine zz_ci (v := nI (cnt (fun v => decide (0 < (fun v => 0 + (Ls pp).countP (fun c => okf false c && obj_ c == v)) v)) 256)) (W.runV (As := []) (rest := []) ⟨hx, hb, hml, hown, ht⟩ (c_X_differentInTally l D cI cB x0 t0 t1 t2 p0 v0 g0 ta u3 (fun v => 0 + (Ls pp).countP (fun c => okf false c && obj_ c == v)) hq3 (fun v _ => by have := cpl (fun c => okf false c && obj_ c == v) (Ls pp); show 0 + _ < 1000; omega)) (cwV 0 ht (gd_V wd177 wd179 wp6 wd1 wd180) rfl rfl rfl (by decide +kernel) ⟨Nat.le_of_ble_eq_true rfl, Nat.le_of_ble_eq_true rfl⟩) (zz_R_V hN hK (hP.sub (ws' := [(x0, .inr (4, [.ref t0, .ref p0, .ref v0, .ref g0, .ref ta])), (ta, .inl (cI, 256, .inl u3))]) [0, 4] rfl) 4 0 rfl rfl) rfl rfl hl.1 rfl (lv_room (Nat.le_of_ble_eq_true rfl)) dX_objectsOf_7 ⟨Nat.le_of_ble_eq_true rfl, Nat.le_of_ble_eq_true rfl⟩) ?_
  exact zz_iretW (v := nI (cnt (fun v => decide (0 < (fun v => 0 + (Ls pp).countP (fun c => okf false c && obj_ c == v)) v)) 256)) (w1 := fun u : (Nat → Int32) => [(x0, .inr (4, [.ref t0, .ref p0, .ref v0, .ref g0, .ref ta])), (t0, .inr (0, [.ref t1, .ref t2])), (t1, .inl (cI, 400, .inl f)), (t2, .inl (cI, 9, .inl g)), (ta, .inl (cI, 256, .inl u))]) u3 hx hb hr hlocks (congrArg nI (cnt_congr 256 (fun v _ => anyk_pos0 obj_ (Ls pp) v))) hP hK hD hS dX_objectsOf_10

abbrev rm_X_joinEstimate : Room := { frames := 3, cells := 0, slots := 0, locals := 65 }
set_option maxHeartbeats 4000000 in
set_option maxRecDepth 100000 in
theorem c_X_joinEstimate (l : Launch) (D : va_G) (cI cB : ClassId) (sz : Nat) (x0 t0 t1 t2 p0 v0 g0 ta : Nat) (f g : Nat → Int32) (Ls : Nat → List Nat) (hT : RT Ls f g) (tl : Nat → Int32) (pp qq d : Nat) (hp : pp < 8) (hq : qq < 8) (hd : d ≤ 256) : Met l yX_joinEstimate wX_joinEstimate rm_X_joinEstimate (zz_P D vwCl [(cI, .int), (cB, .boolean)] [.ref x0, .int (nI pp), .int (nI qq), .int (nI d)] [(x0, .inr (4, [.ref t0, .ref p0, .ref v0, .ref g0, .ref ta])), (t0, .inr (0, [.ref t1, .ref t2])), (t1, .inl (cI, 400, .inl f)), (t2, .inl (cI, 9, .inl g)), (ta, .inl (cI, 256, .inl tl))] sz) (va_Ql (fun (r : Int64) (u : (Nat → Int32)) => r = lN ((Ls pp).length * (Ls qq).length / max 1 (max d (cnt (anyk sub_ (Ls qq)) 256)))) (fun u : (Nat → Int32) => zz_B D vwCl [(cI, .int), (cB, .boolean)] (va_A [(x0, .inr (4, [.ref t0, .ref p0, .ref v0, .ref g0, .ref ta])), (t0, .inr (0, [.ref t1, .ref t2])), (t1, .inl (cI, 400, .inl f)), (t2, .inl (cI, 9, .inl g)), (ta, .inl (cI, 256, .inl tl))] sz) [(x0, .inr (4, [.ref t0, .ref p0, .ref v0, .ref g0, .ref ta])), (t0, .inr (0, [.ref t1, .ref t2])), (t1, .inl (cI, 400, .inl f)), (t2, .inl (cI, 9, .inl g)), (ta, .inl (cI, 256, .inl u))]) (va_A [(x0, .inr (4, [.ref t0, .ref p0, .ref v0, .ref g0, .ref ta])), (t0, .inr (0, [.ref t1, .ref t2])), (t1, .inl (cI, 400, .inl f)), (t2, .inl (cI, 9, .inl g)), (ta, .inl (cI, 256, .inl tl))] sz)) 0 0 (va_A [(x0, .inr (4, [.ref t0, .ref p0, .ref v0, .ref g0, .ref ta])), (t0, .inr (0, [.ref t1, .ref t2])), (t1, .inl (cI, 400, .inl f)), (t2, .inl (cI, 9, .inl g)), (ta, .inl (cI, 256, .inl tl))] sz) := by
  refine Met.ofW (cc := cX_joinEstimate) (maxL := 5) (ret := (some .long)) (by decide) rfl ?_
  intro pg ev s mt args below meth kd s₁ B hml hv
  obtain ⟨rfl, hsz, hP, hK, hD0, hN⟩ := hv
  have hx := B.exec
  have hb := B.bytes
  have hr := B.returns
  have ht : ∀ w ∈ W0, w.before _ s = true := fun w h => atoms_spec (ws := wX_joinEstimate) B.pre w (List.mem_cons_of_mem _ h)
  have hown : s.vm.findClass "StatRows" = some mt.cls := findClass_of_methodNamed B.named
  have hlocks := B.notSynchronized
  subst hsz
  have hD := hD0.self (sz := s.heap.size)
  generalize hAe : va_A [(x0, .inr (4, [.ref t0, .ref p0, .ref v0, .ref g0, .ref ta])), (t0, .inr (0, [.ref t1, .ref t2])), (t1, .inl (cI, 400, .inl f)), (t2, .inl (cI, 9, .inl g)), (ta, .inl (cI, 256, .inl tl))] s.heap.size = A at hD ⊢
  have hA : ∀ q : Nat, s.heap.size ≤ q → A q := fun q h => by rw [← hAe]; exact Or.inr h
  have hS : va_S A s.heap s.heap [] := va_S.rf
  have hP : va_P D vwCl [(x0, .inr (4, [.ref t0, .ref p0, .ref v0, .ref g0, .ref ta])), (t0, .inr (0, [.ref t1, .ref t2])), (t1, .inl (cI, 400, .inl f)), (t2, .inl (cI, 9, .inl g)), (ta, .inl (cI, 256, .inl tl))] s.heap := hP
  have hl := lv_entry ([.ref x0, .int (nI pp), .int (nI qq), .int (nI d)]) (n := 5) (Nat.le_of_ble_eq_true rfl)
  rw [lg_entry_eq]
  generalize (lg_sl ([.ref x0, .int (nI pp), .int (nI qq), .int (nI d)]) ++ List.replicate (5 - (lg_sl ([.ref x0, .int (nI pp), .int (nI qq), .int (nI d)])).length) Slot.unset).toArray = ls at hl ⊢
  have hl : lv_has ls 5 [(0, .ref x0), (1, .int (nI pp)), (2, .int (nI qq)), (3, .int (nI d))] := hl
  have htp := tr_top (Ls := Ls) hp
  have htq := tr_top (Ls := Ls) hq
  have h400 := hT.2.2.1
  have hcl := cnt_le (anyk sub_ (Ls qq)) 256
  have hmul : (Ls pp).length * (Ls qq).length ≤ 400 * 400 := Nat.mul_le_mul (by omega) (by omega)
  refine lv_iconst (v := nI 1) hx hb dX_joinEstimate_0 (by decide) ?_
  refine lv_iload_n hx hb dX_joinEstimate_1 rfl (lv_at hl 3 rfl) ?_
  refine lv_aload_n hx hb dX_joinEstimate_2 rfl (lv_at hl 0 rfl) ?_
  refine lv_iload_n hx hb dX_joinEstimate_3 rfl (lv_at hl 2 rfl) ?_
  refine zz_wi (wc := [(x0, .inr (4, [.ref t0, .ref p0, .ref v0, .ref g0, .ref ta])), (t0, .inr (0, [.ref t1, .ref t2])), (t1, .inl (cI, 400, .inl f)), (t2, .inl (cI, 9, .inl g)), (ta, .inl (cI, 256, .inl tl))]) (wr := []) (va_runV (As := [.int (nI qq)]) (rest := [.int (nI d), .int (nI 1)]) ⟨hx, hb, hml, hown, ht⟩ (c_X_subjectsOf l D cI cB s.heap.size x0 t0 t1 t2 p0 v0 g0 ta f g Ls hT tl qq hq) (cwV 1 ht (gd_V wd156 wd158 wp3 wd1 wd159) rfl rfl rfl (by decide +kernel) ⟨Nat.le_of_ble_eq_true rfl, Nat.le_of_ble_eq_true rfl⟩) (zz_P_V hN hK (hP.sub (ws' := [(x0, .inr (4, [.ref t0, .ref p0, .ref v0, .ref g0, .ref ta])), (t0, .inr (0, [.ref t1, .ref t2])), (t1, .inl (cI, 400, .inl f)), (t2, .inl (cI, 9, .inl g)), (ta, .inl (cI, 256, .inl tl))]) [0, 1, 2, 3, 4] rfl) (hD.sub (ws' := [(x0, .inr (4, [.ref t0, .ref p0, .ref v0, .ref g0, .ref ta])), (t0, .inr (0, [.ref t1, .ref t2])), (t1, .inl (cI, 400, .inl f)), (t2, .inl (cI, 9, .inl g)), (ta, .inl (cI, 256, .inl tl))]) [0, 1, 2, 3, 4] (by decide) rfl) 4 0 rfl rfl) rfl rfl hl.1 rfl (lv_room (Nat.le_of_ble_eq_true rfl)) dX_joinEstimate_4 ⟨Nat.le_of_ble_eq_true rfl, Nat.le_of_ble_eq_true rfl⟩) hP hD hS hA [0, 1, 2, 3, 4] [] rfl rfl (by decide) (by decide) (fun r4 u4 H locs hq4 hP hD hS => ?_)
  have hP := hP.sub (ws' := [(x0, .inr (4, [.ref t0, .ref p0, .ref v0, .ref g0, .ref ta])), (t0, .inr (0, [.ref t1, .ref t2])), (t1, .inl (cI, 400, .inl f)), (t2, .inl (cI, 9, .inl g)), (ta, .inl (cI, 256, .inl u4))]) [0, 1, 2, 3, 4] rfl
  have hD := hD.sub (ws' := [(x0, .inr (4, [.ref t0, .ref p0, .ref v0, .ref g0, .ref ta])), (t0, .inr (0, [.ref t1, .ref t2])), (t1, .inl (cI, 400, .inl f)), (t2, .inl (cI, 9, .inl g)), (ta, .inl (cI, 256, .inl u4))]) [0, 1, 2, 3, 4] (by decide) rfl
  refine zz_top (y := nI (cnt (anyk sub_ (Ls qq)) 256)) (hq4) ?_
  refine va_mmax (x := nI d) (y := nI (cnt (anyk sub_ (Ls qq)) 256)) hx hb (hml.trans hl.1.symm) hown (ht _ wd278) (ht _ wd252) (ht _ wd9) (ht _ wd253) (Nat.le_of_ble_eq_true rfl) (Nat.le_of_ble_eq_true rfl) (Nat.le_of_ble_eq_true rfl) (Nat.le_of_ble_eq_true rfl) dX_joinEstimate_7 ?_
  refine zz_top (y := nI (max d (cnt (anyk sub_ (Ls qq)) 256))) (imax (by omega) (by omega)) ?_
  refine va_mmax (x := nI 1) (y := nI (max d (cnt (anyk sub_ (Ls qq)) 256))) hx hb (hml.trans hl.1.symm) hown (ht _ wd278) (ht _ wd252) (ht _ wd9) (ht _ wd253) (Nat.le_of_ble_eq_true rfl) (Nat.le_of_ble_eq_true rfl) (Nat.le_of_ble_eq_true rfl) (Nat.le_of_ble_eq_true rfl) dX_joinEstimate_10 ?_
  refine zz_top (y := nI (max 1 (max d (cnt (anyk sub_ (Ls qq)) 256)))) (imax (by omega) (by omega)) ?_
  refine lv_istore (lv' := [(4, .int (nI (max 1 (max d (cnt (anyk sub_ (Ls qq)) 256))))), (0, .ref x0), (1, .int (nI pp)), (2, .int (nI qq)), (3, .int (nI d))]) hx hb dX_joinEstimate_13 hl (by decide) rfl (fun ls hl => ?_)
  refine lv_aload_n hx hb dX_joinEstimate_15 rfl (lv_at hl 1 rfl) ?_
  refine va_get (D := D) (ci := 4) (v := .ref t0) (C := "StatRows") (T := TX) (N := 5) hx hb ht inX hown hK hP 0 rfl rfl 0 (by decide) (ht _ wd77) (fun _ h9 => h9) rfl dX_joinEstimate_16 ?_
  refine lv_iload_n hx hb dX_joinEstimate_19 rfl (lv_at hl 2 rfl) ?_
  refine zz_ci (v := nI (tr_off Ls pp + (Ls pp).length - tr_off Ls pp)) (W.runV (As := [.int (nI pp)]) (rest := []) ⟨hx, hb, hml, hown, ht⟩ (c_T_sizeOf l D cI cB t0 t1 t2 f g pp (tr_off Ls pp) (tr_off Ls pp + (Ls pp).length) hp (hT.1 pp (by omega)) (hT.1 (pp + 1) (by omega)) (by omega)) (cwV 1 ht (gd_V wd152 wd153 wd154 wd2 wd155) rfl rfl rfl (by decide +kernel) ⟨Nat.le_of_ble_eq_true rfl, Nat.le_of_ble_eq_true rfl⟩) (zz_R_V hN hK (hP.sub (ws' := [(t0, .inr (0, [.ref t1, .ref t2])), (t1, .inl (cI, 400, .inl f)), (t2, .inl (cI, 9, .inl g))]) [1, 2, 3] rfl) 0 0 rfl rfl) rfl rfl hl.1 rfl (lv_room (Nat.le_of_ble_eq_true rfl)) dX_joinEstimate_20 ⟨Nat.le_of_ble_eq_true rfl, Nat.le_of_ble_eq_true rfl⟩) ?_
  refine zz_top (y := nI ((Ls pp).length)) (congrArg nI (by omega)) ?_
  refine lv_i2l (v := lN ((Ls pp).length)) hx hb dX_joinEstimate_23 (nI_l (n := (Ls pp).length) (by omega)) ?_
  refine lv_aload_n hx hb dX_joinEstimate_24 rfl (lv_at hl 1 rfl) ?_
  refine va_get (D := D) (ci := 4) (v := .ref t0) (C := "StatRows") (T := TX) (N := 5) hx hb ht inX hown hK hP 0 rfl rfl 0 (by decide) (ht _ wd77) (fun _ h9 => h9) rfl dX_joinEstimate_25 ?_
  refine lv_iload_n hx hb dX_joinEstimate_28 rfl (lv_at hl 3 rfl) ?_
  refine zz_ci (v := nI (tr_off Ls qq + (Ls qq).length - tr_off Ls qq)) (W.runV (As := [.int (nI qq)]) (rest := [.long (lN ((Ls pp).length))]) ⟨hx, hb, hml, hown, ht⟩ (c_T_sizeOf l D cI cB t0 t1 t2 f g qq (tr_off Ls qq) (tr_off Ls qq + (Ls qq).length) hq (hT.1 qq (by omega)) (hT.1 (qq + 1) (by omega)) (by omega)) (cwV 1 ht (gd_V wd152 wd153 wd154 wd2 wd155) rfl rfl rfl (by decide +kernel) ⟨Nat.le_of_ble_eq_true rfl, Nat.le_of_ble_eq_true rfl⟩) (zz_R_V hN hK (hP.sub (ws' := [(t0, .inr (0, [.ref t1, .ref t2])), (t1, .inl (cI, 400, .inl f)), (t2, .inl (cI, 9, .inl g))]) [1, 2, 3] rfl) 0 0 rfl rfl) rfl rfl hl.1 rfl (lv_room (Nat.le_of_ble_eq_true rfl)) dX_joinEstimate_29 ⟨Nat.le_of_ble_eq_true rfl, Nat.le_of_ble_eq_true rfl⟩) ?_
  refine zz_top (y := nI ((Ls qq).length)) (congrArg nI (by omega)) ?_
  refine lv_i2l (v := lN ((Ls qq).length)) hx hb dX_joinEstimate_32 (nI_l (n := (Ls qq).length) (by omega)) ?_
  refine lv_lmul hx hb dX_joinEstimate_33 ?_
  refine zz_topl (y := lN (((Ls pp).length) * ((Ls qq).length))) (lN_mul ((Ls pp).length) ((Ls qq).length)) ?_
  refine lv_iload hx hb dX_joinEstimate_34 (lv_at hl 0 rfl) ?_
  refine lv_i2l (v := lN (max 1 (max d (cnt (anyk sub_ (Ls qq)) 256)))) hx hb dX_joinEstimate_36 (nI_l (n := max 1 (max d (cnt (anyk sub_ (Ls qq)) 256))) (by omega)) ?_
  refine lv_ldiv hx hb dX_joinEstimate_37 (zz_lne0 (by omega) (by omega)) ?_
  refine zz_topl (y := lN ((((Ls pp).length) * ((Ls qq).length)) / (max 1 (max d (cnt (anyk sub_ (Ls qq)) 256))))) (pk_lDiv (a := ((Ls pp).length) * ((Ls qq).length)) (b := max 1 (max d (cnt (anyk sub_ (Ls qq)) 256))) (by omega) (by omega) (by omega)) ?_
  exact zz_lretW (v := lN ((((Ls pp).length) * ((Ls qq).length)) / (max 1 (max d (cnt (anyk sub_ (Ls qq)) 256))))) (w1 := fun u : (Nat → Int32) => [(x0, .inr (4, [.ref t0, .ref p0, .ref v0, .ref g0, .ref ta])), (t0, .inr (0, [.ref t1, .ref t2])), (t1, .inl (cI, 400, .inl f)), (t2, .inl (cI, 9, .inl g)), (ta, .inl (cI, 256, .inl u))]) u4 hx hb hr hlocks (rfl) hP hK hD hS dX_joinEstimate_38

abbrev rm_X_sampledChainEstimate : Room := { frames := 3, cells := 0, slots := 0, locals := 68 }
set_option maxHeartbeats 4000000 in
set_option maxRecDepth 100000 in
theorem c_X_sampledChainEstimate (l : Launch) (D : va_G) (cI cB : ClassId) (sz : Nat) (x0 t0 t1 t2 p0 v0 g0 ta : Nat) (f g : Nat → Int32) (Ls : Nat → List Nat) (hT : RT Ls f g) (tl : Nat → Int32) (pp qq : Nat) (hp : pp < 8) (hq : qq < 8) : Met l yX_sampledChainEstimate wX_sampledChainEstimate rm_X_sampledChainEstimate (zz_P D vwCl [(cI, .int), (cB, .boolean)] [.ref x0, .int (nI pp), .int (nI qq)] [(x0, .inr (4, [.ref t0, .ref p0, .ref v0, .ref g0, .ref ta])), (t0, .inr (0, [.ref t1, .ref t2])), (t1, .inl (cI, 400, .inl f)), (t2, .inl (cI, 9, .inl g)), (ta, .inl (cI, 256, .inl tl))] sz) (va_Ql (fun (r : Int64) (u : (Nat → Int32)) => r = lN (16 * chn true obj_ (Ls pp) (Ls qq))) (fun u : (Nat → Int32) => zz_B D vwCl [(cI, .int), (cB, .boolean)] (va_A [(x0, .inr (4, [.ref t0, .ref p0, .ref v0, .ref g0, .ref ta])), (t0, .inr (0, [.ref t1, .ref t2])), (t1, .inl (cI, 400, .inl f)), (t2, .inl (cI, 9, .inl g)), (ta, .inl (cI, 256, .inl tl))] sz) [(x0, .inr (4, [.ref t0, .ref p0, .ref v0, .ref g0, .ref ta])), (t0, .inr (0, [.ref t1, .ref t2])), (t1, .inl (cI, 400, .inl f)), (t2, .inl (cI, 9, .inl g)), (ta, .inl (cI, 256, .inl u))]) (va_A [(x0, .inr (4, [.ref t0, .ref p0, .ref v0, .ref g0, .ref ta])), (t0, .inr (0, [.ref t1, .ref t2])), (t1, .inl (cI, 400, .inl f)), (t2, .inl (cI, 9, .inl g)), (ta, .inl (cI, 256, .inl tl))] sz)) 0 0 (va_A [(x0, .inr (4, [.ref t0, .ref p0, .ref v0, .ref g0, .ref ta])), (t0, .inr (0, [.ref t1, .ref t2])), (t1, .inl (cI, 400, .inl f)), (t2, .inl (cI, 9, .inl g)), (ta, .inl (cI, 256, .inl tl))] sz) := by
  refine Met.ofW (cc := cX_sampledChainEstimate) (maxL := 3) (ret := (some .long)) (by decide) rfl ?_
  intro pg ev s mt args below meth kd s₁ B hml hv
  obtain ⟨rfl, hsz, hP, hK, hD0, hN⟩ := hv
  have hx := B.exec
  have hb := B.bytes
  have hr := B.returns
  have ht : ∀ w ∈ W0, w.before _ s = true := fun w h => atoms_spec (ws := wX_sampledChainEstimate) B.pre w (List.mem_cons_of_mem _ h)
  have hown : s.vm.findClass "StatRows" = some mt.cls := findClass_of_methodNamed B.named
  have hlocks := B.notSynchronized
  subst hsz
  have hD := hD0.self (sz := s.heap.size)
  generalize hAe : va_A [(x0, .inr (4, [.ref t0, .ref p0, .ref v0, .ref g0, .ref ta])), (t0, .inr (0, [.ref t1, .ref t2])), (t1, .inl (cI, 400, .inl f)), (t2, .inl (cI, 9, .inl g)), (ta, .inl (cI, 256, .inl tl))] s.heap.size = A at hD ⊢
  have hA : ∀ q : Nat, s.heap.size ≤ q → A q := fun q h => by rw [← hAe]; exact Or.inr h
  have hS : va_S A s.heap s.heap [] := va_S.rf
  have hP : va_P D vwCl [(x0, .inr (4, [.ref t0, .ref p0, .ref v0, .ref g0, .ref ta])), (t0, .inr (0, [.ref t1, .ref t2])), (t1, .inl (cI, 400, .inl f)), (t2, .inl (cI, 9, .inl g)), (ta, .inl (cI, 256, .inl tl))] s.heap := hP
  have hl := lv_entry ([.ref x0, .int (nI pp), .int (nI qq)]) (n := 3) (Nat.le_of_ble_eq_true rfl)
  rw [lg_entry_eq]
  generalize (lg_sl ([.ref x0, .int (nI pp), .int (nI qq)]) ++ List.replicate (3 - (lg_sl ([.ref x0, .int (nI pp), .int (nI qq)])).length) Slot.unset).toArray = ls at hl ⊢
  have hl : lv_has ls 3 [(0, .ref x0), (1, .int (nI pp)), (2, .int (nI qq))] := hl
  have htp := tr_top (Ls := Ls) hp
  have h400 := hT.2.2.1
  refine lv_aload_n hx hb dX_sampledChainEstimate_0 rfl (lv_at hl 0 rfl) ?_
  refine lv_iload_n hx hb dX_sampledChainEstimate_1 rfl (lv_at hl 1 rfl) ?_
  refine lv_iconst (v := nI 1) hx hb dX_sampledChainEstimate_2 (by decide) ?_
  refine zz_wv (wc := [(x0, .inr (4, [.ref t0, .ref p0, .ref v0, .ref g0, .ref ta])), (t0, .inr (0, [.ref t1, .ref t2])), (t1, .inl (cI, 400, .inl f)), (t2, .inl (cI, 9, .inl g)), (ta, .inl (cI, 256, .inl tl))]) (wr := []) (va_runV (As := [.int (nI pp), .int (nI 1)]) (rest := []) ⟨hx, hb, hml, hown, ht⟩ (c_X_tallyObjects l D cI cB s.heap.size x0 t0 t1 t2 p0 v0 g0 ta f g Ls hT tl pp hp true) (cwV 2 ht (gd_V wd185 wd187 wp8 wd1 wd188) rfl rfl rfl (by decide +kernel) ⟨Nat.le_of_ble_eq_true rfl, Nat.le_of_ble_eq_true rfl⟩) (zz_P_V hN hK (hP.sub (ws' := [(x0, .inr (4, [.ref t0, .ref p0, .ref v0, .ref g0, .ref ta])), (t0, .inr (0, [.ref t1, .ref t2])), (t1, .inl (cI, 400, .inl f)), (t2, .inl (cI, 9, .inl g)), (ta, .inl (cI, 256, .inl tl))]) [0, 1, 2, 3, 4] rfl) (hD.sub (ws' := [(x0, .inr (4, [.ref t0, .ref p0, .ref v0, .ref g0, .ref ta])), (t0, .inr (0, [.ref t1, .ref t2])), (t1, .inl (cI, 400, .inl f)), (t2, .inl (cI, 9, .inl g)), (ta, .inl (cI, 256, .inl tl))]) [0, 1, 2, 3, 4] (by decide) rfl) 4 0 rfl rfl) rfl rfl hl.1 rfl (lv_room (Nat.le_of_ble_eq_true rfl)) dX_sampledChainEstimate_3 ⟨Nat.le_of_ble_eq_true rfl, Nat.le_of_ble_eq_true rfl⟩) hP hD hS hA [0, 1, 2, 3, 4] [] rfl rfl (by decide) (by decide) (fun u3 H locs hq3 hP hD hS => ?_)
  have hP := hP.sub (ws' := [(x0, .inr (4, [.ref t0, .ref p0, .ref v0, .ref g0, .ref ta])), (t0, .inr (0, [.ref t1, .ref t2])), (t1, .inl (cI, 400, .inl f)), (t2, .inl (cI, 9, .inl g)), (ta, .inl (cI, 256, .inl u3))]) [0, 1, 2, 3, 4] rfl
  have hD := hD.sub (ws' := [(x0, .inr (4, [.ref t0, .ref p0, .ref v0, .ref g0, .ref ta])), (t0, .inr (0, [.ref t1, .ref t2])), (t1, .inl (cI, 400, .inl f)), (t2, .inl (cI, 9, .inl g)), (ta, .inl (cI, 256, .inl u3))]) [0, 1, 2, 3, 4] (by decide) rfl
  refine lv_ldc2 (v := 16) hx hb hown (ht _ wd283) dX_sampledChainEstimate_6 ?_
  refine zz_topl (y := lN 16) (rfl) ?_
  refine lv_aload_n hx hb dX_sampledChainEstimate_9 rfl (lv_at hl 0 rfl) ?_
  refine lv_iload_n hx hb dX_sampledChainEstimate_10 rfl (lv_at hl 2 rfl) ?_
  refine lv_iconst (v := nI 1) hx hb dX_sampledChainEstimate_11 (by decide) ?_
  refine zz_cl (v := lN (chn true obj_ (Ls pp) (Ls qq))) (W.runV (As := [.int (nI qq), .int (nI 1)]) (rest := [.long (lN 16)]) ⟨hx, hb, hml, hown, ht⟩ (c_X_sumAtSubjects l D cI cB x0 t0 t1 t2 p0 v0 g0 ta f g Ls hT u3 (fun v => 0 + (Ls pp).countP (fun c => okf true c && obj_ c == v)) hq3 (fun v _ => by have := cpl (fun c => okf true c && obj_ c == v) (Ls pp); show 0 + _ < 1000; omega) qq hq true) (cwV 2 ht (gd_V wd207 wd209 wp9 wd1 wd210) rfl rfl rfl (by decide +kernel) ⟨Nat.le_of_ble_eq_true rfl, Nat.le_of_ble_eq_true rfl⟩) (zz_R_V hN hK (hP.sub (ws' := [(x0, .inr (4, [.ref t0, .ref p0, .ref v0, .ref g0, .ref ta])), (t0, .inr (0, [.ref t1, .ref t2])), (t1, .inl (cI, 400, .inl f)), (t2, .inl (cI, 9, .inl g)), (ta, .inl (cI, 256, .inl u3))]) [0, 1, 2, 3, 4] rfl) 4 0 rfl rfl) rfl rfl hl.1 rfl (lv_room (Nat.le_of_ble_eq_true rfl)) dX_sampledChainEstimate_12 ⟨Nat.le_of_ble_eq_true rfl, Nat.le_of_ble_eq_true rfl⟩) ?_
  refine lv_lmul hx hb dX_sampledChainEstimate_15 ?_
  refine zz_topl (y := lN (16 * (chn true obj_ (Ls pp) (Ls qq)))) (lN_mul 16 (chn true obj_ (Ls pp) (Ls qq))) ?_
  exact zz_lretW (v := lN (16 * (chn true obj_ (Ls pp) (Ls qq)))) (w1 := fun u : (Nat → Int32) => [(x0, .inr (4, [.ref t0, .ref p0, .ref v0, .ref g0, .ref ta])), (t0, .inr (0, [.ref t1, .ref t2])), (t1, .inl (cI, 400, .inl f)), (t2, .inl (cI, 9, .inl g)), (ta, .inl (cI, 256, .inl u))]) u3 hx hb hr hlocks (rfl) hP hK hD hS dX_sampledChainEstimate_16

abbrev rm_X_chain : Room := { frames := 3, cells := 0, slots := 0, locals := 68 }
set_option maxHeartbeats 4000000 in
set_option maxRecDepth 100000 in
theorem c_X_chain (l : Launch) (D : va_G) (cI cB : ClassId) (sz : Nat) (x0 t0 t1 t2 p0 v0 g0 ta : Nat) (f g : Nat → Int32) (Ls : Nat → List Nat) (hT : RT Ls f g) (tl : Nat → Int32) (p1 p2 : Int32) : Met l yX_chain wX_chain rm_X_chain (zz_P D vwCl [(cI, .int), (cB, .boolean)] [.ref x0, .int p1, .int p2] [(x0, .inr (4, [.ref t0, .ref p0, .ref v0, .ref g0, .ref ta])), (t0, .inr (0, [.ref t1, .ref t2])), (t1, .inl (cI, 400, .inl f)), (t2, .inl (cI, 9, .inl g)), (ta, .inl (cI, 256, .inl tl))] sz) (va_Ql (fun (r : Int64) (u : (Nat → Int32)) => ((inr_ 8 p1 && inr_ 8 p2) = false ∧ r = -1) ∨ ∃ pp qq, pp < 8 ∧ qq < 8 ∧ p1 = nI pp ∧ p2 = nI qq ∧ r = lN (chn false obj_ (Ls pp) (Ls qq))) (fun u : (Nat → Int32) => zz_B D vwCl [(cI, .int), (cB, .boolean)] (va_A [(x0, .inr (4, [.ref t0, .ref p0, .ref v0, .ref g0, .ref ta])), (t0, .inr (0, [.ref t1, .ref t2])), (t1, .inl (cI, 400, .inl f)), (t2, .inl (cI, 9, .inl g)), (ta, .inl (cI, 256, .inl tl))] sz) [(x0, .inr (4, [.ref t0, .ref p0, .ref v0, .ref g0, .ref ta])), (t0, .inr (0, [.ref t1, .ref t2])), (t1, .inl (cI, 400, .inl f)), (t2, .inl (cI, 9, .inl g)), (ta, .inl (cI, 256, .inl u))]) (va_A [(x0, .inr (4, [.ref t0, .ref p0, .ref v0, .ref g0, .ref ta])), (t0, .inr (0, [.ref t1, .ref t2])), (t1, .inl (cI, 400, .inl f)), (t2, .inl (cI, 9, .inl g)), (ta, .inl (cI, 256, .inl tl))] sz)) 0 0 (va_A [(x0, .inr (4, [.ref t0, .ref p0, .ref v0, .ref g0, .ref ta])), (t0, .inr (0, [.ref t1, .ref t2])), (t1, .inl (cI, 400, .inl f)), (t2, .inl (cI, 9, .inl g)), (ta, .inl (cI, 256, .inl tl))] sz) := by
  refine Met.ofW (cc := cX_chain) (maxL := 3) (ret := (some .long)) (by decide) rfl ?_
  intro pg ev s mt args below meth kd s₁ B hml hv
  obtain ⟨rfl, hsz, hP, hK, hD0, hN⟩ := hv
  have hx := B.exec
  have hb := B.bytes
  have hr := B.returns
  have ht : ∀ w ∈ W0, w.before _ s = true := fun w h => atoms_spec (ws := wX_chain) B.pre w (List.mem_cons_of_mem _ h)
  have hown : s.vm.findClass "StatRows" = some mt.cls := findClass_of_methodNamed B.named
  have hlocks := B.notSynchronized
  subst hsz
  have hD := hD0.self (sz := s.heap.size)
  generalize hAe : va_A [(x0, .inr (4, [.ref t0, .ref p0, .ref v0, .ref g0, .ref ta])), (t0, .inr (0, [.ref t1, .ref t2])), (t1, .inl (cI, 400, .inl f)), (t2, .inl (cI, 9, .inl g)), (ta, .inl (cI, 256, .inl tl))] s.heap.size = A at hD ⊢
  have hA : ∀ q : Nat, s.heap.size ≤ q → A q := fun q h => by rw [← hAe]; exact Or.inr h
  have hS : va_S A s.heap s.heap [] := va_S.rf
  have hP : va_P D vwCl [(x0, .inr (4, [.ref t0, .ref p0, .ref v0, .ref g0, .ref ta])), (t0, .inr (0, [.ref t1, .ref t2])), (t1, .inl (cI, 400, .inl f)), (t2, .inl (cI, 9, .inl g)), (ta, .inl (cI, 256, .inl tl))] s.heap := hP
  have hl := lv_entry ([.ref x0, .int p1, .int p2]) (n := 3) (Nat.le_of_ble_eq_true rfl)
  rw [lg_entry_eq]
  generalize (lg_sl ([.ref x0, .int p1, .int p2]) ++ List.replicate (3 - (lg_sl ([.ref x0, .int p1, .int p2])).length) Slot.unset).toArray = ls at hl ⊢
  have hl : lv_has ls 3 [(0, .ref x0), (1, .int p1), (2, .int p2)] := hl
  have h400 := hT.2.2.1
  have bl0 := btl (inr_ 8 p1)
  have bl1 := btl (inr_ 8 p2)
  refine lv_iload_n hx hb dX_chain_0 rfl (lv_at hl 1 rfl) ?_
  refine zz_ci (v := nI ((inr_ 8 p1).toNat)) (W.runS (As := [.int p1]) (rest := []) ⟨hx, hb, hml, hown, ht⟩ (c_X_isPredicate l p1) (va_cwS 1 ht (gd_S wd103 wd104 wd1 wd105) rfl rfl rfl (by decide +kernel) ⟨Nat.le_of_ble_eq_true rfl, Nat.le_of_ble_eq_true rfl⟩) zz_N_S rfl rfl hl.1 rfl (lv_room (Nat.le_of_ble_eq_true rfl)) dX_chain_1 ⟨Nat.le_of_ble_eq_true rfl, Nat.le_of_ble_eq_true rfl⟩) ?_
  refine lv_if_eq (tgt := 14) hx hb dX_chain_4 (by decide) (fun c4 => ?_) (fun c4 => ?_)
  · -- taken
    have c4 : (inr_ 8 p1).toNat = 0 := (nI_eq (a := (inr_ 8 p1).toNat) (b := 0) (by omega) (by omega)).mp c4
    have hbb : (inr_ 8 p1 && inr_ 8 p2) = false := by rw [bt0 c4]; rfl
    refine lv_ldc2 (v := (-1)) hx hb hown (ht _ wd206) dX_chain_14 ?_
    exact zz_lretW (v := (-1)) (w1 := fun u : (Nat → Int32) => [(x0, .inr (4, [.ref t0, .ref p0, .ref v0, .ref g0, .ref ta])), (t0, .inr (0, [.ref t1, .ref t2])), (t1, .inl (cI, 400, .inl f)), (t2, .inl (cI, 9, .inl g)), (ta, .inl (cI, 256, .inl u))]) tl hx hb hr hlocks (Or.inl ⟨hbb, rfl⟩) hP hK hD hS dX_chain_17
  · -- not taken
    have c4 : ¬ ((inr_ 8 p1).toNat = 0) := fun h => c4 ((nI_eq (a := (inr_ 8 p1).toNat) (b := 0) (by omega) (by omega)).mpr h)
    have hb1 : inr_ 8 p1 = true := bt1 c4
    refine lv_iload_n hx hb dX_chain_7 rfl (lv_at hl 2 rfl) ?_
    refine zz_ci (v := nI ((inr_ 8 p2).toNat)) (W.runS (As := [.int p2]) (rest := []) ⟨hx, hb, hml, hown, ht⟩ (c_X_isPredicate l p2) (va_cwS 1 ht (gd_S wd103 wd104 wd1 wd105) rfl rfl rfl (by decide +kernel) ⟨Nat.le_of_ble_eq_true rfl, Nat.le_of_ble_eq_true rfl⟩) zz_N_S rfl rfl hl.1 rfl (lv_room (Nat.le_of_ble_eq_true rfl)) dX_chain_8 ⟨Nat.le_of_ble_eq_true rfl, Nat.le_of_ble_eq_true rfl⟩) ?_
    refine lv_if_ne (tgt := 18) hx hb dX_chain_11 (by decide) (fun c11 => ?_) (fun c11 => ?_)
    · -- taken
      have c11 : ¬ ((inr_ 8 p2).toNat = 0) := fun h => c11 ((nI_eq (a := (inr_ 8 p2).toNat) (b := 0) (by omega) (by omega)).mpr h)
      have hb2 : inr_ 8 p2 = true := bt1 c11
      obtain ⟨pp, hpp, epp⟩ := inr_t (by decide) hb1
      rw [epp] at hl
      obtain ⟨qq, hqq, eqq⟩ := inr_t (by decide) hb2
      rw [eqq] at hl
      have htp := tr_top (Ls := Ls) hpp
      refine lv_aload_n hx hb dX_chain_18 rfl (lv_at hl 0 rfl) ?_
      refine lv_iload_n hx hb dX_chain_19 rfl (lv_at hl 1 rfl) ?_
      refine lv_iconst (v := nI 0) hx hb dX_chain_20 (by decide) ?_
      refine zz_wv (wc := [(x0, .inr (4, [.ref t0, .ref p0, .ref v0, .ref g0, .ref ta])), (t0, .inr (0, [.ref t1, .ref t2])), (t1, .inl (cI, 400, .inl f)), (t2, .inl (cI, 9, .inl g)), (ta, .inl (cI, 256, .inl tl))]) (wr := []) (va_runV (As := [.int (nI pp), .int (nI 0)]) (rest := []) ⟨hx, hb, hml, hown, ht⟩ (c_X_tallyObjects l D cI cB s.heap.size x0 t0 t1 t2 p0 v0 g0 ta f g Ls hT tl pp hpp false) (cwV 2 ht (gd_V wd185 wd187 wp8 wd1 wd188) rfl rfl rfl (by decide +kernel) ⟨Nat.le_of_ble_eq_true rfl, Nat.le_of_ble_eq_true rfl⟩) (zz_P_V hN hK (hP.sub (ws' := [(x0, .inr (4, [.ref t0, .ref p0, .ref v0, .ref g0, .ref ta])), (t0, .inr (0, [.ref t1, .ref t2])), (t1, .inl (cI, 400, .inl f)), (t2, .inl (cI, 9, .inl g)), (ta, .inl (cI, 256, .inl tl))]) [0, 1, 2, 3, 4] rfl) (hD.sub (ws' := [(x0, .inr (4, [.ref t0, .ref p0, .ref v0, .ref g0, .ref ta])), (t0, .inr (0, [.ref t1, .ref t2])), (t1, .inl (cI, 400, .inl f)), (t2, .inl (cI, 9, .inl g)), (ta, .inl (cI, 256, .inl tl))]) [0, 1, 2, 3, 4] (by decide) rfl) 4 0 rfl rfl) rfl rfl hl.1 rfl (lv_room (Nat.le_of_ble_eq_true rfl)) dX_chain_21 ⟨Nat.le_of_ble_eq_true rfl, Nat.le_of_ble_eq_true rfl⟩) hP hD hS hA [0, 1, 2, 3, 4] [] rfl rfl (by decide) (by decide) (fun u21 H locs hq21 hP hD hS => ?_)
      have hP := hP.sub (ws' := [(x0, .inr (4, [.ref t0, .ref p0, .ref v0, .ref g0, .ref ta])), (t0, .inr (0, [.ref t1, .ref t2])), (t1, .inl (cI, 400, .inl f)), (t2, .inl (cI, 9, .inl g)), (ta, .inl (cI, 256, .inl u21))]) [0, 1, 2, 3, 4] rfl
      have hD := hD.sub (ws' := [(x0, .inr (4, [.ref t0, .ref p0, .ref v0, .ref g0, .ref ta])), (t0, .inr (0, [.ref t1, .ref t2])), (t1, .inl (cI, 400, .inl f)), (t2, .inl (cI, 9, .inl g)), (ta, .inl (cI, 256, .inl u21))]) [0, 1, 2, 3, 4] (by decide) rfl
      refine lv_aload_n hx hb dX_chain_24 rfl (lv_at hl 0 rfl) ?_
      refine lv_iload_n hx hb dX_chain_25 rfl (lv_at hl 2 rfl) ?_
      refine lv_iconst (v := nI 0) hx hb dX_chain_26 (by decide) ?_
      refine zz_cl (v := lN (chn false obj_ (Ls pp) (Ls qq))) (W.runV (As := [.int (nI qq), .int (nI 0)]) (rest := []) ⟨hx, hb, hml, hown, ht⟩ (c_X_sumAtSubjects l D cI cB x0 t0 t1 t2 p0 v0 g0 ta f g Ls hT u21 (fun v => 0 + (Ls pp).countP (fun c => okf false c && obj_ c == v)) hq21 (fun v _ => by have := cpl (fun c => okf false c && obj_ c == v) (Ls pp); show 0 + _ < 1000; omega) qq hqq false) (cwV 2 ht (gd_V wd207 wd209 wp9 wd1 wd210) rfl rfl rfl (by decide +kernel) ⟨Nat.le_of_ble_eq_true rfl, Nat.le_of_ble_eq_true rfl⟩) (zz_R_V hN hK (hP.sub (ws' := [(x0, .inr (4, [.ref t0, .ref p0, .ref v0, .ref g0, .ref ta])), (t0, .inr (0, [.ref t1, .ref t2])), (t1, .inl (cI, 400, .inl f)), (t2, .inl (cI, 9, .inl g)), (ta, .inl (cI, 256, .inl u21))]) [0, 1, 2, 3, 4] rfl) 4 0 rfl rfl) rfl rfl hl.1 rfl (lv_room (Nat.le_of_ble_eq_true rfl)) dX_chain_27 ⟨Nat.le_of_ble_eq_true rfl, Nat.le_of_ble_eq_true rfl⟩) ?_
      exact zz_lretW (v := lN (chn false obj_ (Ls pp) (Ls qq))) (w1 := fun u : (Nat → Int32) => [(x0, .inr (4, [.ref t0, .ref p0, .ref v0, .ref g0, .ref ta])), (t0, .inr (0, [.ref t1, .ref t2])), (t1, .inl (cI, 400, .inl f)), (t2, .inl (cI, 9, .inl g)), (ta, .inl (cI, 256, .inl u))]) u21 hx hb hr hlocks (Or.inr ⟨pp, qq, hpp, hqq, epp, eqq, rfl⟩) hP hK hD hS dX_chain_30
    · -- not taken
      have c11 : (inr_ 8 p2).toNat = 0 := (nI_eq (a := (inr_ 8 p2).toNat) (b := 0) (by omega) (by omega)).mp c11
      have hbb : (inr_ 8 p1 && inr_ 8 p2) = false := by rw [hb1, bt0 (b := inr_ 8 p2) (by omega)]; rfl
      refine lv_ldc2 (v := (-1)) hx hb hown (ht _ wd206) dX_chain_14 ?_
      exact zz_lretW (v := (-1)) (w1 := fun u : (Nat → Int32) => [(x0, .inr (4, [.ref t0, .ref p0, .ref v0, .ref g0, .ref ta])), (t0, .inr (0, [.ref t1, .ref t2])), (t1, .inl (cI, 400, .inl f)), (t2, .inl (cI, 9, .inl g)), (ta, .inl (cI, 256, .inl u))]) tl hx hb hr hlocks (Or.inl ⟨hbb, rfl⟩) hP hK hD hS dX_chain_17

abbrev rm_X_star : Room := { frames := 3, cells := 0, slots := 0, locals := 68 }
set_option maxHeartbeats 4000000 in
set_option maxRecDepth 100000 in
theorem c_X_star (l : Launch) (D : va_G) (cI cB : ClassId) (sz : Nat) (x0 t0 t1 t2 p0 v0 g0 ta : Nat) (f g : Nat → Int32) (Ls : Nat → List Nat) (hT : RT Ls f g) (tl : Nat → Int32) (p1 p2 : Int32) : Met l yX_star wX_star rm_X_star (zz_P D vwCl [(cI, .int), (cB, .boolean)] [.ref x0, .int p1, .int p2] [(x0, .inr (4, [.ref t0, .ref p0, .ref v0, .ref g0, .ref ta])), (t0, .inr (0, [.ref t1, .ref t2])), (t1, .inl (cI, 400, .inl f)), (t2, .inl (cI, 9, .inl g)), (ta, .inl (cI, 256, .inl tl))] sz) (va_Ql (fun (r : Int64) (u : (Nat → Int32)) => ((inr_ 8 p1 && inr_ 8 p2) = false ∧ r = -1) ∨ ∃ pp qq, pp < 8 ∧ qq < 8 ∧ p1 = nI pp ∧ p2 = nI qq ∧ r = lN (chn false sub_ (Ls pp) (Ls qq))) (fun u : (Nat → Int32) => zz_B D vwCl [(cI, .int), (cB, .boolean)] (va_A [(x0, .inr (4, [.ref t0, .ref p0, .ref v0, .ref g0, .ref ta])), (t0, .inr (0, [.ref t1, .ref t2])), (t1, .inl (cI, 400, .inl f)), (t2, .inl (cI, 9, .inl g)), (ta, .inl (cI, 256, .inl tl))] sz) [(x0, .inr (4, [.ref t0, .ref p0, .ref v0, .ref g0, .ref ta])), (t0, .inr (0, [.ref t1, .ref t2])), (t1, .inl (cI, 400, .inl f)), (t2, .inl (cI, 9, .inl g)), (ta, .inl (cI, 256, .inl u))]) (va_A [(x0, .inr (4, [.ref t0, .ref p0, .ref v0, .ref g0, .ref ta])), (t0, .inr (0, [.ref t1, .ref t2])), (t1, .inl (cI, 400, .inl f)), (t2, .inl (cI, 9, .inl g)), (ta, .inl (cI, 256, .inl tl))] sz)) 0 0 (va_A [(x0, .inr (4, [.ref t0, .ref p0, .ref v0, .ref g0, .ref ta])), (t0, .inr (0, [.ref t1, .ref t2])), (t1, .inl (cI, 400, .inl f)), (t2, .inl (cI, 9, .inl g)), (ta, .inl (cI, 256, .inl tl))] sz) := by
  refine Met.ofW (cc := cX_star) (maxL := 3) (ret := (some .long)) (by decide) rfl ?_
  intro pg ev s mt args below meth kd s₁ B hml hv
  obtain ⟨rfl, hsz, hP, hK, hD0, hN⟩ := hv
  have hx := B.exec
  have hb := B.bytes
  have hr := B.returns
  have ht : ∀ w ∈ W0, w.before _ s = true := fun w h => atoms_spec (ws := wX_star) B.pre w (List.mem_cons_of_mem _ h)
  have hown : s.vm.findClass "StatRows" = some mt.cls := findClass_of_methodNamed B.named
  have hlocks := B.notSynchronized
  subst hsz
  have hD := hD0.self (sz := s.heap.size)
  generalize hAe : va_A [(x0, .inr (4, [.ref t0, .ref p0, .ref v0, .ref g0, .ref ta])), (t0, .inr (0, [.ref t1, .ref t2])), (t1, .inl (cI, 400, .inl f)), (t2, .inl (cI, 9, .inl g)), (ta, .inl (cI, 256, .inl tl))] s.heap.size = A at hD ⊢
  have hA : ∀ q : Nat, s.heap.size ≤ q → A q := fun q h => by rw [← hAe]; exact Or.inr h
  have hS : va_S A s.heap s.heap [] := va_S.rf
  have hP : va_P D vwCl [(x0, .inr (4, [.ref t0, .ref p0, .ref v0, .ref g0, .ref ta])), (t0, .inr (0, [.ref t1, .ref t2])), (t1, .inl (cI, 400, .inl f)), (t2, .inl (cI, 9, .inl g)), (ta, .inl (cI, 256, .inl tl))] s.heap := hP
  have hl := lv_entry ([.ref x0, .int p1, .int p2]) (n := 3) (Nat.le_of_ble_eq_true rfl)
  rw [lg_entry_eq]
  generalize (lg_sl ([.ref x0, .int p1, .int p2]) ++ List.replicate (3 - (lg_sl ([.ref x0, .int p1, .int p2])).length) Slot.unset).toArray = ls at hl ⊢
  have hl : lv_has ls 3 [(0, .ref x0), (1, .int p1), (2, .int p2)] := hl
  have h400 := hT.2.2.1
  have bl0 := btl (inr_ 8 p1)
  have bl1 := btl (inr_ 8 p2)
  refine lv_iload_n hx hb dX_star_0 rfl (lv_at hl 1 rfl) ?_
  refine zz_ci (v := nI ((inr_ 8 p1).toNat)) (W.runS (As := [.int p1]) (rest := []) ⟨hx, hb, hml, hown, ht⟩ (c_X_isPredicate l p1) (va_cwS 1 ht (gd_S wd103 wd104 wd1 wd105) rfl rfl rfl (by decide +kernel) ⟨Nat.le_of_ble_eq_true rfl, Nat.le_of_ble_eq_true rfl⟩) zz_N_S rfl rfl hl.1 rfl (lv_room (Nat.le_of_ble_eq_true rfl)) dX_star_1 ⟨Nat.le_of_ble_eq_true rfl, Nat.le_of_ble_eq_true rfl⟩) ?_
  refine lv_if_eq (tgt := 14) hx hb dX_star_4 (by decide) (fun c4 => ?_) (fun c4 => ?_)
  · -- taken
    have c4 : (inr_ 8 p1).toNat = 0 := (nI_eq (a := (inr_ 8 p1).toNat) (b := 0) (by omega) (by omega)).mp c4
    have hbb : (inr_ 8 p1 && inr_ 8 p2) = false := by rw [bt0 c4]; rfl
    refine lv_ldc2 (v := (-1)) hx hb hown (ht _ wd206) dX_star_14 ?_
    exact zz_lretW (v := (-1)) (w1 := fun u : (Nat → Int32) => [(x0, .inr (4, [.ref t0, .ref p0, .ref v0, .ref g0, .ref ta])), (t0, .inr (0, [.ref t1, .ref t2])), (t1, .inl (cI, 400, .inl f)), (t2, .inl (cI, 9, .inl g)), (ta, .inl (cI, 256, .inl u))]) tl hx hb hr hlocks (Or.inl ⟨hbb, rfl⟩) hP hK hD hS dX_star_17
  · -- not taken
    have c4 : ¬ ((inr_ 8 p1).toNat = 0) := fun h => c4 ((nI_eq (a := (inr_ 8 p1).toNat) (b := 0) (by omega) (by omega)).mpr h)
    have hb1 : inr_ 8 p1 = true := bt1 c4
    refine lv_iload_n hx hb dX_star_7 rfl (lv_at hl 2 rfl) ?_
    refine zz_ci (v := nI ((inr_ 8 p2).toNat)) (W.runS (As := [.int p2]) (rest := []) ⟨hx, hb, hml, hown, ht⟩ (c_X_isPredicate l p2) (va_cwS 1 ht (gd_S wd103 wd104 wd1 wd105) rfl rfl rfl (by decide +kernel) ⟨Nat.le_of_ble_eq_true rfl, Nat.le_of_ble_eq_true rfl⟩) zz_N_S rfl rfl hl.1 rfl (lv_room (Nat.le_of_ble_eq_true rfl)) dX_star_8 ⟨Nat.le_of_ble_eq_true rfl, Nat.le_of_ble_eq_true rfl⟩) ?_
    refine lv_if_ne (tgt := 18) hx hb dX_star_11 (by decide) (fun c11 => ?_) (fun c11 => ?_)
    · -- taken
      have c11 : ¬ ((inr_ 8 p2).toNat = 0) := fun h => c11 ((nI_eq (a := (inr_ 8 p2).toNat) (b := 0) (by omega) (by omega)).mpr h)
      have hb2 : inr_ 8 p2 = true := bt1 c11
      obtain ⟨pp, hpp, epp⟩ := inr_t (by decide) hb1
      rw [epp] at hl
      obtain ⟨qq, hqq, eqq⟩ := inr_t (by decide) hb2
      rw [eqq] at hl
      have htp := tr_top (Ls := Ls) hpp
      refine lv_aload_n hx hb dX_star_18 rfl (lv_at hl 0 rfl) ?_
      refine zz_wv (wc := [(x0, .inr (4, [.ref t0, .ref p0, .ref v0, .ref g0, .ref ta])), (ta, .inl (cI, 256, .inl tl))]) (wr := [(t0, .inr (0, [.ref t1, .ref t2])), (t1, .inl (cI, 400, .inl f)), (t2, .inl (cI, 9, .inl g))]) (va_runV (As := []) (rest := []) ⟨hx, hb, hml, hown, ht⟩ (c_X_clearTally l D cI cB s.heap.size x0 t0 t1 t2 p0 v0 g0 ta tl) (cwV 0 ht (gd_V wd160 wd162 wp4 wd1 wd163) rfl rfl rfl (by decide +kernel) ⟨Nat.le_of_ble_eq_true rfl, Nat.le_of_ble_eq_true rfl⟩) (zz_P_V hN hK (hP.sub (ws' := [(x0, .inr (4, [.ref t0, .ref p0, .ref v0, .ref g0, .ref ta])), (ta, .inl (cI, 256, .inl tl))]) [0, 4] rfl) (hD.sub (ws' := [(x0, .inr (4, [.ref t0, .ref p0, .ref v0, .ref g0, .ref ta])), (ta, .inl (cI, 256, .inl tl))]) [0, 4] (by decide) rfl) 4 0 rfl rfl) rfl rfl hl.1 rfl (lv_room (Nat.le_of_ble_eq_true rfl)) dX_star_19 ⟨Nat.le_of_ble_eq_true rfl, Nat.le_of_ble_eq_true rfl⟩) hP hD hS hA [0, 4] [1, 2, 3] rfl rfl (by decide) (by decide) (fun u19 H locs hq19 hP hD hS => ?_)
      have hP := hP.sub (ws' := [(x0, .inr (4, [.ref t0, .ref p0, .ref v0, .ref g0, .ref ta])), (t0, .inr (0, [.ref t1, .ref t2])), (t1, .inl (cI, 400, .inl f)), (t2, .inl (cI, 9, .inl g)), (ta, .inl (cI, 256, .inl u19))]) [3, 0, 1, 2, 4] rfl
      have hD := hD.sub (ws' := [(x0, .inr (4, [.ref t0, .ref p0, .ref v0, .ref g0, .ref ta])), (t0, .inr (0, [.ref t1, .ref t2])), (t1, .inl (cI, 400, .inl f)), (t2, .inl (cI, 9, .inl g)), (ta, .inl (cI, 256, .inl u19))]) [3, 0, 1, 2, 4] (by decide) rfl
      refine lv_aload_n hx hb dX_star_22 rfl (lv_at hl 0 rfl) ?_
      refine lv_iload_n hx hb dX_star_23 rfl (lv_at hl 1 rfl) ?_
      refine zz_wv (wc := [(x0, .inr (4, [.ref t0, .ref p0, .ref v0, .ref g0, .ref ta])), (t0, .inr (0, [.ref t1, .ref t2])), (t1, .inl (cI, 400, .inl f)), (t2, .inl (cI, 9, .inl g)), (ta, .inl (cI, 256, .inl u19))]) (wr := []) (va_runV (As := [.int (nI pp)]) (rest := []) ⟨hx, hb, hml, hown, ht⟩ (c_X_tallySubjects l D cI cB H.size x0 t0 t1 t2 p0 v0 g0 ta f g Ls hT u19 (fun _ => 0) hq19 pp hpp) (cwV 1 ht (gd_V wd167 wd169 wp5 wd1 wd170) rfl rfl rfl (by decide +kernel) ⟨Nat.le_of_ble_eq_true rfl, Nat.le_of_ble_eq_true rfl⟩) (zz_P_V hN hK (hP.sub (ws' := [(x0, .inr (4, [.ref t0, .ref p0, .ref v0, .ref g0, .ref ta])), (t0, .inr (0, [.ref t1, .ref t2])), (t1, .inl (cI, 400, .inl f)), (t2, .inl (cI, 9, .inl g)), (ta, .inl (cI, 256, .inl u19))]) [0, 1, 2, 3, 4] rfl) (hD.sub (ws' := [(x0, .inr (4, [.ref t0, .ref p0, .ref v0, .ref g0, .ref ta])), (t0, .inr (0, [.ref t1, .ref t2])), (t1, .inl (cI, 400, .inl f)), (t2, .inl (cI, 9, .inl g)), (ta, .inl (cI, 256, .inl u19))]) [0, 1, 2, 3, 4] (by decide) rfl) 4 0 rfl rfl) rfl rfl hl.1 rfl (lv_room (Nat.le_of_ble_eq_true rfl)) dX_star_24 ⟨Nat.le_of_ble_eq_true rfl, Nat.le_of_ble_eq_true rfl⟩) hP hD hS hA [0, 1, 2, 3, 4] [] rfl rfl (by decide) (by decide) (fun u24 H locs hq24 hP hD hS => ?_)
      have hP := hP.sub (ws' := [(x0, .inr (4, [.ref t0, .ref p0, .ref v0, .ref g0, .ref ta])), (t0, .inr (0, [.ref t1, .ref t2])), (t1, .inl (cI, 400, .inl f)), (t2, .inl (cI, 9, .inl g)), (ta, .inl (cI, 256, .inl u24))]) [0, 1, 2, 3, 4] rfl
      have hD := hD.sub (ws' := [(x0, .inr (4, [.ref t0, .ref p0, .ref v0, .ref g0, .ref ta])), (t0, .inr (0, [.ref t1, .ref t2])), (t1, .inl (cI, 400, .inl f)), (t2, .inl (cI, 9, .inl g)), (ta, .inl (cI, 256, .inl u24))]) [0, 1, 2, 3, 4] (by decide) rfl
      refine lv_aload_n hx hb dX_star_27 rfl (lv_at hl 0 rfl) ?_
      refine lv_iload_n hx hb dX_star_28 rfl (lv_at hl 2 rfl) ?_
      refine lv_iconst (v := nI 0) hx hb dX_star_29 (by decide) ?_
      refine zz_cl (v := lN (chn false sub_ (Ls pp) (Ls qq))) (W.runV (As := [.int (nI qq), .int (nI 0)]) (rest := []) ⟨hx, hb, hml, hown, ht⟩ (c_X_sumAtSubjects l D cI cB x0 t0 t1 t2 p0 v0 g0 ta f g Ls hT u24 (fun v => 0 + (Ls pp).countP (fun c => sub_ c == v)) hq24 (fun v _ => by have := cpl (fun c => sub_ c == v) (Ls pp); show 0 + _ < 1000; omega) qq hqq false) (cwV 2 ht (gd_V wd207 wd209 wp9 wd1 wd210) rfl rfl rfl (by decide +kernel) ⟨Nat.le_of_ble_eq_true rfl, Nat.le_of_ble_eq_true rfl⟩) (zz_R_V hN hK (hP.sub (ws' := [(x0, .inr (4, [.ref t0, .ref p0, .ref v0, .ref g0, .ref ta])), (t0, .inr (0, [.ref t1, .ref t2])), (t1, .inl (cI, 400, .inl f)), (t2, .inl (cI, 9, .inl g)), (ta, .inl (cI, 256, .inl u24))]) [0, 1, 2, 3, 4] rfl) 4 0 rfl rfl) rfl rfl hl.1 rfl (lv_room (Nat.le_of_ble_eq_true rfl)) dX_star_30 ⟨Nat.le_of_ble_eq_true rfl, Nat.le_of_ble_eq_true rfl⟩) ?_
      exact zz_lretW (v := lN (chn false sub_ (Ls pp) (Ls qq))) (w1 := fun u : (Nat → Int32) => [(x0, .inr (4, [.ref t0, .ref p0, .ref v0, .ref g0, .ref ta])), (t0, .inr (0, [.ref t1, .ref t2])), (t1, .inl (cI, 400, .inl f)), (t2, .inl (cI, 9, .inl g)), (ta, .inl (cI, 256, .inl u))]) u24 hx hb hr hlocks (Or.inr ⟨pp, qq, hpp, hqq, epp, eqq, rfl⟩) hP hK hD hS dX_star_33
    · -- not taken
      have c11 : (inr_ 8 p2).toNat = 0 := (nI_eq (a := (inr_ 8 p2).toNat) (b := 0) (by omega) (by omega)).mp c11
      have hbb : (inr_ 8 p1 && inr_ 8 p2) = false := by rw [hb1, bt0 (b := inr_ 8 p2) (by omega)]; rfl
      refine lv_ldc2 (v := (-1)) hx hb hown (ht _ wd206) dX_star_14 ?_
      exact zz_lretW (v := (-1)) (w1 := fun u : (Nat → Int32) => [(x0, .inr (4, [.ref t0, .ref p0, .ref v0, .ref g0, .ref ta])), (t0, .inr (0, [.ref t1, .ref t2])), (t1, .inl (cI, 400, .inl f)), (t2, .inl (cI, 9, .inl g)), (ta, .inl (cI, 256, .inl u))]) tl hx hb hr hlocks (Or.inl ⟨hbb, rfl⟩) hP hK hD hS dX_star_17

abbrev rm_X_bucket : Room := { frames := 2, cells := 0, slots := 0, locals := 48 }
set_option maxHeartbeats 4000000 in
set_option maxRecDepth 100000 in
theorem c_X_bucket (l : Launch) (D : va_G) (cI cB : ClassId) (x0 t0 t1 t2 p0 v0 g0 ta : Nat) (f g : Nat → Int32) (Ls : Nat → List Nat) (hT : RT Ls f g) (p1 fr to : Int32) : Met l yX_bucket wX_bucket rm_X_bucket (zz_R D vwCl [(cI, .int), (cB, .boolean)] [.ref x0, .int p1, .int fr, .int to] [(x0, .inr (4, [.ref t0, .ref p0, .ref v0, .ref g0, .ref ta])), (t0, .inr (0, [.ref t1, .ref t2])), (t1, .inl (cI, 400, .inl f)), (t2, .inl (cI, 9, .inl g))]) (vp_Si (fun r : Int32 => (inr_ 8 p1 = false ∧ r = -1) ∨ ∃ pp, pp < 8 ∧ p1 = nI pp ∧ r = nI ((Ls pp).countP (fun c => btw fr to (obj_ c))))) 0 0 (fun _ => False) := by
  refine Met.ofW (cc := cX_bucket) (maxL := 4) (ret := (some .int)) (by decide) rfl ?_
  intro pg ev s mt args below meth kd s₁ B hml hv
  obtain ⟨rfl, hP, hK, hN⟩ := hv
  have hx := B.exec
  have hb := B.bytes
  have hr := B.returns
  have ht : ∀ w ∈ W0, w.before _ s = true := fun w h => atoms_spec (ws := wX_bucket) B.pre w (List.mem_cons_of_mem _ h)
  have hown : s.vm.findClass "StatRows" = some mt.cls := findClass_of_methodNamed B.named
  have hlocks := B.notSynchronized
  have hl := lv_entry ([.ref x0, .int p1, .int fr, .int to]) (n := 4) (Nat.le_of_ble_eq_true rfl)
  rw [lg_entry_eq]
  generalize (lg_sl ([.ref x0, .int p1, .int fr, .int to]) ++ List.replicate (4 - (lg_sl ([.ref x0, .int p1, .int fr, .int to])).length) Slot.unset).toArray = ls at hl ⊢
  have hl : lv_has ls 4 [(0, .ref x0), (1, .int p1), (2, .int fr), (3, .int to)] := hl
  have h400 := hT.2.2.1
  have bl0 := btl (inr_ 8 p1)
  refine lv_iload_n hx hb dX_bucket_0 rfl (lv_at hl 1 rfl) ?_
  refine zz_ci (v := nI ((inr_ 8 p1).toNat)) (W.runS (As := [.int p1]) (rest := []) ⟨hx, hb, hml, hown, ht⟩ (c_X_isPredicate l p1) (va_cwS 1 ht (gd_S wd103 wd104 wd1 wd105) rfl rfl rfl (by decide +kernel) ⟨Nat.le_of_ble_eq_true rfl, Nat.le_of_ble_eq_true rfl⟩) zz_N_S rfl rfl hl.1 rfl (lv_room (Nat.le_of_ble_eq_true rfl)) dX_bucket_1 ⟨Nat.le_of_ble_eq_true rfl, Nat.le_of_ble_eq_true rfl⟩) ?_
  refine lv_if_ne (tgt := 9) hx hb dX_bucket_4 (by decide) (fun c4 => ?_) (fun c4 => ?_)
  · -- taken
    have c4 : ¬ ((inr_ 8 p1).toNat = 0) := fun h => c4 ((nI_eq (a := (inr_ 8 p1).toNat) (b := 0) (by omega) (by omega)).mpr h)
    have hb1 : inr_ 8 p1 = true := bt1 c4
    obtain ⟨pp, hpp, epp⟩ := inr_t (by decide) hb1
    rw [epp] at hl
    have htp := tr_top (Ls := Ls) hpp
    refine lv_aload_n hx hb dX_bucket_9 rfl (lv_at hl 0 rfl) ?_
    refine lv_iload_n hx hb dX_bucket_10 rfl (lv_at hl 1 rfl) ?_
    refine lv_iload_n hx hb dX_bucket_11 rfl (lv_at hl 2 rfl) ?_
    refine lv_iload_n hx hb dX_bucket_12 rfl (lv_at hl 3 rfl) ?_
    refine zz_ci (v := nI ((Ls pp).countP (fun c => btw fr to (obj_ c)))) (W.runV (As := [.int (nI pp), .int fr, .int to]) (rest := []) ⟨hx, hb, hml, hown, ht⟩ (c_X_withObjectBetween l D cI cB x0 t0 t1 t2 p0 v0 g0 ta f g Ls hT pp hpp fr to) (cwV 3 ht (gd_V wd219 wd221 wp10 wd1 wd222) rfl rfl rfl (by decide +kernel) ⟨Nat.le_of_ble_eq_true rfl, Nat.le_of_ble_eq_true rfl⟩) (zz_R_V hN hK (hP.sub (ws' := [(x0, .inr (4, [.ref t0, .ref p0, .ref v0, .ref g0, .ref ta])), (t0, .inr (0, [.ref t1, .ref t2])), (t1, .inl (cI, 400, .inl f)), (t2, .inl (cI, 9, .inl g))]) [0, 1, 2, 3] rfl) 4 0 rfl rfl) rfl rfl hl.1 rfl (lv_room (Nat.le_of_ble_eq_true rfl)) dX_bucket_13 ⟨Nat.le_of_ble_eq_true rfl, Nat.le_of_ble_eq_true rfl⟩) ?_
    exact zz_iretR (v := nI ((Ls pp).countP (fun c => btw fr to (obj_ c)))) hx hb hr hlocks (Or.inr ⟨pp, hpp, epp, rfl⟩) dX_bucket_16
  · -- not taken
    have c4 : (inr_ 8 p1).toNat = 0 := (nI_eq (a := (inr_ 8 p1).toNat) (b := 0) (by omega) (by omega)).mp c4
    have hb1 : inr_ 8 p1 = false := bt0 (by omega)
    refine lv_iconst (v := (-1)) hx hb dX_bucket_7 (by decide) ?_
    exact zz_iretR (v := (-1)) hx hb hr hlocks (Or.inl ⟨hb1, rfl⟩) dX_bucket_8

abbrev rm_X_count : Room := { frames := 4, cells := 0, slots := 0, locals := 88 }
set_option maxHeartbeats 4000000 in
set_option maxRecDepth 100000 in
theorem c_X_count (l : Launch) (D : va_G) (cI cB : ClassId) (sz : Nat) (x0 t0 t1 t2 p0 v0 g0 ta : Nat) (f g : Nat → Int32) (Ls : Nat → List Nat) (hT : RT Ls f g) (tl : Nat → Int32) (p1 wh : Int32) : Met l yX_count wX_count rm_X_count (zz_P D vwCl [(cI, .int), (cB, .boolean)] [.ref x0, .int p1, .int wh] [(x0, .inr (4, [.ref t0, .ref p0, .ref v0, .ref g0, .ref ta])), (t0, .inr (0, [.ref t1, .ref t2])), (t1, .inl (cI, 400, .inl f)), (t2, .inl (cI, 9, .inl g)), (ta, .inl (cI, 256, .inl tl))] sz) (va_Qi (fun (r : Int32) (u : (Nat → Int32)) => ((inr_ 8 p1 = false ∨ (wh ≠ nI 0 ∧ wh ≠ nI 1 ∧ wh ≠ nI 2)) ∧ r = -1) ∨ ∃ pp, pp < 8 ∧ p1 = nI pp ∧ ((wh = nI 0 ∧ r = nI (Ls pp).length) ∨ (wh = nI 1 ∧ r = nI (cnt (anyk sub_ (Ls pp)) 256)) ∨ (wh = nI 2 ∧ r = nI (cnt (anyk obj_ (Ls pp)) 256)))) (fun u : (Nat → Int32) => zz_B D vwCl [(cI, .int), (cB, .boolean)] (va_A [(x0, .inr (4, [.ref t0, .ref p0, .ref v0, .ref g0, .ref ta])), (t0, .inr (0, [.ref t1, .ref t2])), (t1, .inl (cI, 400, .inl f)), (t2, .inl (cI, 9, .inl g)), (ta, .inl (cI, 256, .inl tl))] sz) [(x0, .inr (4, [.ref t0, .ref p0, .ref v0, .ref g0, .ref ta])), (t0, .inr (0, [.ref t1, .ref t2])), (t1, .inl (cI, 400, .inl f)), (t2, .inl (cI, 9, .inl g)), (ta, .inl (cI, 256, .inl u))]) (va_A [(x0, .inr (4, [.ref t0, .ref p0, .ref v0, .ref g0, .ref ta])), (t0, .inr (0, [.ref t1, .ref t2])), (t1, .inl (cI, 400, .inl f)), (t2, .inl (cI, 9, .inl g)), (ta, .inl (cI, 256, .inl tl))] sz)) 0 0 (va_A [(x0, .inr (4, [.ref t0, .ref p0, .ref v0, .ref g0, .ref ta])), (t0, .inr (0, [.ref t1, .ref t2])), (t1, .inl (cI, 400, .inl f)), (t2, .inl (cI, 9, .inl g)), (ta, .inl (cI, 256, .inl tl))] sz) := by
  refine Met.ofW (cc := cX_count) (maxL := 3) (ret := (some .int)) (by decide) rfl ?_
  intro pg ev s mt args below meth kd s₁ B hml hv
  obtain ⟨rfl, hsz, hP, hK, hD0, hN⟩ := hv
  have hx := B.exec
  have hb := B.bytes
  have hr := B.returns
  have ht : ∀ w ∈ W0, w.before _ s = true := fun w h => atoms_spec (ws := wX_count) B.pre w (List.mem_cons_of_mem _ h)
  have hown : s.vm.findClass "StatRows" = some mt.cls := findClass_of_methodNamed B.named
  have hlocks := B.notSynchronized
  subst hsz
  have hD := hD0.self (sz := s.heap.size)
  generalize hAe : va_A [(x0, .inr (4, [.ref t0, .ref p0, .ref v0, .ref g0, .ref ta])), (t0, .inr (0, [.ref t1, .ref t2])), (t1, .inl (cI, 400, .inl f)), (t2, .inl (cI, 9, .inl g)), (ta, .inl (cI, 256, .inl tl))] s.heap.size = A at hD ⊢
  have hA : ∀ q : Nat, s.heap.size ≤ q → A q := fun q h => by rw [← hAe]; exact Or.inr h
  have hS : va_S A s.heap s.heap [] := va_S.rf
  have hP : va_P D vwCl [(x0, .inr (4, [.ref t0, .ref p0, .ref v0, .ref g0, .ref ta])), (t0, .inr (0, [.ref t1, .ref t2])), (t1, .inl (cI, 400, .inl f)), (t2, .inl (cI, 9, .inl g)), (ta, .inl (cI, 256, .inl tl))] s.heap := hP
  have hl := lv_entry ([.ref x0, .int p1, .int wh]) (n := 3) (Nat.le_of_ble_eq_true rfl)
  rw [lg_entry_eq]
  generalize (lg_sl ([.ref x0, .int p1, .int wh]) ++ List.replicate (3 - (lg_sl ([.ref x0, .int p1, .int wh])).length) Slot.unset).toArray = ls at hl ⊢
  have hl : lv_has ls 3 [(0, .ref x0), (1, .int p1), (2, .int wh)] := hl
  have h400 := hT.2.2.1
  have bl0 := btl (inr_ 8 p1)
  refine lv_iload_n hx hb dX_count_0 rfl (lv_at hl 1 rfl) ?_
  refine zz_ci (v := nI ((inr_ 8 p1).toNat)) (W.runS (As := [.int p1]) (rest := []) ⟨hx, hb, hml, hown, ht⟩ (c_X_isPredicate l p1) (va_cwS 1 ht (gd_S wd103 wd104 wd1 wd105) rfl rfl rfl (by decide +kernel) ⟨Nat.le_of_ble_eq_true rfl, Nat.le_of_ble_eq_true rfl⟩) zz_N_S rfl rfl hl.1 rfl (lv_room (Nat.le_of_ble_eq_true rfl)) dX_count_1 ⟨Nat.le_of_ble_eq_true rfl, Nat.le_of_ble_eq_true rfl⟩) ?_
  refine lv_if_ne (tgt := 9) hx hb dX_count_4 (by decide) (fun c4 => ?_) (fun c4 => ?_)
  · -- taken
    have c4 : ¬ ((inr_ 8 p1).toNat = 0) := fun h => c4 ((nI_eq (a := (inr_ 8 p1).toNat) (b := 0) (by omega) (by omega)).mpr h)
    have hb1 : inr_ 8 p1 = true := bt1 c4
    obtain ⟨pp, hpp, epp⟩ := inr_t (by decide) hb1
    rw [epp] at hl
    have htp := tr_top (Ls := Ls) hpp
    refine lv_iload_n hx hb dX_count_9 rfl (lv_at hl 2 rfl) ?_
    by_cases t10_0 : wh = nI 0
    · refine zz_top t10_0 ?_
      refine lv_tableIn (tgt := 36) hx hb dX_count_10 (by decide) (by decide) (by first | rfl | decide) (by decide) ?_
      refine lv_aload_n hx hb dX_count_36 rfl (lv_at hl 0 rfl) ?_
      refine va_get (D := D) (ci := 4) (v := .ref t0) (C := "StatRows") (T := TX) (N := 5) hx hb ht inX hown hK hP 0 rfl rfl 0 (by decide) (ht _ wd77) (fun _ h9 => h9) rfl dX_count_37 ?_
      refine lv_iload_n hx hb dX_count_40 rfl (lv_at hl 1 rfl) ?_
      refine zz_ci (v := nI (tr_off Ls pp + (Ls pp).length - tr_off Ls pp)) (W.runV (As := [.int (nI pp)]) (rest := []) ⟨hx, hb, hml, hown, ht⟩ (c_T_sizeOf l D cI cB t0 t1 t2 f g pp (tr_off Ls pp) (tr_off Ls pp + (Ls pp).length) hpp (hT.1 pp (by omega)) (hT.1 (pp + 1) (by omega)) (by omega)) (cwV 1 ht (gd_V wd152 wd153 wd154 wd2 wd155) rfl rfl rfl (by decide +kernel) ⟨Nat.le_of_ble_eq_true rfl, Nat.le_of_ble_eq_true rfl⟩) (zz_R_V hN hK (hP.sub (ws' := [(t0, .inr (0, [.ref t1, .ref t2])), (t1, .inl (cI, 400, .inl f)), (t2, .inl (cI, 9, .inl g))]) [1, 2, 3] rfl) 0 0 rfl rfl) rfl rfl hl.1 rfl (lv_room (Nat.le_of_ble_eq_true rfl)) dX_count_41 ⟨Nat.le_of_ble_eq_true rfl, Nat.le_of_ble_eq_true rfl⟩) ?_
      refine zz_top (y := nI ((Ls pp).length)) (congrArg nI (by omega)) ?_
      exact zz_iretW (v := nI ((Ls pp).length)) (w1 := fun u : (Nat → Int32) => [(x0, .inr (4, [.ref t0, .ref p0, .ref v0, .ref g0, .ref ta])), (t0, .inr (0, [.ref t1, .ref t2])), (t1, .inl (cI, 400, .inl f)), (t2, .inl (cI, 9, .inl g)), (ta, .inl (cI, 256, .inl u))]) tl hx hb hr hlocks (Or.inr ⟨pp, hpp, epp, Or.inl ⟨t10_0, rfl⟩⟩) hP hK hD hS dX_count_44
    by_cases t10_1 : wh = nI 1
    · refine zz_top t10_1 ?_
      refine lv_tableIn (tgt := 45) hx hb dX_count_10 (by decide) (by decide) (by first | rfl | decide) (by decide) ?_
      refine lv_aload_n hx hb dX_count_45 rfl (lv_at hl 0 rfl) ?_
      refine lv_iload_n hx hb dX_count_46 rfl (lv_at hl 1 rfl) ?_
      refine zz_wi (wc := [(x0, .inr (4, [.ref t0, .ref p0, .ref v0, .ref g0, .ref ta])), (t0, .inr (0, [.ref t1, .ref t2])), (t1, .inl (cI, 400, .inl f)), (t2, .inl (cI, 9, .inl g)), (ta, .inl (cI, 256, .inl tl))]) (wr := []) (va_runV (As := [.int (nI pp)]) (rest := []) ⟨hx, hb, hml, hown, ht⟩ (c_X_subjectsOf l D cI cB s.heap.size x0 t0 t1 t2 p0 v0 g0 ta f g Ls hT tl pp hpp) (cwV 1 ht (gd_V wd156 wd158 wp3 wd1 wd159) rfl rfl rfl (by decide +kernel) ⟨Nat.le_of_ble_eq_true rfl, Nat.le_of_ble_eq_true rfl⟩) (zz_P_V hN hK (hP.sub (ws' := [(x0, .inr (4, [.ref t0, .ref p0, .ref v0, .ref g0, .ref ta])), (t0, .inr (0, [.ref t1, .ref t2])), (t1, .inl (cI, 400, .inl f)), (t2, .inl (cI, 9, .inl g)), (ta, .inl (cI, 256, .inl tl))]) [0, 1, 2, 3, 4] rfl) (hD.sub (ws' := [(x0, .inr (4, [.ref t0, .ref p0, .ref v0, .ref g0, .ref ta])), (t0, .inr (0, [.ref t1, .ref t2])), (t1, .inl (cI, 400, .inl f)), (t2, .inl (cI, 9, .inl g)), (ta, .inl (cI, 256, .inl tl))]) [0, 1, 2, 3, 4] (by decide) rfl) 4 0 rfl rfl) rfl rfl hl.1 rfl (lv_room (Nat.le_of_ble_eq_true rfl)) dX_count_47 ⟨Nat.le_of_ble_eq_true rfl, Nat.le_of_ble_eq_true rfl⟩) hP hD hS hA [0, 1, 2, 3, 4] [] rfl rfl (by decide) (by decide) (fun r47 u47 H locs hq47 hP hD hS => ?_)
      have hP := hP.sub (ws' := [(x0, .inr (4, [.ref t0, .ref p0, .ref v0, .ref g0, .ref ta])), (t0, .inr (0, [.ref t1, .ref t2])), (t1, .inl (cI, 400, .inl f)), (t2, .inl (cI, 9, .inl g)), (ta, .inl (cI, 256, .inl u47))]) [0, 1, 2, 3, 4] rfl
      have hD := hD.sub (ws' := [(x0, .inr (4, [.ref t0, .ref p0, .ref v0, .ref g0, .ref ta])), (t0, .inr (0, [.ref t1, .ref t2])), (t1, .inl (cI, 400, .inl f)), (t2, .inl (cI, 9, .inl g)), (ta, .inl (cI, 256, .inl u47))]) [0, 1, 2, 3, 4] (by decide) rfl
      refine zz_top (y := nI (cnt (anyk sub_ (Ls pp)) 256)) (hq47) ?_
      exact zz_iretW (v := nI (cnt (anyk sub_ (Ls pp)) 256)) (w1 := fun u : (Nat → Int32) => [(x0, .inr (4, [.ref t0, .ref p0, .ref v0, .ref g0, .ref ta])), (t0, .inr (0, [.ref t1, .ref t2])), (t1, .inl (cI, 400, .inl f)), (t2, .inl (cI, 9, .inl g)), (ta, .inl (cI, 256, .inl u))]) u47 hx hb hr hlocks (Or.inr ⟨pp, hpp, epp, Or.inr (Or.inl ⟨t10_1, rfl⟩)⟩) hP hK hD hS dX_count_50
    by_cases t10_2 : wh = nI 2
    · refine zz_top t10_2 ?_
      refine lv_tableIn (tgt := 51) hx hb dX_count_10 (by decide) (by decide) (by first | rfl | decide) (by decide) ?_
      refine lv_aload_n hx hb dX_count_51 rfl (lv_at hl 0 rfl) ?_
      refine lv_iload_n hx hb dX_count_52 rfl (lv_at hl 1 rfl) ?_
      refine zz_wi (wc := [(x0, .inr (4, [.ref t0, .ref p0, .ref v0, .ref g0, .ref ta])), (t0, .inr (0, [.ref t1, .ref t2])), (t1, .inl (cI, 400, .inl f)), (t2, .inl (cI, 9, .inl g)), (ta, .inl (cI, 256, .inl tl))]) (wr := []) (va_runV (As := [.int (nI pp)]) (rest := []) ⟨hx, hb, hml, hown, ht⟩ (c_X_objectsOf l D cI cB s.heap.size x0 t0 t1 t2 p0 v0 g0 ta f g Ls hT tl pp hpp) (cwV 1 ht (gd_V wd181 wd183 wp7 wd1 wd184) rfl rfl rfl (by decide +kernel) ⟨Nat.le_of_ble_eq_true rfl, Nat.le_of_ble_eq_true rfl⟩) (zz_P_V hN hK (hP.sub (ws' := [(x0, .inr (4, [.ref t0, .ref p0, .ref v0, .ref g0, .ref ta])), (t0, .inr (0, [.ref t1, .ref t2])), (t1, .inl (cI, 400, .inl f)), (t2, .inl (cI, 9, .inl g)), (ta, .inl (cI, 256, .inl tl))]) [0, 1, 2, 3, 4] rfl) (hD.sub (ws' := [(x0, .inr (4, [.ref t0, .ref p0, .ref v0, .ref g0, .ref ta])), (t0, .inr (0, [.ref t1, .ref t2])), (t1, .inl (cI, 400, .inl f)), (t2, .inl (cI, 9, .inl g)), (ta, .inl (cI, 256, .inl tl))]) [0, 1, 2, 3, 4] (by decide) rfl) 4 0 rfl rfl) rfl rfl hl.1 rfl (lv_room (Nat.le_of_ble_eq_true rfl)) dX_count_53 ⟨Nat.le_of_ble_eq_true rfl, Nat.le_of_ble_eq_true rfl⟩) hP hD hS hA [0, 1, 2, 3, 4] [] rfl rfl (by decide) (by decide) (fun r53 u53 H locs hq53 hP hD hS => ?_)
      have hP := hP.sub (ws' := [(x0, .inr (4, [.ref t0, .ref p0, .ref v0, .ref g0, .ref ta])), (t0, .inr (0, [.ref t1, .ref t2])), (t1, .inl (cI, 400, .inl f)), (t2, .inl (cI, 9, .inl g)), (ta, .inl (cI, 256, .inl u53))]) [0, 1, 2, 3, 4] rfl
      have hD := hD.sub (ws' := [(x0, .inr (4, [.ref t0, .ref p0, .ref v0, .ref g0, .ref ta])), (t0, .inr (0, [.ref t1, .ref t2])), (t1, .inl (cI, 400, .inl f)), (t2, .inl (cI, 9, .inl g)), (ta, .inl (cI, 256, .inl u53))]) [0, 1, 2, 3, 4] (by decide) rfl
      refine zz_top (y := nI (cnt (anyk obj_ (Ls pp)) 256)) (hq53) ?_
      exact zz_iretW (v := nI (cnt (anyk obj_ (Ls pp)) 256)) (w1 := fun u : (Nat → Int32) => [(x0, .inr (4, [.ref t0, .ref p0, .ref v0, .ref g0, .ref ta])), (t0, .inr (0, [.ref t1, .ref t2])), (t1, .inl (cI, 400, .inl f)), (t2, .inl (cI, 9, .inl g)), (ta, .inl (cI, 256, .inl u))]) u53 hx hb hr hlocks (Or.inr ⟨pp, hpp, epp, Or.inr (Or.inr ⟨t10_2, rfl⟩)⟩) hP hK hD hS dX_count_56
    have hout10 : (wh).toInt < 0 ∨ 2 < (wh).toInt := zz_tout 0 2 (by decide) (fun k hk1 hk2 q => by
      rcases (show k = 0 ∨ k = 1 ∨ k = 2 by omega) with rfl | rfl | rfl
      · exact t10_0 q
      · exact t10_1 q
      · exact t10_2 q)
    refine lv_tableOut (tgt := 57) hx hb dX_count_10 hout10 (by decide) ?_
    refine lv_iconst (v := (-1)) hx hb dX_count_57 (by decide) ?_
    exact zz_iretW (v := (-1)) (w1 := fun u : (Nat → Int32) => [(x0, .inr (4, [.ref t0, .ref p0, .ref v0, .ref g0, .ref ta])), (t0, .inr (0, [.ref t1, .ref t2])), (t1, .inl (cI, 400, .inl f)), (t2, .inl (cI, 9, .inl g)), (ta, .inl (cI, 256, .inl u))]) tl hx hb hr hlocks (Or.inl ⟨Or.inr ⟨t10_0, t10_1, t10_2⟩, rfl⟩) hP hK hD hS dX_count_58
  · -- not taken
    have c4 : (inr_ 8 p1).toNat = 0 := (nI_eq (a := (inr_ 8 p1).toNat) (b := 0) (by omega) (by omega)).mp c4
    have hb1 : inr_ 8 p1 = false := bt0 (by omega)
    refine lv_iconst (v := (-1)) hx hb dX_count_7 (by decide) ?_
    exact zz_iretW (v := (-1)) (w1 := fun u : (Nat → Int32) => [(x0, .inr (4, [.ref t0, .ref p0, .ref v0, .ref g0, .ref ta])), (t0, .inr (0, [.ref t1, .ref t2])), (t1, .inl (cI, 400, .inl f)), (t2, .inl (cI, 9, .inl g)), (ta, .inl (cI, 256, .inl u))]) tl hx hb hr hlocks (Or.inl ⟨Or.inl hb1, rfl⟩) hP hK hD hS dX_count_8

abbrev rm_X_triple : Room := { frames := 3, cells := 0, slots := 0, locals := 68 }
set_option maxHeartbeats 4000000 in
set_option maxRecDepth 100000 in
theorem c_X_triple (l : Launch) (D : va_G) (cI cB : ClassId) (sz : Nat) (x0 t0 t1 t2 p0 v0 g0 ta : Nat) (f g : Nat → Int32) (Ls : Nat → List Nat) (hT : RT Ls f g) (s1 p1 o1 : Int32) : Met l yX_triple wX_triple rm_X_triple (zz_P D vwCl [(cI, .int), (cB, .boolean)] [.ref x0, .int s1, .int p1, .int o1] [(x0, .inr (4, [.ref t0, .ref p0, .ref v0, .ref g0, .ref ta])), (t0, .inr (0, [.ref t1, .ref t2])), (t1, .inl (cI, 400, .inl f)), (t2, .inl (cI, 9, .inl g))] sz) (va_Qi (fun (r : Int32) (u : ((Nat → Int32) × (Nat → Int32))) => ((inr_ 256 s1 && inr_ 8 p1 && inr_ 256 o1) = false ∧ r = -1 ∧ RT Ls u.1 u.2) ∨ ∃ ss pp oo, ss < 256 ∧ pp < 8 ∧ oo < 256 ∧ s1 = nI ss ∧ p1 = nI pp ∧ o1 = nI oo ∧ (((256 * ss + oo ∈ Ls pp) ∧ r = nI 0 ∧ RT Ls u.1 u.2) ∨ ((256 * ss + oo ∉ Ls pp) ∧ tr_off Ls 8 = 400 ∧ r = -3 ∧ RT Ls u.1 u.2) ∨ ((256 * ss + oo ∉ Ls pp) ∧ tr_off Ls 8 < 400 ∧ r = nI 1 ∧ ∃ k, k ≤ (Ls pp).length ∧ RT (tr_ins Ls pp k (256 * ss + oo)) u.1 u.2))) (fun u : ((Nat → Int32) × (Nat → Int32)) => zz_B D vwCl [(cI, .int), (cB, .boolean)] (va_A [(x0, .inr (4, [.ref t0, .ref p0, .ref v0, .ref g0, .ref ta])), (t0, .inr (0, [.ref t1, .ref t2])), (t1, .inl (cI, 400, .inl f)), (t2, .inl (cI, 9, .inl g))] sz) [(x0, .inr (4, [.ref t0, .ref p0, .ref v0, .ref g0, .ref ta])), (t0, .inr (0, [.ref t1, .ref t2])), (t1, .inl (cI, 400, .inl u.1)), (t2, .inl (cI, 9, .inl u.2))]) (va_A [(x0, .inr (4, [.ref t0, .ref p0, .ref v0, .ref g0, .ref ta])), (t0, .inr (0, [.ref t1, .ref t2])), (t1, .inl (cI, 400, .inl f)), (t2, .inl (cI, 9, .inl g))] sz)) 0 0 (va_A [(x0, .inr (4, [.ref t0, .ref p0, .ref v0, .ref g0, .ref ta])), (t0, .inr (0, [.ref t1, .ref t2])), (t1, .inl (cI, 400, .inl f)), (t2, .inl (cI, 9, .inl g))] sz) := by
  refine Met.ofW (cc := cX_triple) (maxL := 4) (ret := (some .int)) (by decide) rfl ?_
  intro pg ev s mt args below meth kd s₁ B hml hv
  obtain ⟨rfl, hsz, hP, hK, hD0, hN⟩ := hv
  have hx := B.exec
  have hb := B.bytes
  have hr := B.returns
  have ht : ∀ w ∈ W0, w.before _ s = true := fun w h => atoms_spec (ws := wX_triple) B.pre w (List.mem_cons_of_mem _ h)
  have hown : s.vm.findClass "StatRows" = some mt.cls := findClass_of_methodNamed B.named
  have hlocks := B.notSynchronized
  subst hsz
  have hD := hD0.self (sz := s.heap.size)
  generalize hAe : va_A [(x0, .inr (4, [.ref t0, .ref p0, .ref v0, .ref g0, .ref ta])), (t0, .inr (0, [.ref t1, .ref t2])), (t1, .inl (cI, 400, .inl f)), (t2, .inl (cI, 9, .inl g))] s.heap.size = A at hD ⊢
  have hA : ∀ q : Nat, s.heap.size ≤ q → A q := fun q h => by rw [← hAe]; exact Or.inr h
  have hS : va_S A s.heap s.heap [] := va_S.rf
  have hP : va_P D vwCl [(x0, .inr (4, [.ref t0, .ref p0, .ref v0, .ref g0, .ref ta])), (t0, .inr (0, [.ref t1, .ref t2])), (t1, .inl (cI, 400, .inl f)), (t2, .inl (cI, 9, .inl g))] s.heap := hP
  have hl := lv_entry ([.ref x0, .int s1, .int p1, .int o1]) (n := 4) (Nat.le_of_ble_eq_true rfl)
  rw [lg_entry_eq]
  generalize (lg_sl ([.ref x0, .int s1, .int p1, .int o1]) ++ List.replicate (4 - (lg_sl ([.ref x0, .int s1, .int p1, .int o1])).length) Slot.unset).toArray = ls at hl ⊢
  have hl : lv_has ls 4 [(0, .ref x0), (1, .int s1), (2, .int p1), (3, .int o1)] := hl
  have h400 := hT.2.2.1
  have bl0 := btl ((inr_ 256 s1 && inr_ 8 p1 && inr_ 256 o1))
  refine lv_iload_n hx hb dX_triple_0 rfl (lv_at hl 1 rfl) ?_
  refine lv_iload_n hx hb dX_triple_1 rfl (lv_at hl 2 rfl) ?_
  refine lv_iload_n hx hb dX_triple_2 rfl (lv_at hl 3 rfl) ?_
  refine zz_ci (v := nI ((inr_ 256 s1 && inr_ 8 p1 && inr_ 256 o1).toNat)) (W.runS (As := [.int s1, .int p1, .int o1]) (rest := []) ⟨hx, hb, hml, hown, ht⟩ (c_X_isTriple l s1 p1 o1) (va_cwS 3 ht (gd_S wd97 wd98 wd1 wd99) rfl rfl rfl (by decide +kernel) ⟨Nat.le_of_ble_eq_true rfl, Nat.le_of_ble_eq_true rfl⟩) zz_N_S rfl rfl hl.1 rfl (lv_room (Nat.le_of_ble_eq_true rfl)) dX_triple_3 ⟨Nat.le_of_ble_eq_true rfl, Nat.le_of_ble_eq_true rfl⟩) ?_
  refine lv_if_ne (tgt := 11) hx hb dX_triple_6 (by decide) (fun c6 => ?_) (fun c6 => ?_)
  · -- taken
    have c6 : ¬ ((inr_ 256 s1 && inr_ 8 p1 && inr_ 256 o1).toNat = 0) := fun h => c6 ((nI_eq (a := (inr_ 256 s1 && inr_ 8 p1 && inr_ 256 o1).toNat) (b := 0) (by omega) (by omega)).mpr h)
    have hb1 := bt1 c6
    simp only [Bool.and_eq_true] at hb1
    obtain ⟨⟨hb2, hb3⟩, hb4⟩ := hb1
    obtain ⟨ss, hss, ess⟩ := inr_t (by decide) hb2
    rw [ess] at hl
    obtain ⟨pp, hpp, epp⟩ := inr_t (by decide) hb3
    rw [epp] at hl
    obtain ⟨oo, hoo, eoo⟩ := inr_t (by decide) hb4
    rw [eoo] at hl
    obtain ⟨k, hk, h1, h2⟩ := tr_place (Ls pp) (256 * ss + oo)
    have hmem := tr_mem (hT.2.2.2.2 pp hpp) h1 h2
    refine lv_aload_n hx hb dX_triple_11 rfl (lv_at hl 0 rfl) ?_
    refine va_get (D := D) (ci := 4) (v := .ref t0) (C := "StatRows") (T := TX) (N := 5) hx hb ht inX hown hK hP 0 rfl rfl 0 (by decide) (ht _ wd77) (fun _ h9 => h9) rfl dX_triple_12 ?_
    refine lv_iload_n hx hb dX_triple_15 rfl (lv_at hl 2 rfl) ?_
    refine lv_iload_n hx hb dX_triple_16 rfl (lv_at hl 1 rfl) ?_
    refine lv_iload_n hx hb dX_triple_17 rfl (lv_at hl 3 rfl) ?_
    refine zz_ci (v := nI (256 * ss + oo)) (W.runS (As := [.int (nI ss), .int (nI oo)]) (rest := [.int (nI pp), .ref t0]) ⟨hx, hb, hml, hown, ht⟩ (c_X_pair l ss oo) (va_cwS 2 ht (gd_S wd106 wd107 wd1 wd108) rfl rfl rfl (by decide +kernel) ⟨Nat.le_of_ble_eq_true rfl, Nat.le_of_ble_eq_true rfl⟩) zz_N_S rfl rfl hl.1 rfl (lv_room (Nat.le_of_ble_eq_true rfl)) dX_triple_18 ⟨Nat.le_of_ble_eq_true rfl, Nat.le_of_ble_eq_true rfl⟩) ?_
    refine zz_wi (wc := [(t0, .inr (0, [.ref t1, .ref t2])), (t1, .inl (cI, 400, .inl f)), (t2, .inl (cI, 9, .inl g))]) (wr := [(x0, .inr (4, [.ref t0, .ref p0, .ref v0, .ref g0, .ref ta]))]) (va_runV (As := [.int (nI pp), .int (nI (256 * ss + oo))]) (rest := []) ⟨hx, hb, hml, hown, ht⟩ (c_T_put l D cI cB s.heap.size t0 t1 t2 f g Ls hT pp (256 * ss + oo) k hpp (by omega) hk h1 h2) (cwV 2 ht (gd_V wd109 wd110 wd111 wd2 wd112) rfl rfl rfl (by decide +kernel) ⟨Nat.le_of_ble_eq_true rfl, Nat.le_of_ble_eq_true rfl⟩) (zz_P_V hN hK (hP.sub (ws' := [(t0, .inr (0, [.ref t1, .ref t2])), (t1, .inl (cI, 400, .inl f)), (t2, .inl (cI, 9, .inl g))]) [1, 2, 3] rfl) (hD.sub (ws' := [(t0, .inr (0, [.ref t1, .ref t2])), (t1, .inl (cI, 400, .inl f)), (t2, .inl (cI, 9, .inl g))]) [1, 2, 3] (by decide) rfl) 0 0 rfl rfl) rfl rfl hl.1 rfl (lv_room (Nat.le_of_ble_eq_true rfl)) dX_triple_21 ⟨Nat.le_of_ble_eq_true rfl, Nat.le_of_ble_eq_true rfl⟩) hP hD hS hA [1, 2, 3] [0] rfl rfl (by decide) (by decide) (fun r21 u21 H locs hq21 hP hD hS => ?_)
    have hP := hP.sub (ws' := [(x0, .inr (4, [.ref t0, .ref p0, .ref v0, .ref g0, .ref ta])), (t0, .inr (0, [.ref t1, .ref t2])), (t1, .inl (cI, 400, .inl u21.1)), (t2, .inl (cI, 9, .inl u21.2))]) [0, 1, 2, 3] rfl
    have hD := hD.sub (ws' := [(x0, .inr (4, [.ref t0, .ref p0, .ref v0, .ref g0, .ref ta])), (t0, .inr (0, [.ref t1, .ref t2])), (t1, .inl (cI, 400, .inl u21.1)), (t2, .inl (cI, 9, .inl u21.2))]) [0, 1, 2, 3] (by decide) rfl
    exact zz_iretW (v := r21) (w1 := fun u : ((Nat → Int32) × (Nat → Int32)) => [(x0, .inr (4, [.ref t0, .ref p0, .ref v0, .ref g0, .ref ta])), (t0, .inr (0, [.ref t1, .ref t2])), (t1, .inl (cI, 400, .inl u.1)), (t2, .inl (cI, 9, .inl u.2))]) (u21.1, u21.2) hx hb hr hlocks (Or.inr ⟨ss, pp, oo, hss, hpp, hoo, ess, epp, eoo, by
      rcases hq21 with ⟨a, b, c, d⟩ | ⟨a, ⟨b, c, d⟩ | ⟨b, c, d⟩⟩
      · exact Or.inl ⟨hmem.mp ⟨a, b⟩, c, d⟩
      · exact Or.inr (Or.inl ⟨fun q => a (hmem.mpr q), b, c, d⟩)
      · exact Or.inr (Or.inr ⟨fun q => a (hmem.mpr q), b, c, k, hk, d⟩)⟩) hP hK hD hS dX_triple_24
  · -- not taken
    have c6 : (inr_ 256 s1 && inr_ 8 p1 && inr_ 256 o1).toNat = 0 := (nI_eq (a := (inr_ 256 s1 && inr_ 8 p1 && inr_ 256 o1).toNat) (b := 0) (by omega) (by omega)).mp c6
    have hb1 : (inr_ 256 s1 && inr_ 8 p1 && inr_ 256 o1) = false := bt0 (by omega)
    refine lv_iconst (v := (-1)) hx hb dX_triple_9 (by decide) ?_
    exact zz_iretW (v := (-1)) (w1 := fun u : ((Nat → Int32) × (Nat → Int32)) => [(x0, .inr (4, [.ref t0, .ref p0, .ref v0, .ref g0, .ref ta])), (t0, .inr (0, [.ref t1, .ref t2])), (t1, .inl (cI, 400, .inl u.1)), (t2, .inl (cI, 9, .inl u.2))]) (f, g) hx hb hr hlocks (Or.inl ⟨hb1, rfl, hT⟩) hP hK hD hS dX_triple_10

abbrev rm_X_drop : Room := { frames := 3, cells := 0, slots := 0, locals := 68 }
set_option maxHeartbeats 4000000 in
set_option maxRecDepth 100000 in
theorem c_X_drop (l : Launch) (D : va_G) (cI cB : ClassId) (sz : Nat) (x0 t0 t1 t2 p0 v0 g0 ta : Nat) (f g : Nat → Int32) (Ls : Nat → List Nat) (hT : RT Ls f g) (s1 p1 o1 : Int32) : Met l yX_drop wX_drop rm_X_drop (zz_P D vwCl [(cI, .int), (cB, .boolean)] [.ref x0, .int s1, .int p1, .int o1] [(x0, .inr (4, [.ref t0, .ref p0, .ref v0, .ref g0, .ref ta])), (t0, .inr (0, [.ref t1, .ref t2])), (t1, .inl (cI, 400, .inl f)), (t2, .inl (cI, 9, .inl g))] sz) (va_Qi (fun (r : Int32) (u : ((Nat → Int32) × (Nat → Int32))) => ((inr_ 256 s1 && inr_ 8 p1 && inr_ 256 o1) = false ∧ r = -1 ∧ RT Ls u.1 u.2) ∨ ∃ ss pp oo, ss < 256 ∧ pp < 8 ∧ oo < 256 ∧ s1 = nI ss ∧ p1 = nI pp ∧ o1 = nI oo ∧ (((256 * ss + oo ∉ Ls pp) ∧ r = nI 0 ∧ RT Ls u.1 u.2) ∨ ((256 * ss + oo ∈ Ls pp) ∧ r = nI 1 ∧ ∃ k, k < (Ls pp).length ∧ (Ls pp).getD k 0 = 256 * ss + oo ∧ RT (tr_del Ls pp k) u.1 u.2))) (fun u : ((Nat → Int32) × (Nat → Int32)) => zz_B D vwCl [(cI, .int), (cB, .boolean)] (va_A [(x0, .inr (4, [.ref t0, .ref p0, .ref v0, .ref g0, .ref ta])), (t0, .inr (0, [.ref t1, .ref t2])), (t1, .inl (cI, 400, .inl f)), (t2, .inl (cI, 9, .inl g))] sz) [(x0, .inr (4, [.ref t0, .ref p0, .ref v0, .ref g0, .ref ta])), (t0, .inr (0, [.ref t1, .ref t2])), (t1, .inl (cI, 400, .inl u.1)), (t2, .inl (cI, 9, .inl u.2))]) (va_A [(x0, .inr (4, [.ref t0, .ref p0, .ref v0, .ref g0, .ref ta])), (t0, .inr (0, [.ref t1, .ref t2])), (t1, .inl (cI, 400, .inl f)), (t2, .inl (cI, 9, .inl g))] sz)) 0 0 (va_A [(x0, .inr (4, [.ref t0, .ref p0, .ref v0, .ref g0, .ref ta])), (t0, .inr (0, [.ref t1, .ref t2])), (t1, .inl (cI, 400, .inl f)), (t2, .inl (cI, 9, .inl g))] sz) := by
  refine Met.ofW (cc := cX_drop) (maxL := 4) (ret := (some .int)) (by decide) rfl ?_
  intro pg ev s mt args below meth kd s₁ B hml hv
  obtain ⟨rfl, hsz, hP, hK, hD0, hN⟩ := hv
  have hx := B.exec
  have hb := B.bytes
  have hr := B.returns
  have ht : ∀ w ∈ W0, w.before _ s = true := fun w h => atoms_spec (ws := wX_drop) B.pre w (List.mem_cons_of_mem _ h)
  have hown : s.vm.findClass "StatRows" = some mt.cls := findClass_of_methodNamed B.named
  have hlocks := B.notSynchronized
  subst hsz
  have hD := hD0.self (sz := s.heap.size)
  generalize hAe : va_A [(x0, .inr (4, [.ref t0, .ref p0, .ref v0, .ref g0, .ref ta])), (t0, .inr (0, [.ref t1, .ref t2])), (t1, .inl (cI, 400, .inl f)), (t2, .inl (cI, 9, .inl g))] s.heap.size = A at hD ⊢
  have hA : ∀ q : Nat, s.heap.size ≤ q → A q := fun q h => by rw [← hAe]; exact Or.inr h
  have hS : va_S A s.heap s.heap [] := va_S.rf
  have hP : va_P D vwCl [(x0, .inr (4, [.ref t0, .ref p0, .ref v0, .ref g0, .ref ta])), (t0, .inr (0, [.ref t1, .ref t2])), (t1, .inl (cI, 400, .inl f)), (t2, .inl (cI, 9, .inl g))] s.heap := hP
  have hl := lv_entry ([.ref x0, .int s1, .int p1, .int o1]) (n := 4) (Nat.le_of_ble_eq_true rfl)
  rw [lg_entry_eq]
  generalize (lg_sl ([.ref x0, .int s1, .int p1, .int o1]) ++ List.replicate (4 - (lg_sl ([.ref x0, .int s1, .int p1, .int o1])).length) Slot.unset).toArray = ls at hl ⊢
  have hl : lv_has ls 4 [(0, .ref x0), (1, .int s1), (2, .int p1), (3, .int o1)] := hl
  have h400 := hT.2.2.1
  have bl0 := btl ((inr_ 256 s1 && inr_ 8 p1 && inr_ 256 o1))
  refine lv_iload_n hx hb dX_drop_0 rfl (lv_at hl 1 rfl) ?_
  refine lv_iload_n hx hb dX_drop_1 rfl (lv_at hl 2 rfl) ?_
  refine lv_iload_n hx hb dX_drop_2 rfl (lv_at hl 3 rfl) ?_
  refine zz_ci (v := nI ((inr_ 256 s1 && inr_ 8 p1 && inr_ 256 o1).toNat)) (W.runS (As := [.int s1, .int p1, .int o1]) (rest := []) ⟨hx, hb, hml, hown, ht⟩ (c_X_isTriple l s1 p1 o1) (va_cwS 3 ht (gd_S wd97 wd98 wd1 wd99) rfl rfl rfl (by decide +kernel) ⟨Nat.le_of_ble_eq_true rfl, Nat.le_of_ble_eq_true rfl⟩) zz_N_S rfl rfl hl.1 rfl (lv_room (Nat.le_of_ble_eq_true rfl)) dX_drop_3 ⟨Nat.le_of_ble_eq_true rfl, Nat.le_of_ble_eq_true rfl⟩) ?_
  refine lv_if_ne (tgt := 11) hx hb dX_drop_6 (by decide) (fun c6 => ?_) (fun c6 => ?_)
  · -- taken
    have c6 : ¬ ((inr_ 256 s1 && inr_ 8 p1 && inr_ 256 o1).toNat = 0) := fun h => c6 ((nI_eq (a := (inr_ 256 s1 && inr_ 8 p1 && inr_ 256 o1).toNat) (b := 0) (by omega) (by omega)).mpr h)
    have hb1 := bt1 c6
    simp only [Bool.and_eq_true] at hb1
    obtain ⟨⟨hb2, hb3⟩, hb4⟩ := hb1
    obtain ⟨ss, hss, ess⟩ := inr_t (by decide) hb2
    rw [ess] at hl
    obtain ⟨pp, hpp, epp⟩ := inr_t (by decide) hb3
    rw [epp] at hl
    obtain ⟨oo, hoo, eoo⟩ := inr_t (by decide) hb4
    rw [eoo] at hl
    obtain ⟨k, hk, h1, h2⟩ := tr_place (Ls pp) (256 * ss + oo)
    have hmem := tr_mem (hT.2.2.2.2 pp hpp) h1 h2
    refine lv_aload_n hx hb dX_drop_11 rfl (lv_at hl 0 rfl) ?_
    refine va_get (D := D) (ci := 4) (v := .ref t0) (C := "StatRows") (T := TX) (N := 5) hx hb ht inX hown hK hP 0 rfl rfl 0 (by decide) (ht _ wd77) (fun _ h9 => h9) rfl dX_drop_12 ?_
    refine lv_iload_n hx hb dX_drop_15 rfl (lv_at hl 2 rfl) ?_
    refine lv_iload_n hx hb dX_drop_16 rfl (lv_at hl 1 rfl) ?_
    refine lv_iload_n hx hb dX_drop_17 rfl (lv_at hl 3 rfl) ?_
    refine zz_ci (v := nI (256 * ss + oo)) (W.runS (As := [.int (nI ss), .int (nI oo)]) (rest := [.int (nI pp), .ref t0]) ⟨hx, hb, hml, hown, ht⟩ (c_X_pair l ss oo) (va_cwS 2 ht (gd_S wd106 wd107 wd1 wd108) rfl rfl rfl (by decide +kernel) ⟨Nat.le_of_ble_eq_true rfl, Nat.le_of_ble_eq_true rfl⟩) zz_N_S rfl rfl hl.1 rfl (lv_room (Nat.le_of_ble_eq_true rfl)) dX_drop_18 ⟨Nat.le_of_ble_eq_true rfl, Nat.le_of_ble_eq_true rfl⟩) ?_
    refine zz_wi (wc := [(t0, .inr (0, [.ref t1, .ref t2])), (t1, .inl (cI, 400, .inl f)), (t2, .inl (cI, 9, .inl g))]) (wr := [(x0, .inr (4, [.ref t0, .ref p0, .ref v0, .ref g0, .ref ta]))]) (va_runV (As := [.int (nI pp), .int (nI (256 * ss + oo))]) (rest := []) ⟨hx, hb, hml, hown, ht⟩ (c_T_remove l D cI cB s.heap.size t0 t1 t2 f g Ls hT pp (256 * ss + oo) k hpp (by omega) hk h1 h2) (cwV 2 ht (gd_V wd144 wd145 wd146 wd2 wd147) rfl rfl rfl (by decide +kernel) ⟨Nat.le_of_ble_eq_true rfl, Nat.le_of_ble_eq_true rfl⟩) (zz_P_V hN hK (hP.sub (ws' := [(t0, .inr (0, [.ref t1, .ref t2])), (t1, .inl (cI, 400, .inl f)), (t2, .inl (cI, 9, .inl g))]) [1, 2, 3] rfl) (hD.sub (ws' := [(t0, .inr (0, [.ref t1, .ref t2])), (t1, .inl (cI, 400, .inl f)), (t2, .inl (cI, 9, .inl g))]) [1, 2, 3] (by decide) rfl) 0 0 rfl rfl) rfl rfl hl.1 rfl (lv_room (Nat.le_of_ble_eq_true rfl)) dX_drop_21 ⟨Nat.le_of_ble_eq_true rfl, Nat.le_of_ble_eq_true rfl⟩) hP hD hS hA [1, 2, 3] [0] rfl rfl (by decide) (by decide) (fun r21 u21 H locs hq21 hP hD hS => ?_)
    have hP := hP.sub (ws' := [(x0, .inr (4, [.ref t0, .ref p0, .ref v0, .ref g0, .ref ta])), (t0, .inr (0, [.ref t1, .ref t2])), (t1, .inl (cI, 400, .inl u21.1)), (t2, .inl (cI, 9, .inl u21.2))]) [0, 1, 2, 3] rfl
    have hD := hD.sub (ws' := [(x0, .inr (4, [.ref t0, .ref p0, .ref v0, .ref g0, .ref ta])), (t0, .inr (0, [.ref t1, .ref t2])), (t1, .inl (cI, 400, .inl u21.1)), (t2, .inl (cI, 9, .inl u21.2))]) [0, 1, 2, 3] (by decide) rfl
    exact zz_iretW (v := r21) (w1 := fun u : ((Nat → Int32) × (Nat → Int32)) => [(x0, .inr (4, [.ref t0, .ref p0, .ref v0, .ref g0, .ref ta])), (t0, .inr (0, [.ref t1, .ref t2])), (t1, .inl (cI, 400, .inl u.1)), (t2, .inl (cI, 9, .inl u.2))]) (u21.1, u21.2) hx hb hr hlocks (Or.inr ⟨ss, pp, oo, hss, hpp, hoo, ess, epp, eoo, by
      rcases hq21 with ⟨a, b, c, d⟩ | ⟨a, c, d⟩
      · exact Or.inr ⟨hmem.mp ⟨a, b⟩, c, k, a, b, d⟩
      · exact Or.inl ⟨fun q => a (hmem.mpr q), c, d⟩⟩) hP hK hD hS dX_drop_24
  · -- not taken
    have c6 : (inr_ 256 s1 && inr_ 8 p1 && inr_ 256 o1).toNat = 0 := (nI_eq (a := (inr_ 256 s1 && inr_ 8 p1 && inr_ 256 o1).toNat) (b := 0) (by omega) (by omega)).mp c6
    have hb1 : (inr_ 256 s1 && inr_ 8 p1 && inr_ 256 o1) = false := bt0 (by omega)
    refine lv_iconst (v := (-1)) hx hb dX_drop_9 (by decide) ?_
    exact zz_iretW (v := (-1)) (w1 := fun u : ((Nat → Int32) × (Nat → Int32)) => [(x0, .inr (4, [.ref t0, .ref p0, .ref v0, .ref g0, .ref ta])), (t0, .inr (0, [.ref t1, .ref t2])), (t1, .inl (cI, 400, .inl u.1)), (t2, .inl (cI, 9, .inl u.2))]) (f, g) hx hb hr hlocks (Or.inl ⟨hb1, rfl, hT⟩) hP hK hD hS dX_drop_10
end
section
theorem kin {x : Int32} (h1 : ¬ x < nI 1) (h2 : ¬ nI 8 < x) : ∃ j, 1 ≤ j ∧ j ≤ 8 ∧ x = nI j := by
  have a : ¬ x.toInt < (nI 1).toInt := fun q => h1 (Int32.lt_iff_toInt_lt.mpr q)
  have b : ¬ (nI 8).toInt < x.toInt := fun q => h2 (Int32.lt_iff_toInt_lt.mpr q)
  have e1 : (nI 1).toInt = 1 := rfl
  have e8 : (nI 8).toInt = 8 := rfl
  refine ⟨x.toInt.toNat, by omega, by omega, Int32.toInt_inj.mp ?_⟩
  rw [nI_toInt (by omega)]; omega
theorem i_le {x y : Int32} : x ≤ y ↔ ¬ y < x := by rw [Int32.le_iff_toInt_le, Int32.lt_iff_toInt_lt]; omega
theorem clt_le (xs : List Nat) (o : Nat) : clt xs o ≤ xs.length := List.countP_le_length
theorem okf_f (c : Nat) : okf false c = true := rfl
theorem rgs_le (xs : List Nat) (fr to : Int32) (n : Nat) : rgs xs fr to n ≤ xs.length * n := by
  induction n with
  | zero => exact Nat.zero_le _
  | succ n ih =>
    rw [rgs_s, Nat.mul_succ]
    have h1 : xs.countP (fun c => btw (nI (32 * n)) (nI (32 * n + 31)) (obj_ c)) * many (32 * n) fr to ≤ xs.length * 32 := Nat.mul_le_mul List.countP_le_length (many_le _ _ _)
    omega
theorem len_pos {k n : Nat} (h : ¬ k * n = 0) : 0 < n := Nat.pos_of_ne_zero (fun q => h (by rw [q, Nat.mul_zero]))
end
section
abbrev rm_X_quantile : Room := { frames := 3, cells := 0, slots := 0, locals := 67 }
set_option maxHeartbeats 4000000 in
set_option maxRecDepth 100000 in
theorem c_X_quantile (l : Launch) (D : va_G) (cI cB : ClassId) (sz : Nat) (x0 t0 t1 t2 p0 v0 g0 ta : Nat) (f g : Nat → Int32) (Ls : Nat → List Nat) (hT : RT Ls f g) (tl : Nat → Int32) (p1 k1 : Int32) : Met l yX_quantile wX_quantile rm_X_quantile (zz_P D vwCl [(cI, .int), (cB, .boolean)] [.ref x0, .int p1, .int k1] [(x0, .inr (4, [.ref t0, .ref p0, .ref v0, .ref g0, .ref ta])), (t0, .inr (0, [.ref t1, .ref t2])), (t1, .inl (cI, 400, .inl f)), (t2, .inl (cI, 9, .inl g)), (ta, .inl (cI, 256, .inl tl))] sz) (va_Qi (fun (r : Int32) (u : (Nat → Int32)) => (¬ (inr_ 8 p1 = true ∧ ¬ k1 < nI 1 ∧ ¬ nI 8 < k1) ∧ r = -1) ∨ ∃ pp kk, pp < 8 ∧ 1 ≤ kk ∧ kk ≤ 8 ∧ p1 = nI pp ∧ k1 = nI kk ∧ (((Ls pp).length = 0 ∧ r = -2) ∨ (0 < (Ls pp).length ∧ ∃ o, o < 256 ∧ r = nI o ∧ (∀ j, j < o → 8 * clt (Ls pp) (j + 1) < kk * (Ls pp).length) ∧ kk * (Ls pp).length ≤ 8 * clt (Ls pp) (o + 1)))) (fun u : (Nat → Int32) => zz_B D vwCl [(cI, .int), (cB, .boolean)] (va_A [(x0, .inr (4, [.ref t0, .ref p0, .ref v0, .ref g0, .ref ta])), (t0, .inr (0, [.ref t1, .ref t2])), (t1, .inl (cI, 400, .inl f)), (t2, .inl (cI, 9, .inl g)), (ta, .inl (cI, 256, .inl tl))] sz) [(x0, .inr (4, [.ref t0, .ref p0, .ref v0, .ref g0, .ref ta])), (t0, .inr (0, [.ref t1, .ref t2])), (t1, .inl (cI, 400, .inl f)), (t2, .inl (cI, 9, .inl g)), (ta, .inl (cI, 256, .inl u))]) (va_A [(x0, .inr (4, [.ref t0, .ref p0, .ref v0, .ref g0, .ref ta])), (t0, .inr (0, [.ref t1, .ref t2])), (t1, .inl (cI, 400, .inl f)), (t2, .inl (cI, 9, .inl g)), (ta, .inl (cI, 256, .inl tl))] sz)) 0 0 (va_A [(x0, .inr (4, [.ref t0, .ref p0, .ref v0, .ref g0, .ref ta])), (t0, .inr (0, [.ref t1, .ref t2])), (t1, .inl (cI, 400, .inl f)), (t2, .inl (cI, 9, .inl g)), (ta, .inl (cI, 256, .inl tl))] sz) := by
  refine Met.ofW (cc := cX_quantile) (maxL := 6) (ret := (some .int)) (by decide) rfl ?_
  intro pg ev s mt args below meth kd s₁ B hml hv
  obtain ⟨rfl, hsz, hP, hK, hD0, hN⟩ := hv
  have hx := B.exec
  have hb := B.bytes
  have hr := B.returns
  have ht : ∀ w ∈ W0, w.before _ s = true := fun w h => atoms_spec (ws := wX_quantile) B.pre w (List.mem_cons_of_mem _ h)
  have hown : s.vm.findClass "StatRows" = some mt.cls := findClass_of_methodNamed B.named
  have hlocks := B.notSynchronized
  subst hsz
  have hD := hD0.self (sz := s.heap.size)
  generalize hAe : va_A [(x0, .inr (4, [.ref t0, .ref p0, .ref v0, .ref g0, .ref ta])), (t0, .inr (0, [.ref t1, .ref t2])), (t1, .inl (cI, 400, .inl f)), (t2, .inl (cI, 9, .inl g)), (ta, .inl (cI, 256, .inl tl))] s.heap.size = A at hD ⊢
  have hA : ∀ q : Nat, s.heap.size ≤ q → A q := fun q h => by rw [← hAe]; exact Or.inr h
  have hS : va_S A s.heap s.heap [] := va_S.rf
  have hP : va_P D vwCl [(x0, .inr (4, [.ref t0, .ref p0, .ref v0, .ref g0, .ref ta])), (t0, .inr (0, [.ref t1, .ref t2])), (t1, .inl (cI, 400, .inl f)), (t2, .inl (cI, 9, .inl g)), (ta, .inl (cI, 256, .inl tl))] s.heap := hP
  have hl := lv_entry ([.ref x0, .int p1, .int k1]) (n := 6) (Nat.le_of_ble_eq_true rfl)
  rw [lg_entry_eq]
  generalize (lg_sl ([.ref x0, .int p1, .int k1]) ++ List.replicate (6 - (lg_sl ([.ref x0, .int p1, .int k1])).length) Slot.unset).toArray = ls at hl ⊢
  have hl : lv_has ls 6 [(0, .ref x0), (1, .int p1), (2, .int k1)] := hl
  have h400 := hT.2.2.1
  have bl0 := btl (inr_ 8 p1)
  refine lv_iload_n hx hb dX_quantile_0 rfl (lv_at hl 1 rfl) ?_
  refine zz_ci (v := nI ((inr_ 8 p1).toNat)) (W.runS (As := [.int p1]) (rest := []) ⟨hx, hb, hml, hown, ht⟩ (c_X_isPredicate l p1) (va_cwS 1 ht (gd_S wd103 wd104 wd1 wd105) rfl rfl rfl (by decide +kernel) ⟨Nat.le_of_ble_eq_true rfl, Nat.le_of_ble_eq_true rfl⟩) zz_N_S rfl rfl hl.1 rfl (lv_room (Nat.le_of_ble_eq_true rfl)) dX_quantile_1 ⟨Nat.le_of_ble_eq_true rfl, Nat.le_of_ble_eq_true rfl⟩) ?_
  refine lv_if_eq (tgt := 18) hx hb dX_quantile_4 (by decide) (fun c4 => ?_) (fun c4 => ?_)
  · -- taken
    have c4 : (inr_ 8 p1).toNat = 0 := (nI_eq (a := (inr_ 8 p1).toNat) (b := 0) (by omega) (by omega)).mp c4
    have hbb : ¬ (inr_ 8 p1 = true ∧ ¬ k1 < nI 1 ∧ ¬ nI 8 < k1) := fun q => by rw [bt0 c4] at q; cases q.1
    refine lv_iconst (v := (-1)) hx hb dX_quantile_18 (by decide) ?_
    exact zz_iretW (v := (-1)) (w1 := fun u : (Nat → Int32) => [(x0, .inr (4, [.ref t0, .ref p0, .ref v0, .ref g0, .ref ta])), (t0, .inr (0, [.ref t1, .ref t2])), (t1, .inl (cI, 400, .inl f)), (t2, .inl (cI, 9, .inl g)), (ta, .inl (cI, 256, .inl u))]) tl hx hb hr hlocks (Or.inl ⟨hbb, rfl⟩) hP hK hD hS dX_quantile_19
  · -- not taken
    have c4 : ¬ ((inr_ 8 p1).toNat = 0) := fun h => c4 ((nI_eq (a := (inr_ 8 p1).toNat) (b := 0) (by omega) (by omega)).mpr h)
    have hb1 := bt1 c4
    refine lv_iload_n hx hb dX_quantile_7 rfl (lv_at hl 2 rfl) ?_
    refine lv_iconst (v := nI 1) hx hb dX_quantile_8 (by decide) ?_
    refine lv_icmp_lt (tgt := 18) hx hb dX_quantile_9 (by decide) (fun c9 => ?_) (fun c9 => ?_)
    · -- taken
      have hbb : ¬ (inr_ 8 p1 = true ∧ ¬ k1 < nI 1 ∧ ¬ nI 8 < k1) := fun q => q.2.1 c9
      refine lv_iconst (v := (-1)) hx hb dX_quantile_18 (by decide) ?_
      exact zz_iretW (v := (-1)) (w1 := fun u : (Nat → Int32) => [(x0, .inr (4, [.ref t0, .ref p0, .ref v0, .ref g0, .ref ta])), (t0, .inr (0, [.ref t1, .ref t2])), (t1, .inl (cI, 400, .inl f)), (t2, .inl (cI, 9, .inl g)), (ta, .inl (cI, 256, .inl u))]) tl hx hb hr hlocks (Or.inl ⟨hbb, rfl⟩) hP hK hD hS dX_quantile_19
    · -- not taken
      refine lv_iload_n hx hb dX_quantile_12 rfl (lv_at hl 2 rfl) ?_
      refine lv_bipush (v := nI 8) hx hb dX_quantile_13 (by decide) ?_
      refine lv_icmp_le (tgt := 20) hx hb dX_quantile_15 (by decide) (fun c15 => ?_) (fun c15 => ?_)
      · -- taken
        obtain ⟨pp, hpp, epp⟩ := inr_t (by decide) hb1
        rw [epp] at hl
        obtain ⟨kk, hk1, hk8, ekk⟩ := kin c9 (i_le.mp c15)
        rw [ekk] at hl
        have htp := tr_top (Ls := Ls) hpp
        have hdue : kk * (Ls pp).length ≤ 8 * 400 := Nat.mul_le_mul (by omega) (by omega)
        refine lv_iload_n hx hb dX_quantile_20 rfl (lv_at hl 2 rfl) ?_
        refine lv_aload_n hx hb dX_quantile_21 rfl (lv_at hl 0 rfl) ?_
        refine va_get (D := D) (ci := 4) (v := .ref t0) (C := "StatRows") (T := TX) (N := 5) hx hb ht inX hown hK hP 0 rfl rfl 0 (by decide) (ht _ wd77) (fun _ h9 => h9) rfl dX_quantile_22 ?_
        refine lv_iload_n hx hb dX_quantile_25 rfl (lv_at hl 1 rfl) ?_
        refine zz_ci (v := nI (tr_off Ls pp + (Ls pp).length - tr_off Ls pp)) (W.runV (As := [.int (nI pp)]) (rest := [.int (nI kk)]) ⟨hx, hb, hml, hown, ht⟩ (c_T_sizeOf l D cI cB t0 t1 t2 f g pp (tr_off Ls pp) (tr_off Ls pp + (Ls pp).length) hpp (hT.1 pp (by omega)) (hT.1 (pp + 1) (by omega)) (by omega)) (cwV 1 ht (gd_V wd152 wd153 wd154 wd2 wd155) rfl rfl rfl (by decide +kernel) ⟨Nat.le_of_ble_eq_true rfl, Nat.le_of_ble_eq_true rfl⟩) (zz_R_V hN hK (hP.sub (ws' := [(t0, .inr (0, [.ref t1, .ref t2])), (t1, .inl (cI, 400, .inl f)), (t2, .inl (cI, 9, .inl g))]) [1, 2, 3] rfl) 0 0 rfl rfl) rfl rfl hl.1 rfl (lv_room (Nat.le_of_ble_eq_true rfl)) dX_quantile_26 ⟨Nat.le_of_ble_eq_true rfl, Nat.le_of_ble_eq_true rfl⟩) ?_
        refine zz_top (y := nI ((Ls pp).length)) (congrArg nI (by omega)) ?_
        refine lv_imul hx hb dX_quantile_29 ?_
        refine zz_top (y := nI (kk * ((Ls pp).length))) (pk_mul kk ((Ls pp).length)) ?_
        refine lv_istore_n (lv' := [(3, .int (nI (kk * ((Ls pp).length)))), (0, .ref x0), (1, .int (nI pp)), (2, .int (nI kk))]) hx hb dX_quantile_30 rfl hl (by decide) rfl (fun ls hl => ?_)
        refine lv_iload_n hx hb dX_quantile_31 rfl (lv_at hl 0 rfl) ?_
        refine lv_if_ne (tgt := 38) hx hb dX_quantile_32 (by decide) (fun c32 => ?_) (fun c32 => ?_)
        · -- taken
          have c32 : ¬ (kk * ((Ls pp).length) = 0) := fun h => c32 ((nI_eq (a := kk * ((Ls pp).length)) (b := 0) (by omega) (by omega)).mpr h)
          have hl0 : 0 < (Ls pp).length := len_pos c32
          refine lv_aload_n hx hb dX_quantile_38 rfl (lv_at hl 1 rfl) ?_
          refine lv_iload_n hx hb dX_quantile_39 rfl (lv_at hl 2 rfl) ?_
          refine lv_iconst (v := nI 0) hx hb dX_quantile_40 (by decide) ?_
          refine zz_wv (wc := [(x0, .inr (4, [.ref t0, .ref p0, .ref v0, .ref g0, .ref ta])), (t0, .inr (0, [.ref t1, .ref t2])), (t1, .inl (cI, 400, .inl f)), (t2, .inl (cI, 9, .inl g)), (ta, .inl (cI, 256, .inl tl))]) (wr := []) (va_runV (As := [.int (nI pp), .int (nI 0)]) (rest := []) ⟨hx, hb, hml, hown, ht⟩ (c_X_tallyObjects l D cI cB s.heap.size x0 t0 t1 t2 p0 v0 g0 ta f g Ls hT tl pp hpp false) (cwV 2 ht (gd_V wd185 wd187 wp8 wd1 wd188) rfl rfl rfl (by decide +kernel) ⟨Nat.le_of_ble_eq_true rfl, Nat.le_of_ble_eq_true rfl⟩) (zz_P_V hN hK (hP.sub (ws' := [(x0, .inr (4, [.ref t0, .ref p0, .ref v0, .ref g0, .ref ta])), (t0, .inr (0, [.ref t1, .ref t2])), (t1, .inl (cI, 400, .inl f)), (t2, .inl (cI, 9, .inl g)), (ta, .inl (cI, 256, .inl tl))]) [0, 1, 2, 3, 4] rfl) (hD.sub (ws' := [(x0, .inr (4, [.ref t0, .ref p0, .ref v0, .ref g0, .ref ta])), (t0, .inr (0, [.ref t1, .ref t2])), (t1, .inl (cI, 400, .inl f)), (t2, .inl (cI, 9, .inl g)), (ta, .inl (cI, 256, .inl tl))]) [0, 1, 2, 3, 4] (by decide) rfl) 4 0 rfl rfl) rfl rfl hl.1 rfl (lv_room (Nat.le_of_ble_eq_true rfl)) dX_quantile_41 ⟨Nat.le_of_ble_eq_true rfl, Nat.le_of_ble_eq_true rfl⟩) hP hD hS hA [0, 1, 2, 3, 4] [] rfl rfl (by decide) (by decide) (fun u41 H locs hq41 hP hD hS => ?_)
          have hP := hP.sub (ws' := [(x0, .inr (4, [.ref t0, .ref p0, .ref v0, .ref g0, .ref ta])), (t0, .inr (0, [.ref t1, .ref t2])), (t1, .inl (cI, 400, .inl f)), (t2, .inl (cI, 9, .inl g)), (ta, .inl (cI, 256, .inl u41))]) [0, 1, 2, 3, 4] rfl
          have hD := hD.sub (ws' := [(x0, .inr (4, [.ref t0, .ref p0, .ref v0, .ref g0, .ref ta])), (t0, .inr (0, [.ref t1, .ref t2])), (t1, .inl (cI, 400, .inl f)), (t2, .inl (cI, 9, .inl g)), (ta, .inl (cI, 256, .inl u41))]) [0, 1, 2, 3, 4] (by decide) rfl
          refine lv_iconst (v := nI 0) hx hb dX_quantile_44 (by decide) ?_
          refine lv_istore (lv' := [(4, .int (nI 0)), (3, .int (nI (kk * ((Ls pp).length)))), (0, .ref x0), (1, .int (nI pp)), (2, .int (nI kk))]) hx hb dX_quantile_45 hl (by decide) rfl (fun ls hl => ?_)
          have ez : (0 : Nat) = clt (Ls pp) 0 := (clt_0 _).symm
          rw [show nI 0 = nI (clt (Ls pp) 0) from congrArg nI ez] at hl
          refine lv_iconst (v := nI 0) hx hb dX_quantile_47 (by decide) ?_
          refine lv_istore (lv' := [(5, .int (nI 0)), (4, .int (nI (clt (Ls pp) 0))), (3, .int (nI (kk * ((Ls pp).length)))), (0, .ref x0), (1, .int (nI pp)), (2, .int (nI kk))]) hx hb dX_quantile_48 hl (by decide) rfl (fun ls hl => ?_)
          have lp50 : ∀ (fu : Nat) (o : Nat) (ho : o ≤ 256) (hlt : ∀ j, j < o → 8 * clt (Ls pp) (j + 1) < kk * (Ls pp).length) (hm : 256 - o < fu) (H : Heap) (locs : List Loc) (hP : va_P D vwCl [(x0, .inr (4, [.ref t0, .ref p0, .ref v0, .ref g0, .ref ta])), (t0, .inr (0, [.ref t1, .ref t2])), (t1, .inl (cI, 400, .inl f)), (t2, .inl (cI, 9, .inl g)), (ta, .inl (cI, 256, .inl u41))] H) (hD : va_D A [(x0, .inr (4, [.ref t0, .ref p0, .ref v0, .ref g0, .ref ta])), (t0, .inr (0, [.ref t1, .ref t2])), (t1, .inl (cI, 400, .inl f)), (t2, .inl (cI, 9, .inl g)), (ta, .inl (cI, 256, .inl u41))]) (hS : va_S A s.heap H locs) (ls : Array Slot) (hl : lv_has ls 6 [(0, .ref x0), (3, .int (nI (kk * (Ls pp).length))), (4, .int (nI (clt (Ls pp) o))), (5, .int (nI o))]), W pg l ev (headSpec wX_quantile rm_X_quantile).room s mt (([.ref x0, .int p1, .int k1] : List Value).toArray) below meth kd H locs 0 0 (MQ below (va_Qi (fun (r : Int32) (u : (Nat → Int32)) => (¬ (inr_ 8 p1 = true ∧ ¬ k1 < nI 1 ∧ ¬ nI 8 < k1) ∧ r = -1) ∨ ∃ pp kk, pp < 8 ∧ 1 ≤ kk ∧ kk ≤ 8 ∧ p1 = nI pp ∧ k1 = nI kk ∧ (((Ls pp).length = 0 ∧ r = -2) ∨ (0 < (Ls pp).length ∧ ∃ o, o < 256 ∧ r = nI o ∧ (∀ j, j < o → 8 * clt (Ls pp) (j + 1) < kk * (Ls pp).length) ∧ kk * (Ls pp).length ≤ 8 * clt (Ls pp) (o + 1)))) (fun u : (Nat → Int32) => zz_B D vwCl [(cI, .int), (cB, .boolean)] A [(x0, .inr (4, [.ref t0, .ref p0, .ref v0, .ref g0, .ref ta])), (t0, .inr (0, [.ref t1, .ref t2])), (t1, .inl (cI, 400, .inl f)), (t2, .inl (cI, 9, .inl g)), (ta, .inl (cI, 256, .inl u))]) A) (([.ref x0, .int p1, .int k1] : List Value).toArray) s 0 0 A) (F0 mt 50 ls []) := by
            intro fu
            induction fu with
            | zero => intro o ho hlt hm; exact absurd hm (Nat.not_lt_zero _)
            | succ fu ih50 =>
              intro o ho hlt hm H locs hP hD hS ls hl
              refine lv_iload hx hb dX_quantile_50 (lv_at hl 3 rfl) ?_
              refine lv_sipush (v := nI 256) hx hb dX_quantile_52 (by decide) ?_
              refine lv_icmp_ge (tgt := 88) hx hb dX_quantile_55 (by decide) (fun c55 => ?_) (fun c55 => ?_)
              · -- taken
                have c55 : 256 ≤ o := (nI_leI (a := 256) (b := o) (by omega) (by omega)).mp c55
                exfalso
                have h1 := hlt 255 (by omega)
                rw [show 255 + 1 = 256 from rfl, clt_top] at h1
                have h2 : kk * (Ls pp).length ≤ 8 * (Ls pp).length := Nat.mul_le_mul_right _ hk8
                omega
              · -- not taken
                have c55 : ¬ (256 ≤ o) := fun h => c55 ((nI_leI (a := 256) (b := o) (by omega) (by omega)).mpr h)
                refine lv_iload hx hb dX_quantile_58 (lv_at hl 2 rfl) ?_
                refine lv_aload_n hx hb dX_quantile_60 rfl (lv_at hl 0 rfl) ?_
                refine va_get (D := D) (ci := 4) (v := .ref ta) (C := "StatRows") (T := TX) (N := 5) hx hb ht inX hown hK hP 0 rfl rfl 4 (by decide) (ht _ wd81) (fun _ h9 => h9) rfl dX_quantile_61 ?_
                refine lv_iload hx hb dX_quantile_64 (lv_at hl 3 rfl) ?_
                refine zz_iald (k := o) hx hb hK hP 4 0 rfl rfl (by omega) (by decide) dX_quantile_66 ?_
                refine zz_top (y := nI (0 + (Ls pp).countP (fun c => okf false c && obj_ c == o))) (hq41 o (by omega)) ?_
                refine lv_iadd hx hb dX_quantile_67 ?_
                refine zz_top (y := nI (clt (Ls pp) (o + 1))) ((nI_add _ _).trans (congrArg nI (by rw [clt_s, Nat.zero_add]; rfl))) ?_
                refine lv_istore (lv' := [(4, .int (nI (clt (Ls pp) (o + 1)))), (0, .ref x0), (3, .int (nI (kk * (Ls pp).length))), (5, .int (nI o))]) hx hb dX_quantile_68 hl (by decide) rfl (fun ls hl => ?_)
                refine lv_bipush (v := nI 8) hx hb dX_quantile_70 (by decide) ?_
                refine lv_iload hx hb dX_quantile_72 (lv_at hl 0 rfl) ?_
                refine lv_imul hx hb dX_quantile_74 ?_
                refine zz_top (y := nI (8 * (clt (Ls pp) (o + 1)))) (pk_mul 8 (clt (Ls pp) (o + 1))) ?_
                refine lv_iload_n hx hb dX_quantile_75 rfl (lv_at hl 2 rfl) ?_
                have hcl := clt_le (Ls pp) (o + 1)
                refine lv_icmp_lt (tgt := 82) hx hb dX_quantile_76 (by decide) (fun c76 => ?_) (fun c76 => ?_)
                · -- taken
                  have c76 : 8 * (clt (Ls pp) (o + 1)) < kk * (Ls pp).length := (nI_ltI (a := 8 * (clt (Ls pp) (o + 1))) (b := kk * (Ls pp).length) (by omega) (by omega)).mp c76
                  refine lv_iinc (v := nI (o + 1)) (lv' := [(5, .int (nI (o + 1))), (4, .int (nI (clt (Ls pp) (o + 1)))), (0, .ref x0), (3, .int (nI (kk * (Ls pp).length)))]) hx hb dX_quantile_82 hl (k := 3) rfl (nI_1 o) (by decide) rfl (fun ls hl => ?_)
                  refine lv_goto (tgt := 50) hx hb dX_quantile_85 (by decide) ?_
                  exact ih50 (o + 1) (by omega) (fun j h => by
                    by_cases q : j = o
                    · rw [q]; exact c76
                    · exact hlt j (by omega)) (by omega) _ _ hP hD hS ls (lv_sub hl [2, 3, 1, 0] rfl)
                · -- not taken
                  have c76 : ¬ (8 * (clt (Ls pp) (o + 1)) < kk * (Ls pp).length) := fun h => c76 ((nI_ltI (a := 8 * (clt (Ls pp) (o + 1))) (b := kk * (Ls pp).length) (by omega) (by omega)).mpr h)
                  refine lv_iload hx hb dX_quantile_79 (lv_at hl 3 rfl) ?_
                  exact zz_iretW (v := nI o) (w1 := fun u : (Nat → Int32) => [(x0, .inr (4, [.ref t0, .ref p0, .ref v0, .ref g0, .ref ta])), (t0, .inr (0, [.ref t1, .ref t2])), (t1, .inl (cI, 400, .inl f)), (t2, .inl (cI, 9, .inl g)), (ta, .inl (cI, 256, .inl u))]) u41 hx hb hr hlocks (Or.inr ⟨pp, kk, hpp, hk1, hk8, epp, ekk, Or.inr ⟨hl0, o, by omega, rfl, hlt, by omega⟩⟩) hP hK hD hS dX_quantile_81
          exact lp50 ((256 - 0) + 1) 0 (Nat.zero_le _) (fun j h => absurd h (Nat.not_lt_zero _)) (Nat.lt_succ_self _) _ _ hP hD hS ls (lv_sub hl [3, 2, 1, 0] rfl)
        · -- not taken
          have c32 : kk * ((Ls pp).length) = 0 := (nI_eq (a := kk * ((Ls pp).length)) (b := 0) (by omega) (by omega)).mp c32
          have hl0 : (Ls pp).length = 0 := (Nat.mul_eq_zero.mp (by omega)).resolve_left (by omega)
          refine lv_bipush (v := (-2)) hx hb dX_quantile_35 (by decide) ?_
          exact zz_iretW (v := (-2)) (w1 := fun u : (Nat → Int32) => [(x0, .inr (4, [.ref t0, .ref p0, .ref v0, .ref g0, .ref ta])), (t0, .inr (0, [.ref t1, .ref t2])), (t1, .inl (cI, 400, .inl f)), (t2, .inl (cI, 9, .inl g)), (ta, .inl (cI, 256, .inl u))]) tl hx hb hr hlocks (Or.inr ⟨pp, kk, hpp, hk1, hk8, epp, ekk, Or.inl ⟨hl0, rfl⟩⟩) hP hK hD hS dX_quantile_37
      · -- not taken
        have hbb : ¬ (inr_ 8 p1 = true ∧ ¬ k1 < nI 1 ∧ ¬ nI 8 < k1) := fun q => c15 (i_le.mpr q.2.2)
        refine lv_iconst (v := (-1)) hx hb dX_quantile_18 (by decide) ?_
        exact zz_iretW (v := (-1)) (w1 := fun u : (Nat → Int32) => [(x0, .inr (4, [.ref t0, .ref p0, .ref v0, .ref g0, .ref ta])), (t0, .inr (0, [.ref t1, .ref t2])), (t1, .inl (cI, 400, .inl f)), (t2, .inl (cI, 9, .inl g)), (ta, .inl (cI, 256, .inl u))]) tl hx hb hr hlocks (Or.inl ⟨hbb, rfl⟩) hP hK hD hS dX_quantile_19

abbrev rm_X_register : Room := { frames := 3, cells := 0, slots := 0, locals := 76 }
set_option maxHeartbeats 4000000 in
set_option maxRecDepth 100000 in
theorem c_X_register (l : Launch) (D : va_G) (cI cB : ClassId) (sz : Nat) (x0 t0 t1 t2 p0 v0 g0 ta g1 : Nat) (f g : Nat → Int32) (Ls : Nat → List Nat) (hT : RT Ls f g) (tl rk : Nat → Int32) (b1 i1 : Int32) : Met l yX_register wX_register rm_X_register (zz_P D vwCl [(cI, .int), (cB, .boolean)] [.ref x0, .int b1, .int i1] [(x0, .inr (4, [.ref t0, .ref p0, .ref v0, .ref g0, .ref ta])), (t0, .inr (0, [.ref t1, .ref t2])), (t1, .inl (cI, 400, .inl f)), (t2, .inl (cI, 9, .inl g)), (ta, .inl (cI, 256, .inl tl)), (g0, .inr (3, [.ref g1])), (g1, .inl (cI, 16, .inl rk))] sz) (va_Qi (fun (r : Int32) (u : ((Nat → Int32) × (Nat → Int32))) => (¬ (inr_ 256 b1 = true ∧ ¬ i1 < 0 ∧ i1 < nI 16) ∧ r = -1) ∨ ∃ bb ii, bb < 256 ∧ ii < 16 ∧ b1 = nI bb ∧ i1 = nI ii ∧ r = nI (rkf (fun v => anyb Ls bb v 8) ii 256)) (fun u : ((Nat → Int32) × (Nat → Int32)) => zz_B D vwCl [(cI, .int), (cB, .boolean)] (va_A [(x0, .inr (4, [.ref t0, .ref p0, .ref v0, .ref g0, .ref ta])), (t0, .inr (0, [.ref t1, .ref t2])), (t1, .inl (cI, 400, .inl f)), (t2, .inl (cI, 9, .inl g)), (ta, .inl (cI, 256, .inl tl)), (g0, .inr (3, [.ref g1])), (g1, .inl (cI, 16, .inl rk))] sz) [(x0, .inr (4, [.ref t0, .ref p0, .ref v0, .ref g0, .ref ta])), (t0, .inr (0, [.ref t1, .ref t2])), (t1, .inl (cI, 400, .inl f)), (t2, .inl (cI, 9, .inl g)), (ta, .inl (cI, 256, .inl u.1)), (g0, .inr (3, [.ref g1])), (g1, .inl (cI, 16, .inl u.2))]) (va_A [(x0, .inr (4, [.ref t0, .ref p0, .ref v0, .ref g0, .ref ta])), (t0, .inr (0, [.ref t1, .ref t2])), (t1, .inl (cI, 400, .inl f)), (t2, .inl (cI, 9, .inl g)), (ta, .inl (cI, 256, .inl tl)), (g0, .inr (3, [.ref g1])), (g1, .inl (cI, 16, .inl rk))] sz)) 0 0 (va_A [(x0, .inr (4, [.ref t0, .ref p0, .ref v0, .ref g0, .ref ta])), (t0, .inr (0, [.ref t1, .ref t2])), (t1, .inl (cI, 400, .inl f)), (t2, .inl (cI, 9, .inl g)), (ta, .inl (cI, 256, .inl tl)), (g0, .inr (3, [.ref g1])), (g1, .inl (cI, 16, .inl rk))] sz) := by
  refine Met.ofW (cc := cX_register) (maxL := 3) (ret := (some .int)) (by decide) rfl ?_
  intro pg ev s mt args below meth kd s₁ B hml hv
  obtain ⟨rfl, hsz, hP, hK, hD0, hN⟩ := hv
  have hx := B.exec
  have hb := B.bytes
  have hr := B.returns
  have ht : ∀ w ∈ W0, w.before _ s = true := fun w h => atoms_spec (ws := wX_register) B.pre w (List.mem_cons_of_mem _ h)
  have hown : s.vm.findClass "StatRows" = some mt.cls := findClass_of_methodNamed B.named
  have hlocks := B.notSynchronized
  subst hsz
  have hD := hD0.self (sz := s.heap.size)
  generalize hAe : va_A [(x0, .inr (4, [.ref t0, .ref p0, .ref v0, .ref g0, .ref ta])), (t0, .inr (0, [.ref t1, .ref t2])), (t1, .inl (cI, 400, .inl f)), (t2, .inl (cI, 9, .inl g)), (ta, .inl (cI, 256, .inl tl)), (g0, .inr (3, [.ref g1])), (g1, .inl (cI, 16, .inl rk))] s.heap.size = A at hD ⊢
  have hA : ∀ q : Nat, s.heap.size ≤ q → A q := fun q h => by rw [← hAe]; exact Or.inr h
  have hS : va_S A s.heap s.heap [] := va_S.rf
  have hP : va_P D vwCl [(x0, .inr (4, [.ref t0, .ref p0, .ref v0, .ref g0, .ref ta])), (t0, .inr (0, [.ref t1, .ref t2])), (t1, .inl (cI, 400, .inl f)), (t2, .inl (cI, 9, .inl g)), (ta, .inl (cI, 256, .inl tl)), (g0, .inr (3, [.ref g1])), (g1, .inl (cI, 16, .inl rk))] s.heap := hP
  have hl := lv_entry ([.ref x0, .int b1, .int i1]) (n := 3) (Nat.le_of_ble_eq_true rfl)
  rw [lg_entry_eq]
  generalize (lg_sl ([.ref x0, .int b1, .int i1]) ++ List.replicate (3 - (lg_sl ([.ref x0, .int b1, .int i1])).length) Slot.unset).toArray = ls at hl ⊢
  have hl : lv_has ls 3 [(0, .ref x0), (1, .int b1), (2, .int i1)] := hl
  have h400 := hT.2.2.1
  have bl0 := btl (inr_ 256 b1)
  refine lv_iload_n hx hb dX_register_0 rfl (lv_at hl 1 rfl) ?_
  refine zz_ci (v := nI ((inr_ 256 b1).toNat)) (W.runS (As := [.int b1]) (rest := []) ⟨hx, hb, hml, hown, ht⟩ (c_X_isPredicateSet l b1) (va_cwS 1 ht (gd_S wd231 wd232 wd1 wd233) rfl rfl rfl (by decide +kernel) ⟨Nat.le_of_ble_eq_true rfl, Nat.le_of_ble_eq_true rfl⟩) zz_N_S rfl rfl hl.1 rfl (lv_room (Nat.le_of_ble_eq_true rfl)) dX_register_1 ⟨Nat.le_of_ble_eq_true rfl, Nat.le_of_ble_eq_true rfl⟩) ?_
  refine lv_if_eq (tgt := 17) hx hb dX_register_4 (by decide) (fun c4 => ?_) (fun c4 => ?_)
  · -- taken
    have c4 : (inr_ 256 b1).toNat = 0 := (nI_eq (a := (inr_ 256 b1).toNat) (b := 0) (by omega) (by omega)).mp c4
    have hnn : ¬ (inr_ 256 b1 = true ∧ ¬ i1 < 0 ∧ i1 < nI 16) := fun q => by rw [bt0 c4] at q; cases q.1
    refine lv_iconst (v := (-1)) hx hb dX_register_17 (by decide) ?_
    exact zz_iretW (v := (-1)) (w1 := fun u : ((Nat → Int32) × (Nat → Int32)) => [(x0, .inr (4, [.ref t0, .ref p0, .ref v0, .ref g0, .ref ta])), (t0, .inr (0, [.ref t1, .ref t2])), (t1, .inl (cI, 400, .inl f)), (t2, .inl (cI, 9, .inl g)), (ta, .inl (cI, 256, .inl u.1)), (g0, .inr (3, [.ref g1])), (g1, .inl (cI, 16, .inl u.2))]) (tl, rk) hx hb hr hlocks (Or.inl ⟨hnn, rfl⟩) hP hK hD hS dX_register_18
  · -- not taken
    have c4 : ¬ ((inr_ 256 b1).toNat = 0) := fun h => c4 ((nI_eq (a := (inr_ 256 b1).toNat) (b := 0) (by omega) (by omega)).mpr h)
    have hb1 := bt1 c4
    refine lv_iload_n hx hb dX_register_7 rfl (lv_at hl 2 rfl) ?_
    refine lv_if_lt (tgt := 17) hx hb dX_register_8 (by decide) (fun c8 => ?_) (fun c8 => ?_)
    · -- taken
      have hnn : ¬ (inr_ 256 b1 = true ∧ ¬ i1 < 0 ∧ i1 < nI 16) := fun q => q.2.1 c8
      refine lv_iconst (v := (-1)) hx hb dX_register_17 (by decide) ?_
      exact zz_iretW (v := (-1)) (w1 := fun u : ((Nat → Int32) × (Nat → Int32)) => [(x0, .inr (4, [.ref t0, .ref p0, .ref v0, .ref g0, .ref ta])), (t0, .inr (0, [.ref t1, .ref t2])), (t1, .inl (cI, 400, .inl f)), (t2, .inl (cI, 9, .inl g)), (ta, .inl (cI, 256, .inl u.1)), (g0, .inr (3, [.ref g1])), (g1, .inl (cI, 16, .inl u.2))]) (tl, rk) hx hb hr hlocks (Or.inl ⟨hnn, rfl⟩) hP hK hD hS dX_register_18
    · -- not taken
      refine lv_iload_n hx hb dX_register_11 rfl (lv_at hl 2 rfl) ?_
      refine lv_bipush (v := nI 16) hx hb dX_register_12 (by decide) ?_
      refine lv_icmp_lt (tgt := 19) hx hb dX_register_14 (by decide) (fun c14 => ?_) (fun c14 => ?_)
      · -- taken
        obtain ⟨bb, hbb, ebb⟩ := inr_t (by decide) hb1
        rw [ebb] at hl
        obtain ⟨ii, hii, eii⟩ := zz_in (n := 16) (by decide) c8 (fun q => (i_le.mp q) c14)
        rw [eii] at hl
        refine lv_aload_n hx hb dX_register_19 rfl (lv_at hl 0 rfl) ?_
        refine lv_iload_n hx hb dX_register_20 rfl (lv_at hl 1 rfl) ?_
        refine zz_wv (wc := [(x0, .inr (4, [.ref t0, .ref p0, .ref v0, .ref g0, .ref ta])), (t0, .inr (0, [.ref t1, .ref t2])), (t1, .inl (cI, 400, .inl f)), (t2, .inl (cI, 9, .inl g)), (ta, .inl (cI, 256, .inl tl))]) (wr := [(g0, .inr (3, [.ref g1])), (g1, .inl (cI, 16, .inl rk))]) (va_runV (As := [.int (nI bb)]) (rest := []) ⟨hx, hb, hml, hown, ht⟩ (c_X_tallySubjectsOfAll l D cI cB s.heap.size x0 t0 t1 t2 p0 v0 g0 ta f g Ls hT tl bb hbb) (cwV 1 ht (gd_V wd234 wd236 wp11 wd1 wd237) rfl rfl rfl (by decide +kernel) ⟨Nat.le_of_ble_eq_true rfl, Nat.le_of_ble_eq_true rfl⟩) (zz_P_V hN hK (hP.sub (ws' := [(x0, .inr (4, [.ref t0, .ref p0, .ref v0, .ref g0, .ref ta])), (t0, .inr (0, [.ref t1, .ref t2])), (t1, .inl (cI, 400, .inl f)), (t2, .inl (cI, 9, .inl g)), (ta, .inl (cI, 256, .inl tl))]) [0, 1, 2, 3, 4] rfl) (hD.sub (ws' := [(x0, .inr (4, [.ref t0, .ref p0, .ref v0, .ref g0, .ref ta])), (t0, .inr (0, [.ref t1, .ref t2])), (t1, .inl (cI, 400, .inl f)), (t2, .inl (cI, 9, .inl g)), (ta, .inl (cI, 256, .inl tl))]) [0, 1, 2, 3, 4] (by decide) rfl) 4 0 rfl rfl) rfl rfl hl.1 rfl (lv_room (Nat.le_of_ble_eq_true rfl)) dX_register_21 ⟨Nat.le_of_ble_eq_true rfl, Nat.le_of_ble_eq_true rfl⟩) hP hD hS hA [0, 1, 2, 3, 4] [5, 6] rfl rfl (by decide) (by decide) (fun u21 H locs hq21 hP hD hS => ?_)
        have hP := hP.sub (ws' := [(x0, .inr (4, [.ref t0, .ref p0, .ref v0, .ref g0, .ref ta])), (t0, .inr (0, [.ref t1, .ref t2])), (t1, .inl (cI, 400, .inl f)), (t2, .inl (cI, 9, .inl g)), (ta, .inl (cI, 256, .inl u21)), (g0, .inr (3, [.ref g1])), (g1, .inl (cI, 16, .inl rk))]) [2, 3, 4, 5, 6, 0, 1] rfl
        have hD := hD.sub (ws' := [(x0, .inr (4, [.ref t0, .ref p0, .ref v0, .ref g0, .ref ta])), (t0, .inr (0, [.ref t1, .ref t2])), (t1, .inl (cI, 400, .inl f)), (t2, .inl (cI, 9, .inl g)), (ta, .inl (cI, 256, .inl u21)), (g0, .inr (3, [.ref g1])), (g1, .inl (cI, 16, .inl rk))]) [2, 3, 4, 5, 6, 0, 1] (by decide) rfl
        refine lv_aload_n hx hb dX_register_24 rfl (lv_at hl 0 rfl) ?_
        refine va_get (D := D) (ci := 4) (v := .ref g0) (C := "StatRows") (T := TX) (N := 5) hx hb ht inX hown hK hP 0 rfl rfl 3 (by decide) (ht _ wd80) (fun _ h9 => h9) rfl dX_register_25 ?_
        refine lv_aload_n hx hb dX_register_28 rfl (lv_at hl 0 rfl) ?_
        refine va_get (D := D) (ci := 4) (v := .ref ta) (C := "StatRows") (T := TX) (N := 5) hx hb ht inX hown hK hP 0 rfl rfl 4 (by decide) (ht _ wd81) (fun _ h9 => h9) rfl dX_register_29 ?_
        refine zz_wv (wc := [(g0, .inr (3, [.ref g1])), (g1, .inl (cI, 16, .inl rk)), (ta, .inl (cI, 256, .inl u21))]) (wr := [(x0, .inr (4, [.ref t0, .ref p0, .ref v0, .ref g0, .ref ta])), (t0, .inr (0, [.ref t1, .ref t2])), (t1, .inl (cI, 400, .inl f)), (t2, .inl (cI, 9, .inl g))]) (va_runV (As := [.ref ta]) (rest := []) ⟨hx, hb, hml, hown, ht⟩ (c_G_tellAll l D cI cB H.size g0 g1 rk ta u21 (fun v => anyb Ls bb v 8) (fun v hv => by rw [hq21 v hv]; exact tsm_iff Ls bb v 8 h400)) (cwV 1 ht (gd_V wd238 wd239 wd240 wd5 wd241) rfl rfl rfl (by decide +kernel) ⟨Nat.le_of_ble_eq_true rfl, Nat.le_of_ble_eq_true rfl⟩) (zz_P_V hN hK (hP.sub (ws' := [(g0, .inr (3, [.ref g1])), (g1, .inl (cI, 16, .inl rk)), (ta, .inl (cI, 256, .inl u21))]) [5, 6, 4] rfl) (hD.sub (ws' := [(g0, .inr (3, [.ref g1])), (g1, .inl (cI, 16, .inl rk)), (ta, .inl (cI, 256, .inl u21))]) [5, 6, 4] (by decide) rfl) 3 0 rfl rfl) rfl rfl hl.1 rfl (lv_room (Nat.le_of_ble_eq_true rfl)) dX_register_32 ⟨Nat.le_of_ble_eq_true rfl, Nat.le_of_ble_eq_true rfl⟩) hP hD hS hA [5, 6, 4] [0, 1, 2, 3] rfl rfl (by decide) (by decide) (fun u32 H locs hq32 hP hD hS => ?_)
        have hP := hP.sub (ws' := [(x0, .inr (4, [.ref t0, .ref p0, .ref v0, .ref g0, .ref ta])), (t0, .inr (0, [.ref t1, .ref t2])), (t1, .inl (cI, 400, .inl f)), (t2, .inl (cI, 9, .inl g)), (ta, .inl (cI, 256, .inl u21)), (g0, .inr (3, [.ref g1])), (g1, .inl (cI, 16, .inl u32))]) [0, 1, 2, 3, 6, 4, 5] rfl
        have hD := hD.sub (ws' := [(x0, .inr (4, [.ref t0, .ref p0, .ref v0, .ref g0, .ref ta])), (t0, .inr (0, [.ref t1, .ref t2])), (t1, .inl (cI, 400, .inl f)), (t2, .inl (cI, 9, .inl g)), (ta, .inl (cI, 256, .inl u21)), (g0, .inr (3, [.ref g1])), (g1, .inl (cI, 16, .inl u32))]) [0, 1, 2, 3, 6, 4, 5] (by decide) rfl
        refine lv_aload_n hx hb dX_register_35 rfl (lv_at hl 0 rfl) ?_
        refine va_get (D := D) (ci := 4) (v := .ref g0) (C := "StatRows") (T := TX) (N := 5) hx hb ht inX hown hK hP 0 rfl rfl 3 (by decide) (ht _ wd80) (fun _ h9 => h9) rfl dX_register_36 ?_
        refine lv_iload_n hx hb dX_register_39 rfl (lv_at hl 2 rfl) ?_
        refine zz_ci (v := u32 ii) (W.runV (As := [.int (nI ii)]) (rest := []) ⟨hx, hb, hml, hown, ht⟩ (c_G_rank l D cI cB g0 g1 u32 ii hii) (cwV 1 ht (gd_V wd254 wd255 wd256 wd5 wd257) rfl rfl rfl (by decide +kernel) ⟨Nat.le_of_ble_eq_true rfl, Nat.le_of_ble_eq_true rfl⟩) (zz_R_V hN hK (hP.sub (ws' := [(g0, .inr (3, [.ref g1])), (g1, .inl (cI, 16, .inl u32))]) [5, 6] rfl) 3 0 rfl rfl) rfl rfl hl.1 rfl (lv_room (Nat.le_of_ble_eq_true rfl)) dX_register_40 ⟨Nat.le_of_ble_eq_true rfl, Nat.le_of_ble_eq_true rfl⟩) ?_
        exact zz_iretW (v := u32 ii) (w1 := fun u : ((Nat → Int32) × (Nat → Int32)) => [(x0, .inr (4, [.ref t0, .ref p0, .ref v0, .ref g0, .ref ta])), (t0, .inr (0, [.ref t1, .ref t2])), (t1, .inl (cI, 400, .inl f)), (t2, .inl (cI, 9, .inl g)), (ta, .inl (cI, 256, .inl u.1)), (g0, .inr (3, [.ref g1])), (g1, .inl (cI, 16, .inl u.2))]) (u21, u32) hx hb hr hlocks (Or.inr ⟨bb, ii, hbb, hii, ebb, eii, hq32 ii hii⟩) hP hK hD hS dX_register_43
      · -- not taken
        have hnn : ¬ (inr_ 256 b1 = true ∧ ¬ i1 < 0 ∧ i1 < nI 16) := fun q => c14 q.2.2
        refine lv_iconst (v := (-1)) hx hb dX_register_17 (by decide) ?_
        exact zz_iretW (v := (-1)) (w1 := fun u : ((Nat → Int32) × (Nat → Int32)) => [(x0, .inr (4, [.ref t0, .ref p0, .ref v0, .ref g0, .ref ta])), (t0, .inr (0, [.ref t1, .ref t2])), (t1, .inl (cI, 400, .inl f)), (t2, .inl (cI, 9, .inl g)), (ta, .inl (cI, 256, .inl u.1)), (g0, .inr (3, [.ref g1])), (g1, .inl (cI, 16, .inl u.2))]) (tl, rk) hx hb hr hlocks (Or.inl ⟨hnn, rfl⟩) hP hK hD hS dX_register_18

abbrev rm_X_distinct : Room := { frames := 3, cells := 0, slots := 0, locals := 76 }
set_option maxHeartbeats 4000000 in
set_option maxRecDepth 100000 in
theorem c_X_distinct (l : Launch) (D : va_G) (cI cB : ClassId) (sz : Nat) (x0 t0 t1 t2 p0 v0 g0 ta g1 : Nat) (f g : Nat → Int32) (Ls : Nat → List Nat) (hT : RT Ls f g) (tl rk : Nat → Int32) (b1 d1 : Int32) : Met l yX_distinct wX_distinct rm_X_distinct (zz_PZ D vwCl [(cI, .int), (cB, .boolean)] [.ref x0, .int b1, .int d1] [(x0, .inr (4, [.ref t0, .ref p0, .ref v0, .ref g0, .ref ta])), (t0, .inr (0, [.ref t1, .ref t2])), (t1, .inl (cI, 400, .inl f)), (t2, .inl (cI, 9, .inl g)), (ta, .inl (cI, 256, .inl tl)), (g0, .inr (3, [.ref g1])), (g1, .inl (cI, 16, .inl rk))] sz) (va_Ql (fun (r : Int64) (u : ((Nat → Int32) × (Nat → Int32))) => (¬ (inr_ 256 b1 = true ∧ ¬ d1 < 0) ∧ r = -1) ∨ ∃ bb dd, bb < 256 ∧ dd < 2 ^ 31 ∧ b1 = nI bb ∧ d1 = nI dd ∧ r = lN (if cnt (fun v => anyb Ls bb v 8) 256 ≤ dd then cnt (fun v => anyb Ls bb v 8) 256 else abt (fun i => rkf (fun v => anyb Ls bb v 8) i 256))) (fun u : ((Nat → Int32) × (Nat → Int32)) => zz_B D vwCl [(cI, .int), (cB, .boolean)] (va_A [(x0, .inr (4, [.ref t0, .ref p0, .ref v0, .ref g0, .ref ta])), (t0, .inr (0, [.ref t1, .ref t2])), (t1, .inl (cI, 400, .inl f)), (t2, .inl (cI, 9, .inl g)), (ta, .inl (cI, 256, .inl tl)), (g0, .inr (3, [.ref g1])), (g1, .inl (cI, 16, .inl rk))] sz) [(x0, .inr (4, [.ref t0, .ref p0, .ref v0, .ref g0, .ref ta])), (t0, .inr (0, [.ref t1, .ref t2])), (t1, .inl (cI, 400, .inl f)), (t2, .inl (cI, 9, .inl g)), (ta, .inl (cI, 256, .inl u.1)), (g0, .inr (3, [.ref g1])), (g1, .inl (cI, 16, .inl u.2))]) (va_A [(x0, .inr (4, [.ref t0, .ref p0, .ref v0, .ref g0, .ref ta])), (t0, .inr (0, [.ref t1, .ref t2])), (t1, .inl (cI, 400, .inl f)), (t2, .inl (cI, 9, .inl g)), (ta, .inl (cI, 256, .inl tl)), (g0, .inr (3, [.ref g1])), (g1, .inl (cI, 16, .inl rk))] sz)) 0 0 (va_A [(x0, .inr (4, [.ref t0, .ref p0, .ref v0, .ref g0, .ref ta])), (t0, .inr (0, [.ref t1, .ref t2])), (t1, .inl (cI, 400, .inl f)), (t2, .inl (cI, 9, .inl g)), (ta, .inl (cI, 256, .inl tl)), (g0, .inr (3, [.ref g1])), (g1, .inl (cI, 16, .inl rk))] sz) := by
  refine Met.ofW (cc := cX_distinct) (maxL := 4) (ret := (some .long)) (by decide) rfl ?_
  intro pg ev s mt args below meth kd s₁ B hml hv
  obtain ⟨⟨rfl, hsz, hP, hK, hD0, hN⟩, hZ⟩ := hv
  have hx := B.exec
  have hb := B.bytes
  have hr := B.returns
  have ht : ∀ w ∈ W0, w.before _ s = true := fun w h => atoms_spec (ws := wX_distinct) B.pre w (List.mem_cons_of_mem _ h)
  have hown : s.vm.findClass "StatRows" = some mt.cls := findClass_of_methodNamed B.named
  have hlocks := B.notSynchronized
  subst hsz
  have hD := hD0.self (sz := s.heap.size)
  generalize hAe : va_A [(x0, .inr (4, [.ref t0, .ref p0, .ref v0, .ref g0, .ref ta])), (t0, .inr (0, [.ref t1, .ref t2])), (t1, .inl (cI, 400, .inl f)), (t2, .inl (cI, 9, .inl g)), (ta, .inl (cI, 256, .inl tl)), (g0, .inr (3, [.ref g1])), (g1, .inl (cI, 16, .inl rk))] s.heap.size = A at hD hZ ⊢
  have hA : ∀ q : Nat, s.heap.size ≤ q → A q := fun q h => by rw [← hAe]; exact Or.inr h
  have hS : va_S A s.heap s.heap [] := va_S.rf
  have hP : va_P D vwCl [(x0, .inr (4, [.ref t0, .ref p0, .ref v0, .ref g0, .ref ta])), (t0, .inr (0, [.ref t1, .ref t2])), (t1, .inl (cI, 400, .inl f)), (t2, .inl (cI, 9, .inl g)), (ta, .inl (cI, 256, .inl tl)), (g0, .inr (3, [.ref g1])), (g1, .inl (cI, 16, .inl rk))] s.heap := hP
  have hl := lv_entry ([.ref x0, .int b1, .int d1]) (n := 4) (Nat.le_of_ble_eq_true rfl)
  rw [lg_entry_eq]
  generalize (lg_sl ([.ref x0, .int b1, .int d1]) ++ List.replicate (4 - (lg_sl ([.ref x0, .int b1, .int d1])).length) Slot.unset).toArray = ls at hl ⊢
  have hl : lv_has ls 4 [(0, .ref x0), (1, .int b1), (2, .int d1)] := hl
  have h400 := hT.2.2.1
  have bl0 := btl (inr_ 256 b1)
  refine lv_iload_n hx hb dX_distinct_0 rfl (lv_at hl 1 rfl) ?_
  refine zz_ci (v := nI ((inr_ 256 b1).toNat)) (W.runS (As := [.int b1]) (rest := []) ⟨hx, hb, hml, hown, ht⟩ (c_X_isPredicateSet l b1) (va_cwS 1 ht (gd_S wd231 wd232 wd1 wd233) rfl rfl rfl (by decide +kernel) ⟨Nat.le_of_ble_eq_true rfl, Nat.le_of_ble_eq_true rfl⟩) zz_N_S rfl rfl hl.1 rfl (lv_room (Nat.le_of_ble_eq_true rfl)) dX_distinct_1 ⟨Nat.le_of_ble_eq_true rfl, Nat.le_of_ble_eq_true rfl⟩) ?_
  refine lv_if_eq (tgt := 11) hx hb dX_distinct_4 (by decide) (fun c4 => ?_) (fun c4 => ?_)
  · -- taken
    have c4 : (inr_ 256 b1).toNat = 0 := (nI_eq (a := (inr_ 256 b1).toNat) (b := 0) (by omega) (by omega)).mp c4
    have hnn : ¬ (inr_ 256 b1 = true ∧ ¬ d1 < 0) := fun q => by rw [bt0 c4] at q; cases q.1
    refine lv_ldc2 (v := (-1)) hx hb hown (ht _ wd206) dX_distinct_11 ?_
    exact zz_lretW (v := (-1)) (w1 := fun u : ((Nat → Int32) × (Nat → Int32)) => [(x0, .inr (4, [.ref t0, .ref p0, .ref v0, .ref g0, .ref ta])), (t0, .inr (0, [.ref t1, .ref t2])), (t1, .inl (cI, 400, .inl f)), (t2, .inl (cI, 9, .inl g)), (ta, .inl (cI, 256, .inl u.1)), (g0, .inr (3, [.ref g1])), (g1, .inl (cI, 16, .inl u.2))]) (tl, rk) hx hb hr hlocks (Or.inl ⟨hnn, rfl⟩) hP hK hD hS dX_distinct_14
  · -- not taken
    have c4 : ¬ ((inr_ 256 b1).toNat = 0) := fun h => c4 ((nI_eq (a := (inr_ 256 b1).toNat) (b := 0) (by omega) (by omega)).mpr h)
    have hb1 := bt1 c4
    refine lv_iload_n hx hb dX_distinct_7 rfl (lv_at hl 2 rfl) ?_
    refine lv_if_ge (tgt := 15) hx hb dX_distinct_8 (by decide) (fun c8 => ?_) (fun c8 => ?_)
    · -- taken
      obtain ⟨bb, hbb, ebb⟩ := inr_t (by decide) hb1
      rw [ebb] at hl
      obtain ⟨dd, hdd, edd⟩ := nI_of (i_le.mp c8)
      rw [edd] at hl
      have hcl := cnt_le (fun v => anyb Ls bb v 8) 256
      refine lv_aload_n hx hb dX_distinct_15 rfl (lv_at hl 0 rfl) ?_
      refine lv_iload_n hx hb dX_distinct_16 rfl (lv_at hl 1 rfl) ?_
      refine zz_wv (wc := [(x0, .inr (4, [.ref t0, .ref p0, .ref v0, .ref g0, .ref ta])), (t0, .inr (0, [.ref t1, .ref t2])), (t1, .inl (cI, 400, .inl f)), (t2, .inl (cI, 9, .inl g)), (ta, .inl (cI, 256, .inl tl))]) (wr := [(g0, .inr (3, [.ref g1])), (g1, .inl (cI, 16, .inl rk))]) (va_runV (As := [.int (nI bb)]) (rest := []) ⟨hx, hb, hml, hown, ht⟩ (c_X_tallySubjectsOfAll l D cI cB s.heap.size x0 t0 t1 t2 p0 v0 g0 ta f g Ls hT tl bb hbb) (cwV 1 ht (gd_V wd234 wd236 wp11 wd1 wd237) rfl rfl rfl (by decide +kernel) ⟨Nat.le_of_ble_eq_true rfl, Nat.le_of_ble_eq_true rfl⟩) (zz_P_V hN hK (hP.sub (ws' := [(x0, .inr (4, [.ref t0, .ref p0, .ref v0, .ref g0, .ref ta])), (t0, .inr (0, [.ref t1, .ref t2])), (t1, .inl (cI, 400, .inl f)), (t2, .inl (cI, 9, .inl g)), (ta, .inl (cI, 256, .inl tl))]) [0, 1, 2, 3, 4] rfl) (hD.sub (ws' := [(x0, .inr (4, [.ref t0, .ref p0, .ref v0, .ref g0, .ref ta])), (t0, .inr (0, [.ref t1, .ref t2])), (t1, .inl (cI, 400, .inl f)), (t2, .inl (cI, 9, .inl g)), (ta, .inl (cI, 256, .inl tl))]) [0, 1, 2, 3, 4] (by decide) rfl) 4 0 rfl rfl) rfl rfl hl.1 rfl (lv_room (Nat.le_of_ble_eq_true rfl)) dX_distinct_17 ⟨Nat.le_of_ble_eq_true rfl, Nat.le_of_ble_eq_true rfl⟩) hP hD hS hA [0, 1, 2, 3, 4] [5, 6] rfl rfl (by decide) (by decide) (fun u17 H locs hq17 hP hD hS => ?_)
      have hP := hP.sub (ws' := [(x0, .inr (4, [.ref t0, .ref p0, .ref v0, .ref g0, .ref ta])), (t0, .inr (0, [.ref t1, .ref t2])), (t1, .inl (cI, 400, .inl f)), (t2, .inl (cI, 9, .inl g)), (ta, .inl (cI, 256, .inl u17)), (g0, .inr (3, [.ref g1])), (g1, .inl (cI, 16, .inl rk))]) [2, 3, 4, 5, 6, 0, 1] rfl
      have hD := hD.sub (ws' := [(x0, .inr (4, [.ref t0, .ref p0, .ref v0, .ref g0, .ref ta])), (t0, .inr (0, [.ref t1, .ref t2])), (t1, .inl (cI, 400, .inl f)), (t2, .inl (cI, 9, .inl g)), (ta, .inl (cI, 256, .inl u17)), (g0, .inr (3, [.ref g1])), (g1, .inl (cI, 16, .inl rk))]) [2, 3, 4, 5, 6, 0, 1] (by decide) rfl
      refine lv_aload_n hx hb dX_distinct_20 rfl (lv_at hl 0 rfl) ?_
      refine zz_ci (v := nI (cnt (fun v => decide (0 < tsm Ls bb v 8)) 256)) (W.runV (As := []) (rest := []) ⟨hx, hb, hml, hown, ht⟩ (c_X_differentInTally l D cI cB x0 t0 t1 t2 p0 v0 g0 ta u17 (fun v => tsm Ls bb v 8) hq17 (fun v _ => by have := tsm_le Ls bb v 8; show tsm Ls bb v 8 < 1000; omega)) (cwV 0 ht (gd_V wd177 wd179 wp6 wd1 wd180) rfl rfl rfl (by decide +kernel) ⟨Nat.le_of_ble_eq_true rfl, Nat.le_of_ble_eq_true rfl⟩) (zz_R_V hN hK (hP.sub (ws' := [(x0, .inr (4, [.ref t0, .ref p0, .ref v0, .ref g0, .ref ta])), (ta, .inl (cI, 256, .inl u17))]) [0, 4] rfl) 4 0 rfl rfl) rfl rfl hl.1 rfl (lv_room (Nat.le_of_ble_eq_true rfl)) dX_distinct_21 ⟨Nat.le_of_ble_eq_true rfl, Nat.le_of_ble_eq_true rfl⟩) ?_
      refine zz_top (y := nI (cnt (fun v => anyb Ls bb v 8) 256)) (congrArg nI (cnt_congr 256 (fun v _ => tsm_pos Ls bb v 8))) ?_
      refine lv_istore_n (lv' := [(3, .int (nI (cnt (fun v => anyb Ls bb v 8) 256))), (0, .ref x0), (1, .int (nI bb)), (2, .int (nI dd))]) hx hb dX_distinct_24 rfl hl (by decide) rfl (fun ls hl => ?_)
      refine lv_iload_n hx hb dX_distinct_25 rfl (lv_at hl 0 rfl) ?_
      refine lv_iload_n hx hb dX_distinct_26 rfl (lv_at hl 3 rfl) ?_
      refine lv_icmp_gt (tgt := 33) hx hb dX_distinct_27 (by decide) (fun c27 => ?_) (fun c27 => ?_)
      · -- taken
        have c27 : dd < cnt (fun v => anyb Ls bb v 8) 256 := (nI_ltI (a := dd) (b := cnt (fun v => anyb Ls bb v 8) 256) (by omega) (by omega)).mp c27
        refine lv_aload_n hx hb dX_distinct_33 rfl (lv_at hl 1 rfl) ?_
        refine va_get (D := D) (ci := 4) (v := .ref g0) (C := "StatRows") (T := TX) (N := 5) hx hb ht inX hown hK hP 0 rfl rfl 3 (by decide) (ht _ wd80) (fun _ h9 => h9) rfl dX_distinct_34 ?_
        refine lv_aload_n hx hb dX_distinct_37 rfl (lv_at hl 1 rfl) ?_
        refine va_get (D := D) (ci := 4) (v := .ref ta) (C := "StatRows") (T := TX) (N := 5) hx hb ht inX hown hK hP 0 rfl rfl 4 (by decide) (ht _ wd81) (fun _ h9 => h9) rfl dX_distinct_38 ?_
        refine zz_wv (wc := [(g0, .inr (3, [.ref g1])), (g1, .inl (cI, 16, .inl rk)), (ta, .inl (cI, 256, .inl u17))]) (wr := [(x0, .inr (4, [.ref t0, .ref p0, .ref v0, .ref g0, .ref ta])), (t0, .inr (0, [.ref t1, .ref t2])), (t1, .inl (cI, 400, .inl f)), (t2, .inl (cI, 9, .inl g))]) (va_runV (As := [.ref ta]) (rest := []) ⟨hx, hb, hml, hown, ht⟩ (c_G_tellAll l D cI cB H.size g0 g1 rk ta u17 (fun v => anyb Ls bb v 8) (fun v hv => by rw [hq17 v hv]; exact tsm_iff Ls bb v 8 h400)) (cwV 1 ht (gd_V wd238 wd239 wd240 wd5 wd241) rfl rfl rfl (by decide +kernel) ⟨Nat.le_of_ble_eq_true rfl, Nat.le_of_ble_eq_true rfl⟩) (zz_P_V hN hK (hP.sub (ws' := [(g0, .inr (3, [.ref g1])), (g1, .inl (cI, 16, .inl rk)), (ta, .inl (cI, 256, .inl u17))]) [5, 6, 4] rfl) (hD.sub (ws' := [(g0, .inr (3, [.ref g1])), (g1, .inl (cI, 16, .inl rk)), (ta, .inl (cI, 256, .inl u17))]) [5, 6, 4] (by decide) rfl) 3 0 rfl rfl) rfl rfl hl.1 rfl (lv_room (Nat.le_of_ble_eq_true rfl)) dX_distinct_41 ⟨Nat.le_of_ble_eq_true rfl, Nat.le_of_ble_eq_true rfl⟩) hP hD hS hA [5, 6, 4] [0, 1, 2, 3] rfl rfl (by decide) (by decide) (fun u41 H locs hq41 hP hD hS => ?_)
        have hP := hP.sub (ws' := [(x0, .inr (4, [.ref t0, .ref p0, .ref v0, .ref g0, .ref ta])), (t0, .inr (0, [.ref t1, .ref t2])), (t1, .inl (cI, 400, .inl f)), (t2, .inl (cI, 9, .inl g)), (ta, .inl (cI, 256, .inl u17)), (g0, .inr (3, [.ref g1])), (g1, .inl (cI, 16, .inl u41))]) [0, 1, 2, 3, 6, 4, 5] rfl
        have hD := hD.sub (ws' := [(x0, .inr (4, [.ref t0, .ref p0, .ref v0, .ref g0, .ref ta])), (t0, .inr (0, [.ref t1, .ref t2])), (t1, .inl (cI, 400, .inl f)), (t2, .inl (cI, 9, .inl g)), (ta, .inl (cI, 256, .inl u17)), (g0, .inr (3, [.ref g1])), (g1, .inl (cI, 16, .inl u41))]) [0, 1, 2, 3, 6, 4, 5] (by decide) rfl
        refine lv_aload_n hx hb dX_distinct_44 rfl (lv_at hl 1 rfl) ?_
        refine va_get (D := D) (ci := 4) (v := .ref g0) (C := "StatRows") (T := TX) (N := 5) hx hb ht inX hown hK hP 0 rfl rfl 3 (by decide) (ht _ wd80) (fun _ h9 => h9) rfl dX_distinct_45 ?_
        refine zz_cl (v := lN (abt (fun i => rkf (fun v => anyb Ls bb v 8) i 256))) (W.runV (As := []) (rest := []) ⟨hx, hb, hml, hown, ht⟩ (c_G_about l D cI cB g0 g1 u41 (fun i => rkf (fun v => anyb Ls bb v 8) i 256) hq41 (fun i _ => rkf_le _ i 256)) (cwV 0 ht (gd_V wd262 wd263 wd264 wd5 wd265) rfl rfl rfl (by decide +kernel) ⟨Nat.le_of_ble_eq_true rfl, Nat.le_of_ble_eq_true rfl⟩) (zz_RZ_V ((hZ.kept hS.2.1).narrow (fun _ h => h.elim)) hN hK (hP.sub (ws' := [(g0, .inr (3, [.ref g1])), (g1, .inl (cI, 16, .inl u41))]) [5, 6] rfl) 3 0 rfl rfl) rfl rfl hl.1 rfl (lv_room (Nat.le_of_ble_eq_true rfl)) dX_distinct_48 ⟨Nat.le_of_ble_eq_true rfl, Nat.le_of_ble_eq_true rfl⟩) ?_
        exact zz_lretW (v := lN (abt (fun i => rkf (fun v => anyb Ls bb v 8) i 256))) (w1 := fun u : ((Nat → Int32) × (Nat → Int32)) => [(x0, .inr (4, [.ref t0, .ref p0, .ref v0, .ref g0, .ref ta])), (t0, .inr (0, [.ref t1, .ref t2])), (t1, .inl (cI, 400, .inl f)), (t2, .inl (cI, 9, .inl g)), (ta, .inl (cI, 256, .inl u.1)), (g0, .inr (3, [.ref g1])), (g1, .inl (cI, 16, .inl u.2))]) (u17, u41) hx hb hr hlocks (Or.inr ⟨bb, dd, hbb, hdd, ebb, edd, by rw [if_neg (by omega)]⟩) hP hK hD hS dX_distinct_51
      · -- not taken
        have c27 : ¬ (dd < cnt (fun v => anyb Ls bb v 8) 256) := fun h => c27 ((nI_ltI (a := dd) (b := cnt (fun v => anyb Ls bb v 8) 256) (by omega) (by omega)).mpr h)
        refine lv_iload_n hx hb dX_distinct_30 rfl (lv_at hl 0 rfl) ?_
        refine lv_i2l (v := lN (cnt (fun v => anyb Ls bb v 8) 256)) hx hb dX_distinct_31 (nI_l (n := cnt (fun v => anyb Ls bb v 8) 256) (by omega)) ?_
        exact zz_lretW (v := lN (cnt (fun v => anyb Ls bb v 8) 256)) (w1 := fun u : ((Nat → Int32) × (Nat → Int32)) => [(x0, .inr (4, [.ref t0, .ref p0, .ref v0, .ref g0, .ref ta])), (t0, .inr (0, [.ref t1, .ref t2])), (t1, .inl (cI, 400, .inl f)), (t2, .inl (cI, 9, .inl g)), (ta, .inl (cI, 256, .inl u.1)), (g0, .inr (3, [.ref g1])), (g1, .inl (cI, 16, .inl u.2))]) (u17, rk) hx hb hr hlocks (Or.inr ⟨bb, dd, hbb, hdd, ebb, edd, by rw [if_pos (by omega)]⟩) hP hK hD hS dX_distinct_32
    · -- not taken
      have hnn : ¬ (inr_ 256 b1 = true ∧ ¬ d1 < 0) := fun q => c8 (i_le.mpr q.2)
      refine lv_ldc2 (v := (-1)) hx hb hown (ht _ wd206) dX_distinct_11 ?_
      exact zz_lretW (v := (-1)) (w1 := fun u : ((Nat → Int32) × (Nat → Int32)) => [(x0, .inr (4, [.ref t0, .ref p0, .ref v0, .ref g0, .ref ta])), (t0, .inr (0, [.ref t1, .ref t2])), (t1, .inl (cI, 400, .inl f)), (t2, .inl (cI, 9, .inl g)), (ta, .inl (cI, 256, .inl u.1)), (g0, .inr (3, [.ref g1])), (g1, .inl (cI, 16, .inl u.2))]) (tl, rk) hx hb hr hlocks (Or.inl ⟨hnn, rfl⟩) hP hK hD hS dX_distinct_14

abbrev rm_X_estimate : Room := { frames := 4, cells := 0, slots := 0, locals := 90 }
set_option maxHeartbeats 4000000 in
set_option maxRecDepth 100000 in
theorem c_X_estimate (l : Launch) (D : va_G) (cI cB : ClassId) (sz : Nat) (x0 t0 t1 t2 p0 v0 g0 ta : Nat) (f g : Nat → Int32) (Ls : Nat → List Nat) (hT : RT Ls f g) (tl : Nat → Int32) (op p1 p2 : Int32) : Met l yX_estimate wX_estimate rm_X_estimate (zz_P D vwCl [(cI, .int), (cB, .boolean)] [.ref x0, .int op, .int p1, .int p2] [(x0, .inr (4, [.ref t0, .ref p0, .ref v0, .ref g0, .ref ta])), (t0, .inr (0, [.ref t1, .ref t2])), (t1, .inl (cI, 400, .inl f)), (t2, .inl (cI, 9, .inl g)), (ta, .inl (cI, 256, .inl tl))] sz) (va_Ql (fun (r : Int64) (u : (Nat → Int32)) => (inr_ 8 p1 = false ∧ r = -1) ∨ ∃ pp, pp < 8 ∧ p1 = nI pp ∧ ((op = nI 3 ∧ r = lN ((Ls pp).length / 3)) ∨ (op ≠ nI 3 ∧ ((inr_ 8 p2 = false ∧ r = -1) ∨ ∃ qq, qq < 8 ∧ p2 = nI qq ∧ (((op ≠ nI 0 ∧ op ≠ nI 1 ∧ op ≠ nI 2 ∧ op ≠ nI 4) ∧ r = -1) ∨ (op = nI 0 ∧ r = lN ((Ls pp).length * (Ls qq).length / max 1 (max (cnt (anyk obj_ (Ls pp)) 256) (cnt (anyk sub_ (Ls qq)) 256)))) ∨ (op = nI 1 ∧ r = lN ((Ls pp).length * (Ls qq).length / max 1 (max (cnt (anyk sub_ (Ls pp)) 256) (cnt (anyk sub_ (Ls qq)) 256)))) ∨ (op = nI 2 ∧ r = lN ((Ls pp).length + (Ls qq).length)) ∨ (op = nI 4 ∧ r = lN (16 * chn true obj_ (Ls pp) (Ls qq)))))))) (fun u : (Nat → Int32) => zz_B D vwCl [(cI, .int), (cB, .boolean)] (va_A [(x0, .inr (4, [.ref t0, .ref p0, .ref v0, .ref g0, .ref ta])), (t0, .inr (0, [.ref t1, .ref t2])), (t1, .inl (cI, 400, .inl f)), (t2, .inl (cI, 9, .inl g)), (ta, .inl (cI, 256, .inl tl))] sz) [(x0, .inr (4, [.ref t0, .ref p0, .ref v0, .ref g0, .ref ta])), (t0, .inr (0, [.ref t1, .ref t2])), (t1, .inl (cI, 400, .inl f)), (t2, .inl (cI, 9, .inl g)), (ta, .inl (cI, 256, .inl u))]) (va_A [(x0, .inr (4, [.ref t0, .ref p0, .ref v0, .ref g0, .ref ta])), (t0, .inr (0, [.ref t1, .ref t2])), (t1, .inl (cI, 400, .inl f)), (t2, .inl (cI, 9, .inl g)), (ta, .inl (cI, 256, .inl tl))] sz)) 0 0 (va_A [(x0, .inr (4, [.ref t0, .ref p0, .ref v0, .ref g0, .ref ta])), (t0, .inr (0, [.ref t1, .ref t2])), (t1, .inl (cI, 400, .inl f)), (t2, .inl (cI, 9, .inl g)), (ta, .inl (cI, 256, .inl tl))] sz) := by
  refine Met.ofW (cc := cX_estimate) (maxL := 4) (ret := (some .long)) (by decide) rfl ?_
  intro pg ev s mt args below meth kd s₁ B hml hv
  obtain ⟨rfl, hsz, hP, hK, hD0, hN⟩ := hv
  have hx := B.exec
  have hb := B.bytes
  have hr := B.returns
  have ht : ∀ w ∈ W0, w.before _ s = true := fun w h => atoms_spec (ws := wX_estimate) B.pre w (List.mem_cons_of_mem _ h)
  have hown : s.vm.findClass "StatRows" = some mt.cls := findClass_of_methodNamed B.named
  have hlocks := B.notSynchronized
  subst hsz
  have hD := hD0.self (sz := s.heap.size)
  generalize hAe : va_A [(x0, .inr (4, [.ref t0, .ref p0, .ref v0, .ref g0, .ref ta])), (t0, .inr (0, [.ref t1, .ref t2])), (t1, .inl (cI, 400, .inl f)), (t2, .inl (cI, 9, .inl g)), (ta, .inl (cI, 256, .inl tl))] s.heap.size = A at hD ⊢
  have hA : ∀ q : Nat, s.heap.size ≤ q → A q := fun q h => by rw [← hAe]; exact Or.inr h
  have hS : va_S A s.heap s.heap [] := va_S.rf
  have hP : va_P D vwCl [(x0, .inr (4, [.ref t0, .ref p0, .ref v0, .ref g0, .ref ta])), (t0, .inr (0, [.ref t1, .ref t2])), (t1, .inl (cI, 400, .inl f)), (t2, .inl (cI, 9, .inl g)), (ta, .inl (cI, 256, .inl tl))] s.heap := hP
  have hl := lv_entry ([.ref x0, .int op, .int p1, .int p2]) (n := 4) (Nat.le_of_ble_eq_true rfl)
  rw [lg_entry_eq]
  generalize (lg_sl ([.ref x0, .int op, .int p1, .int p2]) ++ List.replicate (4 - (lg_sl ([.ref x0, .int op, .int p1, .int p2])).length) Slot.unset).toArray = ls at hl ⊢
  have hl : lv_has ls 4 [(0, .ref x0), (1, .int op), (2, .int p1), (3, .int p2)] := hl
  have h400 := hT.2.2.1
  have bl0 := btl (inr_ 8 p1)
  have bl1 := btl (inr_ 8 p2)
  refine lv_iload_n hx hb dX_estimate_0 rfl (lv_at hl 2 rfl) ?_
  refine zz_ci (v := nI ((inr_ 8 p1).toNat)) (W.runS (As := [.int p1]) (rest := []) ⟨hx, hb, hml, hown, ht⟩ (c_X_isPredicate l p1) (va_cwS 1 ht (gd_S wd103 wd104 wd1 wd105) rfl rfl rfl (by decide +kernel) ⟨Nat.le_of_ble_eq_true rfl, Nat.le_of_ble_eq_true rfl⟩) zz_N_S rfl rfl hl.1 rfl (lv_room (Nat.le_of_ble_eq_true rfl)) dX_estimate_1 ⟨Nat.le_of_ble_eq_true rfl, Nat.le_of_ble_eq_true rfl⟩) ?_
  refine lv_if_ne (tgt := 11) hx hb dX_estimate_4 (by decide) (fun c4 => ?_) (fun c4 => ?_)
  · -- taken
    have c4 : ¬ ((inr_ 8 p1).toNat = 0) := fun h => c4 ((nI_eq (a := (inr_ 8 p1).toNat) (b := 0) (by omega) (by omega)).mpr h)
    have hb1 : inr_ 8 p1 = true := bt1 c4
    obtain ⟨pp, hpp, epp⟩ := inr_t (by decide) hb1
    rw [epp] at hl
    have htp := tr_top (Ls := Ls) hpp
    refine lv_iload_n hx hb dX_estimate_11 rfl (lv_at hl 1 rfl) ?_
    refine lv_iconst (v := nI 3) hx hb dX_estimate_12 (by decide) ?_
    refine lv_icmp_ne (tgt := 28) hx hb dX_estimate_13 (by decide) (fun c13 => ?_) (fun c13 => ?_)
    · -- taken
      refine lv_iload_n hx hb dX_estimate_28 rfl (lv_at hl 3 rfl) ?_
      refine zz_ci (v := nI ((inr_ 8 p2).toNat)) (W.runS (As := [.int p2]) (rest := []) ⟨hx, hb, hml, hown, ht⟩ (c_X_isPredicate l p2) (va_cwS 1 ht (gd_S wd103 wd104 wd1 wd105) rfl rfl rfl (by decide +kernel) ⟨Nat.le_of_ble_eq_true rfl, Nat.le_of_ble_eq_true rfl⟩) zz_N_S rfl rfl hl.1 rfl (lv_room (Nat.le_of_ble_eq_true rfl)) dX_estimate_29 ⟨Nat.le_of_ble_eq_true rfl, Nat.le_of_ble_eq_true rfl⟩) ?_
      refine lv_if_ne (tgt := 39) hx hb dX_estimate_32 (by decide) (fun c32 => ?_) (fun c32 => ?_)
      · -- taken
        have c32 : ¬ ((inr_ 8 p2).toNat = 0) := fun h => c32 ((nI_eq (a := (inr_ 8 p2).toNat) (b := 0) (by omega) (by omega)).mpr h)
        have hb2 := bt1 c32
        obtain ⟨qq, hqq, eqq⟩ := inr_t (by decide) hb2
        rw [eqq] at hl
        have htq := tr_top (Ls := Ls) hqq
        refine lv_iload_n hx hb dX_estimate_39 rfl (lv_at hl 1 rfl) ?_
        by_cases t40_0 : op = nI 0
        · refine zz_top t40_0 ?_
          refine lv_tableIn (tgt := 76) hx hb dX_estimate_40 (by decide) (by decide) (by first | rfl | decide) (by decide) ?_
          refine lv_aload_n hx hb dX_estimate_76 rfl (lv_at hl 0 rfl) ?_
          refine lv_iload_n hx hb dX_estimate_77 rfl (lv_at hl 2 rfl) ?_
          refine lv_iload_n hx hb dX_estimate_78 rfl (lv_at hl 3 rfl) ?_
          refine lv_aload_n hx hb dX_estimate_79 rfl (lv_at hl 0 rfl) ?_
          refine lv_iload_n hx hb dX_estimate_80 rfl (lv_at hl 2 rfl) ?_
          refine zz_wi (wc := [(x0, .inr (4, [.ref t0, .ref p0, .ref v0, .ref g0, .ref ta])), (t0, .inr (0, [.ref t1, .ref t2])), (t1, .inl (cI, 400, .inl f)), (t2, .inl (cI, 9, .inl g)), (ta, .inl (cI, 256, .inl tl))]) (wr := []) (va_runV (As := [.int (nI pp)]) (rest := [.int (nI qq), .int (nI pp), .ref x0]) ⟨hx, hb, hml, hown, ht⟩ (c_X_objectsOf l D cI cB s.heap.size x0 t0 t1 t2 p0 v0 g0 ta f g Ls hT tl pp hpp) (cwV 1 ht (gd_V wd181 wd183 wp7 wd1 wd184) rfl rfl rfl (by decide +kernel) ⟨Nat.le_of_ble_eq_true rfl, Nat.le_of_ble_eq_true rfl⟩) (zz_P_V hN hK (hP.sub (ws' := [(x0, .inr (4, [.ref t0, .ref p0, .ref v0, .ref g0, .ref ta])), (t0, .inr (0, [.ref t1, .ref t2])), (t1, .inl (cI, 400, .inl f)), (t2, .inl (cI, 9, .inl g)), (ta, .inl (cI, 256, .inl tl))]) [0, 1, 2, 3, 4] rfl) (hD.sub (ws' := [(x0, .inr (4, [.ref t0, .ref p0, .ref v0, .ref g0, .ref ta])), (t0, .inr (0, [.ref t1, .ref t2])), (t1, .inl (cI, 400, .inl f)), (t2, .inl (cI, 9, .inl g)), (ta, .inl (cI, 256, .inl tl))]) [0, 1, 2, 3, 4] (by decide) rfl) 4 0 rfl rfl) rfl rfl hl.1 rfl (lv_room (Nat.le_of_ble_eq_true rfl)) dX_estimate_81 ⟨Nat.le_of_ble_eq_true rfl, Nat.le_of_ble_eq_true rfl⟩) hP hD hS hA [0, 1, 2, 3, 4] [] rfl rfl (by decide) (by decide) (fun r81 u81 H locs hq81 hP hD hS => ?_)
          have hP := hP.sub (ws' := [(x0, .inr (4, [.ref t0, .ref p0, .ref v0, .ref g0, .ref ta])), (t0, .inr (0, [.ref t1, .ref t2])), (t1, .inl (cI, 400, .inl f)), (t2, .inl (cI, 9, .inl g)), (ta, .inl (cI, 256, .inl u81))]) [0, 1, 2, 3, 4] rfl
          have hD := hD.sub (ws' := [(x0, .inr (4, [.ref t0, .ref p0, .ref v0, .ref g0, .ref ta])), (t0, .inr (0, [.ref t1, .ref t2])), (t1, .inl (cI, 400, .inl f)), (t2, .inl (cI, 9, .inl g)), (ta, .inl (cI, 256, .inl u81))]) [0, 1, 2, 3, 4] (by decide) rfl
          refine zz_top (y := nI (cnt (anyk obj_ (Ls pp)) 256)) (hq81) ?_
          refine zz_wl (wc := [(x0, .inr (4, [.ref t0, .ref p0, .ref v0, .ref g0, .ref ta])), (t0, .inr (0, [.ref t1, .ref t2])), (t1, .inl (cI, 400, .inl f)), (t2, .inl (cI, 9, .inl g)), (ta, .inl (cI, 256, .inl u81))]) (wr := []) (va_runV (As := [.int (nI pp), .int (nI qq), .int (nI (cnt (anyk obj_ (Ls pp)) 256))]) (rest := []) ⟨hx, hb, hml, hown, ht⟩ (c_X_joinEstimate l D cI cB H.size x0 t0 t1 t2 p0 v0 g0 ta f g Ls hT u81 pp qq (cnt (anyk obj_ (Ls pp)) 256) hpp hqq (cnt_le _ _)) (cwV 3 ht (gd_V wd274 wd276 wp13 wd1 wd277) rfl rfl rfl (by decide +kernel) ⟨Nat.le_of_ble_eq_true rfl, Nat.le_of_ble_eq_true rfl⟩) (zz_P_V hN hK (hP.sub (ws' := [(x0, .inr (4, [.ref t0, .ref p0, .ref v0, .ref g0, .ref ta])), (t0, .inr (0, [.ref t1, .ref t2])), (t1, .inl (cI, 400, .inl f)), (t2, .inl (cI, 9, .inl g)), (ta, .inl (cI, 256, .inl u81))]) [0, 1, 2, 3, 4] rfl) (hD.sub (ws' := [(x0, .inr (4, [.ref t0, .ref p0, .ref v0, .ref g0, .ref ta])), (t0, .inr (0, [.ref t1, .ref t2])), (t1, .inl (cI, 400, .inl f)), (t2, .inl (cI, 9, .inl g)), (ta, .inl (cI, 256, .inl u81))]) [0, 1, 2, 3, 4] (by decide) rfl) 4 0 rfl rfl) rfl rfl hl.1 rfl (lv_room (Nat.le_of_ble_eq_true rfl)) dX_estimate_84 ⟨Nat.le_of_ble_eq_true rfl, Nat.le_of_ble_eq_true rfl⟩) hP hD hS hA [0, 1, 2, 3, 4] [] rfl rfl (by decide) (by decide) (fun r84 u84 H locs hq84 hP hD hS => ?_)
          have hP := hP.sub (ws' := [(x0, .inr (4, [.ref t0, .ref p0, .ref v0, .ref g0, .ref ta])), (t0, .inr (0, [.ref t1, .ref t2])), (t1, .inl (cI, 400, .inl f)), (t2, .inl (cI, 9, .inl g)), (ta, .inl (cI, 256, .inl u84))]) [0, 1, 2, 3, 4] rfl
          have hD := hD.sub (ws' := [(x0, .inr (4, [.ref t0, .ref p0, .ref v0, .ref g0, .ref ta])), (t0, .inr (0, [.ref t1, .ref t2])), (t1, .inl (cI, 400, .inl f)), (t2, .inl (cI, 9, .inl g)), (ta, .inl (cI, 256, .inl u84))]) [0, 1, 2, 3, 4] (by decide) rfl
          exact zz_lretW (v := r84) (w1 := fun u : (Nat → Int32) => [(x0, .inr (4, [.ref t0, .ref p0, .ref v0, .ref g0, .ref ta])), (t0, .inr (0, [.ref t1, .ref t2])), (t1, .inl (cI, 400, .inl f)), (t2, .inl (cI, 9, .inl g)), (ta, .inl (cI, 256, .inl u))]) u84 hx hb hr hlocks (Or.inr ⟨pp, hpp, epp, Or.inr ⟨c13, Or.inr ⟨qq, hqq, eqq, Or.inr (Or.inl ⟨t40_0, hq84⟩)⟩⟩⟩) hP hK hD hS dX_estimate_87
        by_cases t40_1 : op = nI 1
        · refine zz_top t40_1 ?_
          refine lv_tableIn (tgt := 88) hx hb dX_estimate_40 (by decide) (by decide) (by first | rfl | decide) (by decide) ?_
          refine lv_aload_n hx hb dX_estimate_88 rfl (lv_at hl 0 rfl) ?_
          refine lv_iload_n hx hb dX_estimate_89 rfl (lv_at hl 2 rfl) ?_
          refine lv_iload_n hx hb dX_estimate_90 rfl (lv_at hl 3 rfl) ?_
          refine lv_aload_n hx hb dX_estimate_91 rfl (lv_at hl 0 rfl) ?_
          refine lv_iload_n hx hb dX_estimate_92 rfl (lv_at hl 2 rfl) ?_
          refine zz_wi (wc := [(x0, .inr (4, [.ref t0, .ref p0, .ref v0, .ref g0, .ref ta])), (t0, .inr (0, [.ref t1, .ref t2])), (t1, .inl (cI, 400, .inl f)), (t2, .inl (cI, 9, .inl g)), (ta, .inl (cI, 256, .inl tl))]) (wr := []) (va_runV (As := [.int (nI pp)]) (rest := [.int (nI qq), .int (nI pp), .ref x0]) ⟨hx, hb, hml, hown, ht⟩ (c_X_subjectsOf l D cI cB s.heap.size x0 t0 t1 t2 p0 v0 g0 ta f g Ls hT tl pp hpp) (cwV 1 ht (gd_V wd156 wd158 wp3 wd1 wd159) rfl rfl rfl (by decide +kernel) ⟨Nat.le_of_ble_eq_true rfl, Nat.le_of_ble_eq_true rfl⟩) (zz_P_V hN hK (hP.sub (ws' := [(x0, .inr (4, [.ref t0, .ref p0, .ref v0, .ref g0, .ref ta])), (t0, .inr (0, [.ref t1, .ref t2])), (t1, .inl (cI, 400, .inl f)), (t2, .inl (cI, 9, .inl g)), (ta, .inl (cI, 256, .inl tl))]) [0, 1, 2, 3, 4] rfl) (hD.sub (ws' := [(x0, .inr (4, [.ref t0, .ref p0, .ref v0, .ref g0, .ref ta])), (t0, .inr (0, [.ref t1, .ref t2])), (t1, .inl (cI, 400, .inl f)), (t2, .inl (cI, 9, .inl g)), (ta, .inl (cI, 256, .inl tl))]) [0, 1, 2, 3, 4] (by decide) rfl) 4 0 rfl rfl) rfl rfl hl.1 rfl (lv_room (Nat.le_of_ble_eq_true rfl)) dX_estimate_93 ⟨Nat.le_of_ble_eq_true rfl, Nat.le_of_ble_eq_true rfl⟩) hP hD hS hA [0, 1, 2, 3, 4] [] rfl rfl (by decide) (by decide) (fun r93 u93 H locs hq93 hP hD hS => ?_)
          have hP := hP.sub (ws' := [(x0, .inr (4, [.ref t0, .ref p0, .ref v0, .ref g0, .ref ta])), (t0, .inr (0, [.ref t1, .ref t2])), (t1, .inl (cI, 400, .inl f)), (t2, .inl (cI, 9, .inl g)), (ta, .inl (cI, 256, .inl u93))]) [0, 1, 2, 3, 4] rfl
          have hD := hD.sub (ws' := [(x0, .inr (4, [.ref t0, .ref p0, .ref v0, .ref g0, .ref ta])), (t0, .inr (0, [.ref t1, .ref t2])), (t1, .inl (cI, 400, .inl f)), (t2, .inl (cI, 9, .inl g)), (ta, .inl (cI, 256, .inl u93))]) [0, 1, 2, 3, 4] (by decide) rfl
          refine zz_top (y := nI (cnt (anyk sub_ (Ls pp)) 256)) (hq93) ?_
          refine zz_wl (wc := [(x0, .inr (4, [.ref t0, .ref p0, .ref v0, .ref g0, .ref ta])), (t0, .inr (0, [.ref t1, .ref t2])), (t1, .inl (cI, 400, .inl f)), (t2, .inl (cI, 9, .inl g)), (ta, .inl (cI, 256, .inl u93))]) (wr := []) (va_runV (As := [.int (nI pp), .int (nI qq), .int (nI (cnt (anyk sub_ (Ls pp)) 256))]) (rest := []) ⟨hx, hb, hml, hown, ht⟩ (c_X_joinEstimate l D cI cB H.size x0 t0 t1 t2 p0 v0 g0 ta f g Ls hT u93 pp qq (cnt (anyk sub_ (Ls pp)) 256) hpp hqq (cnt_le _ _)) (cwV 3 ht (gd_V wd274 wd276 wp13 wd1 wd277) rfl rfl rfl (by decide +kernel) ⟨Nat.le_of_ble_eq_true rfl, Nat.le_of_ble_eq_true rfl⟩) (zz_P_V hN hK (hP.sub (ws' := [(x0, .inr (4, [.ref t0, .ref p0, .ref v0, .ref g0, .ref ta])), (t0, .inr (0, [.ref t1, .ref t2])), (t1, .inl (cI, 400, .inl f)), (t2, .inl (cI, 9, .inl g)), (ta, .inl (cI, 256, .inl u93))]) [0, 1, 2, 3, 4] rfl) (hD.sub (ws' := [(x0, .inr (4, [.ref t0, .ref p0, .ref v0, .ref g0, .ref ta])), (t0, .inr (0, [.ref t1, .ref t2])), (t1, .inl (cI, 400, .inl f)), (t2, .inl (cI, 9, .inl g)), (ta, .inl (cI, 256, .inl u93))]) [0, 1, 2, 3, 4] (by decide) rfl) 4 0 rfl rfl) rfl rfl hl.1 rfl (lv_room (Nat.le_of_ble_eq_true rfl)) dX_estimate_96 ⟨Nat.le_of_ble_eq_true rfl, Nat.le_of_ble_eq_true rfl⟩) hP hD hS hA [0, 1, 2, 3, 4] [] rfl rfl (by decide) (by decide) (fun r96 u96 H locs hq96 hP hD hS => ?_)
          have hP := hP.sub (ws' := [(x0, .inr (4, [.ref t0, .ref p0, .ref v0, .ref g0, .ref ta])), (t0, .inr (0, [.ref t1, .ref t2])), (t1, .inl (cI, 400, .inl f)), (t2, .inl (cI, 9, .inl g)), (ta, .inl (cI, 256, .inl u96))]) [0, 1, 2, 3, 4] rfl
          have hD := hD.sub (ws' := [(x0, .inr (4, [.ref t0, .ref p0, .ref v0, .ref g0, .ref ta])), (t0, .inr (0, [.ref t1, .ref t2])), (t1, .inl (cI, 400, .inl f)), (t2, .inl (cI, 9, .inl g)), (ta, .inl (cI, 256, .inl u96))]) [0, 1, 2, 3, 4] (by decide) rfl
          exact zz_lretW (v := r96) (w1 := fun u : (Nat → Int32) => [(x0, .inr (4, [.ref t0, .ref p0, .ref v0, .ref g0, .ref ta])), (t0, .inr (0, [.ref t1, .ref t2])), (t1, .inl (cI, 400, .inl f)), (t2, .inl (cI, 9, .inl g)), (ta, .inl (cI, 256, .inl u))]) u96 hx hb hr hlocks (Or.inr ⟨pp, hpp, epp, Or.inr ⟨c13, Or.inr ⟨qq, hqq, eqq, Or.inr (Or.inr (Or.inl ⟨t40_1, hq96⟩))⟩⟩⟩) hP hK hD hS dX_estimate_99
        by_cases t40_2 : op = nI 2
        · refine zz_top t40_2 ?_
          refine lv_tableIn (tgt := 100) hx hb dX_estimate_40 (by decide) (by decide) (by first | rfl | decide) (by decide) ?_
          refine lv_aload_n hx hb dX_estimate_100 rfl (lv_at hl 0 rfl) ?_
          refine va_get (D := D) (ci := 4) (v := .ref t0) (C := "StatRows") (T := TX) (N := 5) hx hb ht inX hown hK hP 0 rfl rfl 0 (by decide) (ht _ wd77) (fun _ h9 => h9) rfl dX_estimate_101 ?_
          refine lv_iload_n hx hb dX_estimate_104 rfl (lv_at hl 2 rfl) ?_
          refine zz_ci (v := nI (tr_off Ls pp + (Ls pp).length - tr_off Ls pp)) (W.runV (As := [.int (nI pp)]) (rest := []) ⟨hx, hb, hml, hown, ht⟩ (c_T_sizeOf l D cI cB t0 t1 t2 f g pp (tr_off Ls pp) (tr_off Ls pp + (Ls pp).length) hpp (hT.1 pp (by omega)) (hT.1 (pp + 1) (by omega)) (by omega)) (cwV 1 ht (gd_V wd152 wd153 wd154 wd2 wd155) rfl rfl rfl (by decide +kernel) ⟨Nat.le_of_ble_eq_true rfl, Nat.le_of_ble_eq_true rfl⟩) (zz_R_V hN hK (hP.sub (ws' := [(t0, .inr (0, [.ref t1, .ref t2])), (t1, .inl (cI, 400, .inl f)), (t2, .inl (cI, 9, .inl g))]) [1, 2, 3] rfl) 0 0 rfl rfl) rfl rfl hl.1 rfl (lv_room (Nat.le_of_ble_eq_true rfl)) dX_estimate_105 ⟨Nat.le_of_ble_eq_true rfl, Nat.le_of_ble_eq_true rfl⟩) ?_
          refine zz_top (y := nI ((Ls pp).length)) (congrArg nI (by omega)) ?_
          refine lv_i2l (v := lN ((Ls pp).length)) hx hb dX_estimate_108 (nI_l (n := (Ls pp).length) (by omega)) ?_
          refine lv_aload_n hx hb dX_estimate_109 rfl (lv_at hl 0 rfl) ?_
          refine va_get (D := D) (ci := 4) (v := .ref t0) (C := "StatRows") (T := TX) (N := 5) hx hb ht inX hown hK hP 0 rfl rfl 0 (by decide) (ht _ wd77) (fun _ h9 => h9) rfl dX_estimate_110 ?_
          refine lv_iload_n hx hb dX_estimate_113 rfl (lv_at hl 3 rfl) ?_
          refine zz_ci (v := nI (tr_off Ls qq + (Ls qq).length - tr_off Ls qq)) (W.runV (As := [.int (nI qq)]) (rest := [.long (lN ((Ls pp).length))]) ⟨hx, hb, hml, hown, ht⟩ (c_T_sizeOf l D cI cB t0 t1 t2 f g qq (tr_off Ls qq) (tr_off Ls qq + (Ls qq).length) hqq (hT.1 qq (by omega)) (hT.1 (qq + 1) (by omega)) (by omega)) (cwV 1 ht (gd_V wd152 wd153 wd154 wd2 wd155) rfl rfl rfl (by decide +kernel) ⟨Nat.le_of_ble_eq_true rfl, Nat.le_of_ble_eq_true rfl⟩) (zz_R_V hN hK (hP.sub (ws' := [(t0, .inr (0, [.ref t1, .ref t2])), (t1, .inl (cI, 400, .inl f)), (t2, .inl (cI, 9, .inl g))]) [1, 2, 3] rfl) 0 0 rfl rfl) rfl rfl hl.1 rfl (lv_room (Nat.le_of_ble_eq_true rfl)) dX_estimate_114 ⟨Nat.le_of_ble_eq_true rfl, Nat.le_of_ble_eq_true rfl⟩) ?_
          refine zz_top (y := nI ((Ls qq).length)) (congrArg nI (by omega)) ?_
          refine lv_i2l (v := lN ((Ls qq).length)) hx hb dX_estimate_117 (nI_l (n := (Ls qq).length) (by omega)) ?_
          refine lv_ladd hx hb dX_estimate_118 ?_
          refine zz_topl (y := lN (((Ls pp).length) + ((Ls qq).length))) (lN_add ((Ls pp).length) ((Ls qq).length)) ?_
          exact zz_lretW (v := lN (((Ls pp).length) + ((Ls qq).length))) (w1 := fun u : (Nat → Int32) => [(x0, .inr (4, [.ref t0, .ref p0, .ref v0, .ref g0, .ref ta])), (t0, .inr (0, [.ref t1, .ref t2])), (t1, .inl (cI, 400, .inl f)), (t2, .inl (cI, 9, .inl g)), (ta, .inl (cI, 256, .inl u))]) tl hx hb hr hlocks (Or.inr ⟨pp, hpp, epp, Or.inr ⟨c13, Or.inr ⟨qq, hqq, eqq, Or.inr (Or.inr (Or.inr (Or.inl ⟨t40_2, rfl⟩)))⟩⟩⟩) hP hK hD hS dX_estimate_119
        by_cases t40_3 : op = nI 3
        · refine zz_top t40_3 ?_
          refine lv_tableIn (tgt := 127) hx hb dX_estimate_40 (by decide) (by decide) (by first | rfl | decide) (by decide) ?_
          exact absurd t40_3 c13
        by_cases t40_4 : op = nI 4
        · refine zz_top t40_4 ?_
          refine lv_tableIn (tgt := 120) hx hb dX_estimate_40 (by decide) (by decide) (by first | rfl | decide) (by decide) ?_
          refine lv_aload_n hx hb dX_estimate_120 rfl (lv_at hl 0 rfl) ?_
          refine lv_iload_n hx hb dX_estimate_121 rfl (lv_at hl 2 rfl) ?_
          refine lv_iload_n hx hb dX_estimate_122 rfl (lv_at hl 3 rfl) ?_
          refine zz_wl (wc := [(x0, .inr (4, [.ref t0, .ref p0, .ref v0, .ref g0, .ref ta])), (t0, .inr (0, [.ref t1, .ref t2])), (t1, .inl (cI, 400, .inl f)), (t2, .inl (cI, 9, .inl g)), (ta, .inl (cI, 256, .inl tl))]) (wr := []) (va_runV (As := [.int (nI pp), .int (nI qq)]) (rest := []) ⟨hx, hb, hml, hown, ht⟩ (c_X_sampledChainEstimate l D cI cB s.heap.size x0 t0 t1 t2 p0 v0 g0 ta f g Ls hT tl pp qq hpp hqq) (cwV 2 ht (gd_V wd279 wd281 wp14 wd1 wd282) rfl rfl rfl (by decide +kernel) ⟨Nat.le_of_ble_eq_true rfl, Nat.le_of_ble_eq_true rfl⟩) (zz_P_V hN hK (hP.sub (ws' := [(x0, .inr (4, [.ref t0, .ref p0, .ref v0, .ref g0, .ref ta])), (t0, .inr (0, [.ref t1, .ref t2])), (t1, .inl (cI, 400, .inl f)), (t2, .inl (cI, 9, .inl g)), (ta, .inl (cI, 256, .inl tl))]) [0, 1, 2, 3, 4] rfl) (hD.sub (ws' := [(x0, .inr (4, [.ref t0, .ref p0, .ref v0, .ref g0, .ref ta])), (t0, .inr (0, [.ref t1, .ref t2])), (t1, .inl (cI, 400, .inl f)), (t2, .inl (cI, 9, .inl g)), (ta, .inl (cI, 256, .inl tl))]) [0, 1, 2, 3, 4] (by decide) rfl) 4 0 rfl rfl) rfl rfl hl.1 rfl (lv_room (Nat.le_of_ble_eq_true rfl)) dX_estimate_123 ⟨Nat.le_of_ble_eq_true rfl, Nat.le_of_ble_eq_true rfl⟩) hP hD hS hA [0, 1, 2, 3, 4] [] rfl rfl (by decide) (by decide) (fun r123 u123 H locs hq123 hP hD hS => ?_)
          have hP := hP.sub (ws' := [(x0, .inr (4, [.ref t0, .ref p0, .ref v0, .ref g0, .ref ta])), (t0, .inr (0, [.ref t1, .ref t2])), (t1, .inl (cI, 400, .inl f)), (t2, .inl (cI, 9, .inl g)), (ta, .inl (cI, 256, .inl u123))]) [0, 1, 2, 3, 4] rfl
          have hD := hD.sub (ws' := [(x0, .inr (4, [.ref t0, .ref p0, .ref v0, .ref g0, .ref ta])), (t0, .inr (0, [.ref t1, .ref t2])), (t1, .inl (cI, 400, .inl f)), (t2, .inl (cI, 9, .inl g)), (ta, .inl (cI, 256, .inl u123))]) [0, 1, 2, 3, 4] (by decide) rfl
          exact zz_lretW (v := r123) (w1 := fun u : (Nat → Int32) => [(x0, .inr (4, [.ref t0, .ref p0, .ref v0, .ref g0, .ref ta])), (t0, .inr (0, [.ref t1, .ref t2])), (t1, .inl (cI, 400, .inl f)), (t2, .inl (cI, 9, .inl g)), (ta, .inl (cI, 256, .inl u))]) u123 hx hb hr hlocks (Or.inr ⟨pp, hpp, epp, Or.inr ⟨c13, Or.inr ⟨qq, hqq, eqq, Or.inr (Or.inr (Or.inr (Or.inr ⟨t40_4, hq123⟩)))⟩⟩⟩) hP hK hD hS dX_estimate_126
        have hout40 : (op).toInt < 0 ∨ 4 < (op).toInt := zz_tout 0 4 (by decide) (fun k hk1 hk2 q => by
          rcases (show k = 0 ∨ k = 1 ∨ k = 2 ∨ k = 3 ∨ k = 4 by omega) with rfl | rfl | rfl | rfl | rfl
          · exact t40_0 q
          · exact t40_1 q
          · exact t40_2 q
          · exact t40_3 q
          · exact t40_4 q)
        refine lv_tableOut (tgt := 127) hx hb dX_estimate_40 hout40 (by decide) ?_
        refine lv_ldc2 (v := (-1)) hx hb hown (ht _ wd206) dX_estimate_127 ?_
        exact zz_lretW (v := (-1)) (w1 := fun u : (Nat → Int32) => [(x0, .inr (4, [.ref t0, .ref p0, .ref v0, .ref g0, .ref ta])), (t0, .inr (0, [.ref t1, .ref t2])), (t1, .inl (cI, 400, .inl f)), (t2, .inl (cI, 9, .inl g)), (ta, .inl (cI, 256, .inl u))]) tl hx hb hr hlocks (Or.inr ⟨pp, hpp, epp, Or.inr ⟨c13, Or.inr ⟨qq, hqq, eqq, Or.inl ⟨⟨t40_0, t40_1, t40_2, t40_4⟩, rfl⟩⟩⟩⟩) hP hK hD hS dX_estimate_130
      · -- not taken
        have c32 : (inr_ 8 p2).toNat = 0 := (nI_eq (a := (inr_ 8 p2).toNat) (b := 0) (by omega) (by omega)).mp c32
        have hb2 : inr_ 8 p2 = false := bt0 (by omega)
        refine lv_ldc2 (v := (-1)) hx hb hown (ht _ wd206) dX_estimate_35 ?_
        exact zz_lretW (v := (-1)) (w1 := fun u : (Nat → Int32) => [(x0, .inr (4, [.ref t0, .ref p0, .ref v0, .ref g0, .ref ta])), (t0, .inr (0, [.ref t1, .ref t2])), (t1, .inl (cI, 400, .inl f)), (t2, .inl (cI, 9, .inl g)), (ta, .inl (cI, 256, .inl u))]) tl hx hb hr hlocks (Or.inr ⟨pp, hpp, epp, Or.inr ⟨c13, Or.inl ⟨hb2, rfl⟩⟩⟩) hP hK hD hS dX_estimate_38
    · -- not taken
      refine lv_aload_n hx hb dX_estimate_16 rfl (lv_at hl 0 rfl) ?_
      refine va_get (D := D) (ci := 4) (v := .ref t0) (C := "StatRows") (T := TX) (N := 5) hx hb ht inX hown hK hP 0 rfl rfl 0 (by decide) (ht _ wd77) (fun _ h9 => h9) rfl dX_estimate_17 ?_
      refine lv_iload_n hx hb dX_estimate_20 rfl (lv_at hl 2 rfl) ?_
      refine zz_ci (v := nI (tr_off Ls pp + (Ls pp).length - tr_off Ls pp)) (W.runV (As := [.int (nI pp)]) (rest := []) ⟨hx, hb, hml, hown, ht⟩ (c_T_sizeOf l D cI cB t0 t1 t2 f g pp (tr_off Ls pp) (tr_off Ls pp + (Ls pp).length) hpp (hT.1 pp (by omega)) (hT.1 (pp + 1) (by omega)) (by omega)) (cwV 1 ht (gd_V wd152 wd153 wd154 wd2 wd155) rfl rfl rfl (by decide +kernel) ⟨Nat.le_of_ble_eq_true rfl, Nat.le_of_ble_eq_true rfl⟩) (zz_R_V hN hK (hP.sub (ws' := [(t0, .inr (0, [.ref t1, .ref t2])), (t1, .inl (cI, 400, .inl f)), (t2, .inl (cI, 9, .inl g))]) [1, 2, 3] rfl) 0 0 rfl rfl) rfl rfl hl.1 rfl (lv_room (Nat.le_of_ble_eq_true rfl)) dX_estimate_21 ⟨Nat.le_of_ble_eq_true rfl, Nat.le_of_ble_eq_true rfl⟩) ?_
      refine zz_top (y := nI ((Ls pp).length)) (congrArg nI (by omega)) ?_
      refine lv_iconst (v := nI 3) hx hb dX_estimate_24 (by decide) ?_
      refine lv_idiv hx hb dX_estimate_25 (by decide) ?_
      refine zz_top (y := nI (((Ls pp).length) / 3)) (pk_div (a := (Ls pp).length) (d := 3) (by omega) (by omega) (by omega)) ?_
      refine lv_i2l (v := lN (((Ls pp).length) / 3)) hx hb dX_estimate_26 (nI_l (n := ((Ls pp).length) / 3) (by omega)) ?_
      exact zz_lretW (v := lN (((Ls pp).length) / 3)) (w1 := fun u : (Nat → Int32) => [(x0, .inr (4, [.ref t0, .ref p0, .ref v0, .ref g0, .ref ta])), (t0, .inr (0, [.ref t1, .ref t2])), (t1, .inl (cI, 400, .inl f)), (t2, .inl (cI, 9, .inl g)), (ta, .inl (cI, 256, .inl u))]) tl hx hb hr hlocks (Or.inr ⟨pp, hpp, epp, Or.inl ⟨c13, rfl⟩⟩) hP hK hD hS dX_estimate_27
  · -- not taken
    have c4 : (inr_ 8 p1).toNat = 0 := (nI_eq (a := (inr_ 8 p1).toNat) (b := 0) (by omega) (by omega)).mp c4
    have hb1 : inr_ 8 p1 = false := bt0 (by omega)
    refine lv_ldc2 (v := (-1)) hx hb hown (ht _ wd206) dX_estimate_7 ?_
    exact zz_lretW (v := (-1)) (w1 := fun u : (Nat → Int32) => [(x0, .inr (4, [.ref t0, .ref p0, .ref v0, .ref g0, .ref ta])), (t0, .inr (0, [.ref t1, .ref t2])), (t1, .inl (cI, 400, .inl f)), (t2, .inl (cI, 9, .inl g)), (ta, .inl (cI, 256, .inl u))]) tl hx hb hr hlocks (Or.inl ⟨hb1, rfl⟩) hP hK hD hS dX_estimate_10

abbrev rm_X_range : Room := { frames := 2, cells := 0, slots := 0, locals := 57 }
set_option maxHeartbeats 4000000 in
set_option maxRecDepth 100000 in
theorem c_X_range (l : Launch) (D : va_G) (cI cB : ClassId) (x0 t0 t1 t2 p0 v0 g0 ta : Nat) (f g : Nat → Int32) (Ls : Nat → List Nat) (hT : RT Ls f g) (p1 fr to : Int32) : Met l yX_range wX_range rm_X_range (zz_R D vwCl [(cI, .int), (cB, .boolean)] [.ref x0, .int p1, .int fr, .int to] [(x0, .inr (4, [.ref t0, .ref p0, .ref v0, .ref g0, .ref ta])), (t0, .inr (0, [.ref t1, .ref t2])), (t1, .inl (cI, 400, .inl f)), (t2, .inl (cI, 9, .inl g))]) (vp_Si (fun r : Int32 => (inr_ 8 p1 = false ∧ r = -1) ∨ ∃ pp, pp < 8 ∧ p1 = nI pp ∧ r = nI (rgs (Ls pp) fr to 8))) 0 0 (fun _ => False) := by
  refine Met.ofW (cc := cX_range) (maxL := 9) (ret := (some .int)) (by decide) rfl ?_
  intro pg ev s mt args below meth kd s₁ B hml hv
  obtain ⟨rfl, hP, hK, hN⟩ := hv
  have hx := B.exec
  have hb := B.bytes
  have hr := B.returns
  have ht : ∀ w ∈ W0, w.before _ s = true := fun w h => atoms_spec (ws := wX_range) B.pre w (List.mem_cons_of_mem _ h)
  have hown : s.vm.findClass "StatRows" = some mt.cls := findClass_of_methodNamed B.named
  have hlocks := B.notSynchronized
  have hl := lv_entry ([.ref x0, .int p1, .int fr, .int to]) (n := 9) (Nat.le_of_ble_eq_true rfl)
  rw [lg_entry_eq]
  generalize (lg_sl ([.ref x0, .int p1, .int fr, .int to]) ++ List.replicate (9 - (lg_sl ([.ref x0, .int p1, .int fr, .int to])).length) Slot.unset).toArray = ls at hl ⊢
  have hl : lv_has ls 9 [(0, .ref x0), (1, .int p1), (2, .int fr), (3, .int to)] := hl
  have h400 := hT.2.2.1
  have bl0 := btl (inr_ 8 p1)
  refine lv_iload_n hx hb dX_range_0 rfl (lv_at hl 1 rfl) ?_
  refine zz_ci (v := nI ((inr_ 8 p1).toNat)) (W.runS (As := [.int p1]) (rest := []) ⟨hx, hb, hml, hown, ht⟩ (c_X_isPredicate l p1) (va_cwS 1 ht (gd_S wd103 wd104 wd1 wd105) rfl rfl rfl (by decide +kernel) ⟨Nat.le_of_ble_eq_true rfl, Nat.le_of_ble_eq_true rfl⟩) zz_N_S rfl rfl hl.1 rfl (lv_room (Nat.le_of_ble_eq_true rfl)) dX_range_1 ⟨Nat.le_of_ble_eq_true rfl, Nat.le_of_ble_eq_true rfl⟩) ?_
  refine lv_if_ne (tgt := 9) hx hb dX_range_4 (by decide) (fun c4 => ?_) (fun c4 => ?_)
  · -- taken
    have c4 : ¬ ((inr_ 8 p1).toNat = 0) := fun h => c4 ((nI_eq (a := (inr_ 8 p1).toNat) (b := 0) (by omega) (by omega)).mpr h)
    have hb1 : inr_ 8 p1 = true := bt1 c4
    obtain ⟨pp, hpp, epp⟩ := inr_t (by decide) hb1
    rw [epp] at hl
    have htp := tr_top (Ls := Ls) hpp
    refine lv_iconst (v := nI 0) hx hb dX_range_9 (by decide) ?_
    refine lv_istore (lv' := [(4, .int (nI 0)), (0, .ref x0), (1, .int (nI pp)), (2, .int fr), (3, .int to)]) hx hb dX_range_10 hl (by decide) rfl (fun ls hl => ?_)
    refine lv_iconst (v := nI 0) hx hb dX_range_12 (by decide) ?_
    refine lv_istore (lv' := [(5, .int (nI 0)), (4, .int (nI 0)), (0, .ref x0), (1, .int (nI pp)), (2, .int fr), (3, .int to)]) hx hb dX_range_13 hl (by decide) rfl (fun ls hl => ?_)
    have lp15 : ∀ (fu : Nat) (j : Nat) (hj : j ≤ 8) (hm : 8 - j < fu) (ls : Array Slot) (hl : lv_has ls 9 [(0, .ref x0), (1, .int (nI pp)), (2, .int fr), (3, .int to), (4, .int (nI (rgs (Ls pp) fr to j))), (5, .int (nI j))]), W pg l ev (headSpec wX_range rm_X_range).room s mt (([.ref x0, .int p1, .int fr, .int to] : List Value).toArray) below meth kd s.heap [] 0 0 (MQ below (vp_Si (fun r : Int32 => (inr_ 8 p1 = false ∧ r = -1) ∨ ∃ pp, pp < 8 ∧ p1 = nI pp ∧ r = nI (rgs (Ls pp) fr to 8))) (([.ref x0, .int p1, .int fr, .int to] : List Value).toArray) s 0 0 (fun _ => False)) (F0 mt 15 ls []) := by
      intro fu
      induction fu with
      | zero => intro j hj hm; exact absurd hm (Nat.not_lt_zero _)
      | succ fu ih15 =>
        intro j hj hm ls hl
        refine lv_iload hx hb dX_range_15 (lv_at hl 5 rfl) ?_
        refine lv_bipush (v := nI 8) hx hb dX_range_17 (by decide) ?_
        refine lv_icmp_ge (tgt := 75) hx hb dX_range_19 (by decide) (fun c19 => ?_) (fun c19 => ?_)
        · -- taken
          have c19 : 8 ≤ j := (nI_leI (a := 8) (b := j) (by omega) (by omega)).mp c19
          refine lv_iload hx hb dX_range_75 (lv_at hl 4 rfl) ?_
          exact zz_iretR (v := nI (rgs (Ls pp) fr to j)) hx hb hr hlocks (Or.inr ⟨pp, hpp, epp, by rw [show j = 8 by omega]⟩) dX_range_77
        · -- not taken
          have c19 : ¬ (8 ≤ j) := fun h => c19 ((nI_leI (a := 8) (b := j) (by omega) (by omega)).mpr h)
          refine lv_bipush (v := nI 32) hx hb dX_range_22 (by decide) ?_
          refine lv_iload hx hb dX_range_24 (lv_at hl 5 rfl) ?_
          refine lv_imul hx hb dX_range_26 ?_
          refine zz_top (y := nI (32 * j)) (pk_mul 32 j) ?_
          refine lv_istore (lv' := [(6, .int (nI (32 * j))), (0, .ref x0), (1, .int (nI pp)), (2, .int fr), (3, .int to), (4, .int (nI (rgs (Ls pp) fr to j))), (5, .int (nI j))]) hx hb dX_range_27 hl (by decide) rfl (fun ls hl => ?_)
          refine lv_iload hx hb dX_range_29 (lv_at hl 0 rfl) ?_
          refine lv_bipush (v := nI 32) hx hb dX_range_31 (by decide) ?_
          refine lv_iadd hx hb dX_range_33 ?_
          refine zz_top (y := nI ((32 * j) + 32)) (nI_add (32 * j) 32) ?_
          refine lv_iconst (v := nI 1) hx hb dX_range_34 (by decide) ?_
          refine lv_isub hx hb dX_range_35 ?_
          refine zz_top (y := nI (((32 * j) + 32) - 1)) (pk_sub (a := (32 * j) + 32) (b := 1) (by omega)) ?_
          refine zz_top (y := nI (32 * j + 31)) (congrArg nI (by omega)) ?_
          refine lv_istore (lv' := [(7, .int (nI (32 * j + 31))), (6, .int (nI (32 * j))), (0, .ref x0), (1, .int (nI pp)), (2, .int fr), (3, .int to), (4, .int (nI (rgs (Ls pp) fr to j))), (5, .int (nI j))]) hx hb dX_range_36 hl (by decide) rfl (fun ls hl => ?_)
          refine lv_aload_n hx hb dX_range_38 rfl (lv_at hl 2 rfl) ?_
          refine lv_iload_n hx hb dX_range_39 rfl (lv_at hl 3 rfl) ?_
          refine lv_iload hx hb dX_range_40 (lv_at hl 1 rfl) ?_
          refine lv_iload hx hb dX_range_42 (lv_at hl 0 rfl) ?_
          refine zz_ci (v := nI ((Ls pp).countP (fun c => btw (nI (32 * j)) (nI (32 * j + 31)) (obj_ c)))) (W.runV (As := [.int (nI pp), .int (nI (32 * j)), .int (nI (32 * j + 31))]) (rest := []) ⟨hx, hb, hml, hown, ht⟩ (c_X_withObjectBetween l D cI cB x0 t0 t1 t2 p0 v0 g0 ta f g Ls hT pp hpp (nI (32 * j)) (nI (32 * j + 31))) (cwV 3 ht (gd_V wd219 wd221 wp10 wd1 wd222) rfl rfl rfl (by decide +kernel) ⟨Nat.le_of_ble_eq_true rfl, Nat.le_of_ble_eq_true rfl⟩) (zz_R_V hN hK (hP.sub (ws' := [(x0, .inr (4, [.ref t0, .ref p0, .ref v0, .ref g0, .ref ta])), (t0, .inr (0, [.ref t1, .ref t2])), (t1, .inl (cI, 400, .inl f)), (t2, .inl (cI, 9, .inl g))]) [0, 1, 2, 3] rfl) 4 0 rfl rfl) rfl rfl hl.1 rfl (lv_room (Nat.le_of_ble_eq_true rfl)) dX_range_44 ⟨Nat.le_of_ble_eq_true rfl, Nat.le_of_ble_eq_true rfl⟩) ?_
          refine lv_istore (lv' := [(8, .int (nI ((Ls pp).countP (fun c => btw (nI (32 * j)) (nI (32 * j + 31)) (obj_ c))))), (7, .int (nI (32 * j + 31))), (6, .int (nI (32 * j))), (0, .ref x0), (1, .int (nI pp)), (2, .int fr), (3, .int to), (4, .int (nI (rgs (Ls pp) fr to j))), (5, .int (nI j))]) hx hb dX_range_47 hl (by decide) rfl (fun ls hl => ?_)
          refine lv_iload hx hb dX_range_49 (lv_at hl 7 rfl) ?_
          refine lv_iload hx hb dX_range_51 (lv_at hl 0 rfl) ?_
          refine lv_iload hx hb dX_range_53 (lv_at hl 2 rfl) ?_
          refine lv_iload hx hb dX_range_55 (lv_at hl 1 rfl) ?_
          refine lv_iload_n hx hb dX_range_57 rfl (lv_at hl 5 rfl) ?_
          refine lv_iload_n hx hb dX_range_58 rfl (lv_at hl 6 rfl) ?_
          refine zz_ci (v := nI (many (32 * j) fr to)) (W.runS (As := [.int (nI (32 * j)), .int (nI (32 * j + 31)), .int fr, .int to]) (rest := [.int (nI ((Ls pp).countP (fun c => btw (nI (32 * j)) (nI (32 * j + 31)) (obj_ c)))), .int (nI (rgs (Ls pp) fr to j))]) ⟨hx, hb, hml, hown, ht⟩ (c_X_shared l (32 * j) (by omega) fr to) (va_cwS 4 ht (gd_S wd288 wd289 wd1 wd290) rfl rfl rfl (by decide +kernel) ⟨Nat.le_of_ble_eq_true rfl, Nat.le_of_ble_eq_true rfl⟩) zz_N_S rfl rfl hl.1 rfl (lv_room (Nat.le_of_ble_eq_true rfl)) dX_range_59 ⟨Nat.le_of_ble_eq_true rfl, Nat.le_of_ble_eq_true rfl⟩) ?_
          refine lv_imul hx hb dX_range_62 ?_
          refine zz_top (y := nI (((Ls pp).countP (fun c => btw (nI (32 * j)) (nI (32 * j + 31)) (obj_ c))) * (many (32 * j) fr to))) (pk_mul ((Ls pp).countP (fun c => btw (nI (32 * j)) (nI (32 * j + 31)) (obj_ c))) (many (32 * j) fr to)) ?_
          have hmm : (Ls pp).countP (fun c => btw (nI (32 * j)) (nI (32 * j + 31)) (obj_ c)) * many (32 * j) fr to ≤ 400 * 32 := Nat.mul_le_mul (Nat.le_trans List.countP_le_length (by omega)) (many_le _ _ _)
          refine lv_bipush (v := nI 32) hx hb dX_range_63 (by decide) ?_
          refine lv_idiv hx hb dX_range_65 (by decide) ?_
          refine zz_top (y := nI ((((Ls pp).countP (fun c => btw (nI (32 * j)) (nI (32 * j + 31)) (obj_ c))) * (many (32 * j) fr to)) / 32)) (pk_div (a := ((Ls pp).countP (fun c => btw (nI (32 * j)) (nI (32 * j + 31)) (obj_ c))) * (many (32 * j) fr to)) (d := 32) (by omega) (by omega) (by omega)) ?_
          refine lv_iadd hx hb dX_range_66 ?_
          refine zz_top (y := nI ((rgs (Ls pp) fr to j) + ((((Ls pp).countP (fun c => btw (nI (32 * j)) (nI (32 * j + 31)) (obj_ c))) * (many (32 * j) fr to)) / 32))) (nI_add (rgs (Ls pp) fr to j) ((((Ls pp).countP (fun c => btw (nI (32 * j)) (nI (32 * j + 31)) (obj_ c))) * (many (32 * j) fr to)) / 32)) ?_
          refine lv_istore (lv' := [(4, .int (nI ((rgs (Ls pp) fr to j) + ((((Ls pp).countP (fun c => btw (nI (32 * j)) (nI (32 * j + 31)) (obj_ c))) * (many (32 * j) fr to)) / 32)))), (8, .int (nI ((Ls pp).countP (fun c => btw (nI (32 * j)) (nI (32 * j + 31)) (obj_ c))))), (7, .int (nI (32 * j + 31))), (6, .int (nI (32 * j))), (0, .ref x0), (1, .int (nI pp)), (2, .int fr), (3, .int to), (5, .int (nI j))]) hx hb dX_range_67 hl (by decide) rfl (fun ls hl => ?_)
          refine lv_iinc (v := nI (j + 1)) (lv' := [(5, .int (nI (j + 1))), (4, .int (nI ((rgs (Ls pp) fr to j) + ((((Ls pp).countP (fun c => btw (nI (32 * j)) (nI (32 * j + 31)) (obj_ c))) * (many (32 * j) fr to)) / 32)))), (8, .int (nI ((Ls pp).countP (fun c => btw (nI (32 * j)) (nI (32 * j + 31)) (obj_ c))))), (7, .int (nI (32 * j + 31))), (6, .int (nI (32 * j))), (0, .ref x0), (1, .int (nI pp)), (2, .int fr), (3, .int to)]) hx hb dX_range_69 hl (k := 8) rfl (nI_1 j) (by decide) rfl (fun ls hl => ?_)
          refine lv_goto (tgt := 15) hx hb dX_range_72 (by decide) ?_
          exact ih15 (j + 1) (by omega) (by omega) ls (lv_sub hl [5, 6, 7, 8, 1, 0] rfl)
    exact lp15 ((8 - 0) + 1) 0 (Nat.zero_le _) (Nat.lt_succ_self _) ls (lv_sub hl [2, 3, 4, 5, 1, 0] rfl)
  · -- not taken
    have c4 : (inr_ 8 p1).toNat = 0 := (nI_eq (a := (inr_ 8 p1).toNat) (b := 0) (by omega) (by omega)).mp c4
    have hb1 : inr_ 8 p1 = false := bt0 (by omega)
    refine lv_iconst (v := (-1)) hx hb dX_range_7 (by decide) ?_
    exact zz_iretR (v := (-1)) hx hb hr hlocks (Or.inl ⟨hb1, rfl⟩) dX_range_8

abbrev rm_X_sample : Room := { frames := 2, cells := 0, slots := 0, locals := 42 }
set_option maxHeartbeats 4000000 in
set_option maxRecDepth 100000 in
theorem c_X_sample (l : Launch) (D : va_G) (cI cB : ClassId) (x0 t0 t1 t2 p0 v0 g0 ta : Nat) (f g : Nat → Int32) (Ls : Nat → List Nat) (hT : RT Ls f g) (p1 i1 : Int32) : Met l yX_sample wX_sample rm_X_sample (zz_R D vwCl [(cI, .int), (cB, .boolean)] [.ref x0, .int p1, .int i1] [(x0, .inr (4, [.ref t0, .ref p0, .ref v0, .ref g0, .ref ta])), (t0, .inr (0, [.ref t1, .ref t2])), (t1, .inl (cI, 400, .inl f)), (t2, .inl (cI, 9, .inl g))]) (vp_Si (fun r : Int32 => (inr_ 8 p1 = false ∧ r = -1) ∨ ∃ pp, pp < 8 ∧ p1 = nI pp ∧ ((∃ ii, ii < ((Ls pp).filter smp).length ∧ i1 = nI ii ∧ r = nI (((Ls pp).filter smp).getD ii 0)) ∨ ((∀ ii, ii < ((Ls pp).filter smp).length → i1 ≠ nI ii) ∧ r = -2)))) 0 0 (fun _ => False) := by
  refine Met.ofW (cc := cX_sample) (maxL := 6) (ret := (some .int)) (by decide) rfl ?_
  intro pg ev s mt args below meth kd s₁ B hml hv
  obtain ⟨rfl, hP, hK, hN⟩ := hv
  have hx := B.exec
  have hb := B.bytes
  have hr := B.returns
  have ht : ∀ w ∈ W0, w.before _ s = true := fun w h => atoms_spec (ws := wX_sample) B.pre w (List.mem_cons_of_mem _ h)
  have hown : s.vm.findClass "StatRows" = some mt.cls := findClass_of_methodNamed B.named
  have hlocks := B.notSynchronized
  have hl := lv_entry ([.ref x0, .int p1, .int i1]) (n := 6) (Nat.le_of_ble_eq_true rfl)
  rw [lg_entry_eq]
  generalize (lg_sl ([.ref x0, .int p1, .int i1]) ++ List.replicate (6 - (lg_sl ([.ref x0, .int p1, .int i1])).length) Slot.unset).toArray = ls at hl ⊢
  have hl : lv_has ls 6 [(0, .ref x0), (1, .int p1), (2, .int i1)] := hl
  have h400 := hT.2.2.1
  have bl0 := btl (inr_ 8 p1)
  refine lv_iload_n hx hb dX_sample_0 rfl (lv_at hl 1 rfl) ?_
  refine zz_ci (v := nI ((inr_ 8 p1).toNat)) (W.runS (As := [.int p1]) (rest := []) ⟨hx, hb, hml, hown, ht⟩ (c_X_isPredicate l p1) (va_cwS 1 ht (gd_S wd103 wd104 wd1 wd105) rfl rfl rfl (by decide +kernel) ⟨Nat.le_of_ble_eq_true rfl, Nat.le_of_ble_eq_true rfl⟩) zz_N_S rfl rfl hl.1 rfl (lv_room (Nat.le_of_ble_eq_true rfl)) dX_sample_1 ⟨Nat.le_of_ble_eq_true rfl, Nat.le_of_ble_eq_true rfl⟩) ?_
  refine lv_if_ne (tgt := 9) hx hb dX_sample_4 (by decide) (fun c4 => ?_) (fun c4 => ?_)
  · -- taken
    have c4 : ¬ ((inr_ 8 p1).toNat = 0) := fun h => c4 ((nI_eq (a := (inr_ 8 p1).toNat) (b := 0) (by omega) (by omega)).mpr h)
    have hb1 : inr_ 8 p1 = true := bt1 c4
    obtain ⟨pp, hpp, epp⟩ := inr_t (by decide) hb1
    rw [epp] at hl
    have htp := tr_top (Ls := Ls) hpp
    refine lv_aload_n hx hb dX_sample_9 rfl (lv_at hl 0 rfl) ?_
    refine va_get (D := D) (ci := 4) (v := .ref t0) (C := "StatRows") (T := TX) (N := 5) hx hb ht inX hown hK hP 0 rfl rfl 0 (by decide) (ht _ wd77) (fun _ h9 => h9) rfl dX_sample_10 ?_
    refine lv_iload_n hx hb dX_sample_13 rfl (lv_at hl 1 rfl) ?_
    refine zz_ci (v := nI (tr_off Ls pp + (Ls pp).length)) (W.runV (As := [.int (nI pp)]) (rest := []) ⟨hx, hb, hml, hown, ht⟩ (c_T_end l D cI cB t0 t1 t2 f g pp (tr_off Ls pp + (Ls pp).length) hpp (hT.1 (pp + 1) (by omega))) (cwV 1 ht (gd_V wd171 wd118 wd119 wd2 wd120) rfl rfl rfl (by decide +kernel) ⟨Nat.le_of_ble_eq_true rfl, Nat.le_of_ble_eq_true rfl⟩) (zz_R_V hN hK (hP.sub (ws' := [(t0, .inr (0, [.ref t1, .ref t2])), (t1, .inl (cI, 400, .inl f)), (t2, .inl (cI, 9, .inl g))]) [1, 2, 3] rfl) 0 0 rfl rfl) rfl rfl hl.1 rfl (lv_room (Nat.le_of_ble_eq_true rfl)) dX_sample_14 ⟨Nat.le_of_ble_eq_true rfl, Nat.le_of_ble_eq_true rfl⟩) ?_
    refine lv_istore_n (lv' := [(3, .int (nI (tr_off Ls pp + (Ls pp).length))), (0, .ref x0), (1, .int (nI pp)), (2, .int i1)]) hx hb dX_sample_17 rfl hl (by decide) rfl (fun ls hl => ?_)
    refine lv_iconst (v := nI 0) hx hb dX_sample_18 (by decide) ?_
    refine lv_istore (lv' := [(4, .int (nI 0)), (3, .int (nI (tr_off Ls pp + (Ls pp).length))), (0, .ref x0), (1, .int (nI pp)), (2, .int i1)]) hx hb dX_sample_19 hl (by decide) rfl (fun ls hl => ?_)
    refine lv_aload_n hx hb dX_sample_21 rfl (lv_at hl 2 rfl) ?_
    refine va_get (D := D) (ci := 4) (v := .ref t0) (C := "StatRows") (T := TX) (N := 5) hx hb ht inX hown hK hP 0 rfl rfl 0 (by decide) (ht _ wd77) (fun _ h9 => h9) rfl dX_sample_22 ?_
    refine lv_iload_n hx hb dX_sample_25 rfl (lv_at hl 3 rfl) ?_
    refine zz_ci (v := nI (tr_off Ls pp + 0)) (W.runV (As := [.int (nI pp)]) (rest := []) ⟨hx, hb, hml, hown, ht⟩ (c_T_start l D cI cB t0 t1 t2 f g pp (tr_off Ls pp) (by omega) (hT.1 pp (by omega))) (cwV 1 ht (gd_V wd172 wd122 wd123 wd2 wd124) rfl rfl rfl (by decide +kernel) ⟨Nat.le_of_ble_eq_true rfl, Nat.le_of_ble_eq_true rfl⟩) (zz_R_V hN hK (hP.sub (ws' := [(t0, .inr (0, [.ref t1, .ref t2])), (t1, .inl (cI, 400, .inl f)), (t2, .inl (cI, 9, .inl g))]) [1, 2, 3] rfl) 0 0 rfl rfl) rfl rfl hl.1 rfl (lv_room (Nat.le_of_ble_eq_true rfl)) dX_sample_26 ⟨Nat.le_of_ble_eq_true rfl, Nat.le_of_ble_eq_true rfl⟩) ?_
    refine lv_istore (lv' := [(5, .int (nI (tr_off Ls pp + 0))), (4, .int (nI 0)), (3, .int (nI (tr_off Ls pp + (Ls pp).length))), (0, .ref x0), (1, .int (nI pp)), (2, .int i1)]) hx hb dX_sample_29 hl (by decide) rfl (fun ls hl => ?_)
    have lp31 : ∀ (fu : Nat) (i : Nat) (hi : i ≤ (Ls pp).length) (hne : ∀ j, j < (((Ls pp).take i).filter smp).length → i1 ≠ nI j) (hm : (Ls pp).length - i < fu) (ls : Array Slot) (hl : lv_has ls 6 [(0, .ref x0), (1, .int (nI pp)), (2, .int i1), (3, .int (nI (tr_off Ls pp + (Ls pp).length))), (4, .int (nI ((((Ls pp).take i).filter smp).length))), (5, .int (nI (tr_off Ls pp + i)))]), W pg l ev (headSpec wX_sample rm_X_sample).room s mt (([.ref x0, .int p1, .int i1] : List Value).toArray) below meth kd s.heap [] 0 0 (MQ below (vp_Si (fun r : Int32 => (inr_ 8 p1 = false ∧ r = -1) ∨ ∃ pp, pp < 8 ∧ p1 = nI pp ∧ ((∃ ii, ii < ((Ls pp).filter smp).length ∧ i1 = nI ii ∧ r = nI (((Ls pp).filter smp).getD ii 0)) ∨ ((∀ ii, ii < ((Ls pp).filter smp).length → i1 ≠ nI ii) ∧ r = -2)))) (([.ref x0, .int p1, .int i1] : List Value).toArray) s 0 0 (fun _ => False)) (F0 mt 31 ls []) := by
      intro fu
      induction fu with
      | zero => intro i hi hne hm; exact absurd hm (Nat.not_lt_zero _)
      | succ fu ih31 =>
        intro i hi hne hm ls hl
        refine lv_iload hx hb dX_sample_31 (lv_at hl 5 rfl) ?_
        refine lv_iload_n hx hb dX_sample_33 rfl (lv_at hl 3 rfl) ?_
        refine lv_icmp_ge (tgt := 74) hx hb dX_sample_34 (by decide) (fun c34 => ?_) (fun c34 => ?_)
        · -- taken
          have c34 : tr_off Ls pp + (Ls pp).length ≤ tr_off Ls pp + i := (nI_leI (a := tr_off Ls pp + (Ls pp).length) (b := tr_off Ls pp + i) (by omega) (by omega)).mp c34
          refine lv_bipush (v := (-2)) hx hb dX_sample_74 (by decide) ?_
          exact zz_iretR (v := (-2)) hx hb hr hlocks (Or.inr ⟨pp, hpp, epp, Or.inr ⟨by
            rw [tkl _ i (by omega)] at hne
            exact hne, rfl⟩⟩) dX_sample_76
        · -- not taken
          have c34 : ¬ (tr_off Ls pp + (Ls pp).length ≤ tr_off Ls pp + i) := fun h => c34 ((nI_leI (a := tr_off Ls pp + (Ls pp).length) (b := tr_off Ls pp + i) (by omega) (by omega)).mpr h)
          have hsb := btl (smp ((Ls pp).getD i 0))
          refine lv_aload_n hx hb dX_sample_37 rfl (lv_at hl 0 rfl) ?_
          refine va_get (D := D) (ci := 4) (v := .ref t0) (C := "StatRows") (T := TX) (N := 5) hx hb ht inX hown hK hP 0 rfl rfl 0 (by decide) (ht _ wd77) (fun _ h9 => h9) rfl dX_sample_38 ?_
          refine lv_iload hx hb dX_sample_41 (lv_at hl 5 rfl) ?_
          refine zz_ci (v := nI ((smp ((Ls pp).getD i 0)).toNat)) (W.runV (As := [.int (nI (tr_off Ls pp + i))]) (rest := []) ⟨hx, hb, hml, hown, ht⟩ (c_T_isSampled l D cI cB t0 t1 t2 f g (tr_off Ls pp + i) ((Ls pp).getD i 0) (by omega) (hT.2.1 pp hpp i (by omega))) (cwV 1 ht (gd_V wd189 wd190 wd191 wd2 wd192) rfl rfl rfl (by decide +kernel) ⟨Nat.le_of_ble_eq_true rfl, Nat.le_of_ble_eq_true rfl⟩) (zz_R_V hN hK (hP.sub (ws' := [(t0, .inr (0, [.ref t1, .ref t2])), (t1, .inl (cI, 400, .inl f)), (t2, .inl (cI, 9, .inl g))]) [1, 2, 3] rfl) 0 0 rfl rfl) rfl rfl hl.1 rfl (lv_room (Nat.le_of_ble_eq_true rfl)) dX_sample_43 ⟨Nat.le_of_ble_eq_true rfl, Nat.le_of_ble_eq_true rfl⟩) ?_
          refine lv_if_eq (tgt := 68) hx hb dX_sample_46 (by decide) (fun c46 => ?_) (fun c46 => ?_)
          · -- taken
            have c46 : (smp ((Ls pp).getD i 0)).toNat = 0 := (nI_eq (a := (smp ((Ls pp).getD i 0)).toNat) (b := 0) (by omega) (by omega)).mp c46
            have ez : ((Ls pp).take i).filter smp = ((Ls pp).take (i + 1)).filter smp := by
              rw [tk1 _ i 0 (by omega), List.filter_append, List.filter_cons_of_neg (by rw [bt0 c46]; decide)]; simp
            rw [ez] at hl
            have hne2 := hne
            rw [ez] at hne2
            refine lv_iinc (v := nI (tr_off Ls pp + i + 1)) (lv' := [(5, .int (nI (tr_off Ls pp + i + 1))), (0, .ref x0), (1, .int (nI pp)), (2, .int i1), (3, .int (nI (tr_off Ls pp + (Ls pp).length))), (4, .int (nI ((((Ls pp).take (i + 1)).filter smp).length)))]) hx hb dX_sample_68 hl (k := 5) rfl (nI_1 (tr_off Ls pp + i)) (by decide) rfl (fun ls hl => ?_)
            refine lv_goto (tgt := 31) hx hb dX_sample_71 (by decide) ?_
            exact ih31 (i + 1) (by omega) hne2 (by omega) ls (lv_sub hl [1, 2, 3, 4, 5, 0] rfl)
          · -- not taken
            have c46 : ¬ ((smp ((Ls pp).getD i 0)).toNat = 0) := fun h => c46 ((nI_eq (a := (smp ((Ls pp).getD i 0)).toNat) (b := 0) (by omega) (by omega)).mpr h)
            have hsm := bt1 c46
            have hfa := flt_at smp (Ls pp) i (by omega) hsm
            refine lv_iload hx hb dX_sample_49 (lv_at hl 4 rfl) ?_
            refine lv_iload_n hx hb dX_sample_51 rfl (lv_at hl 2 rfl) ?_
            refine lv_icmp_ne (tgt := 65) hx hb dX_sample_52 (by decide) (fun c52 => ?_) (fun c52 => ?_)
            · -- taken
              refine lv_iinc (v := nI ((((Ls pp).take i).filter smp).length + 1)) (lv' := [(4, .int (nI ((((Ls pp).take i).filter smp).length + 1))), (0, .ref x0), (1, .int (nI pp)), (2, .int i1), (3, .int (nI (tr_off Ls pp + (Ls pp).length))), (5, .int (nI (tr_off Ls pp + i)))]) hx hb dX_sample_65 hl (k := 4) rfl (nI_1 ((((Ls pp).take i).filter smp).length)) (by decide) rfl (fun ls hl => ?_)
              have ez : (((Ls pp).take i).filter smp).length + 1 = (((Ls pp).take (i + 1)).filter smp).length := by
                rw [tk1 _ i 0 (by omega), List.filter_append, List.filter_cons_of_pos hsm]; simp
              rw [ez] at hl
              have hne2 : ∀ j, j < (((Ls pp).take (i + 1)).filter smp).length → i1 ≠ nI j := fun j h => by
                by_cases q : j = (((Ls pp).take i).filter smp).length
                · rw [q]; exact fun z => c52 z.symm
                · exact hne j (by omega)
              refine lv_iinc (v := nI (tr_off Ls pp + i + 1)) (lv' := [(5, .int (nI (tr_off Ls pp + i + 1))), (4, .int (nI ((((Ls pp).take (i + 1)).filter smp).length))), (0, .ref x0), (1, .int (nI pp)), (2, .int i1), (3, .int (nI (tr_off Ls pp + (Ls pp).length)))]) hx hb dX_sample_68 hl (k := 5) rfl (nI_1 (tr_off Ls pp + i)) (by decide) rfl (fun ls hl => ?_)
              refine lv_goto (tgt := 31) hx hb dX_sample_71 (by decide) ?_
              exact ih31 (i + 1) (by omega) hne2 (by omega) ls (lv_sub hl [2, 3, 4, 5, 1, 0] rfl)
            · -- not taken
              refine lv_aload_n hx hb dX_sample_55 rfl (lv_at hl 0 rfl) ?_
              refine va_get (D := D) (ci := 4) (v := .ref t0) (C := "StatRows") (T := TX) (N := 5) hx hb ht inX hown hK hP 0 rfl rfl 0 (by decide) (ht _ wd77) (fun _ h9 => h9) rfl dX_sample_56 ?_
              refine lv_iload hx hb dX_sample_59 (lv_at hl 5 rfl) ?_
              refine zz_ci (v := nI ((Ls pp).getD i 0)) (W.runV (As := [.int (nI (tr_off Ls pp + i))]) (rest := []) ⟨hx, hb, hml, hown, ht⟩ (c_T_pairAt l D cI cB t0 t1 t2 f g (tr_off Ls pp + i) ((Ls pp).getD i 0) (by omega) (hT.2.1 pp hpp i (by omega))) (cwV 1 ht (gd_V wd298 wd299 wd300 wd2 wd301) rfl rfl rfl (by decide +kernel) ⟨Nat.le_of_ble_eq_true rfl, Nat.le_of_ble_eq_true rfl⟩) (zz_R_V hN hK (hP.sub (ws' := [(t0, .inr (0, [.ref t1, .ref t2])), (t1, .inl (cI, 400, .inl f)), (t2, .inl (cI, 9, .inl g))]) [1, 2, 3] rfl) 0 0 rfl rfl) rfl rfl hl.1 rfl (lv_room (Nat.le_of_ble_eq_true rfl)) dX_sample_61 ⟨Nat.le_of_ble_eq_true rfl, Nat.le_of_ble_eq_true rfl⟩) ?_
              exact zz_iretR (v := nI ((Ls pp).getD i 0)) hx hb hr hlocks (Or.inr ⟨pp, hpp, epp, Or.inl ⟨_, hfa.1, c52.symm, by rw [hfa.2]⟩⟩) dX_sample_64
    exact lp31 (((Ls pp).length - 0) + 1) 0 (Nat.zero_le _) (fun j h => absurd h (Nat.not_lt_zero _)) (Nat.lt_succ_self _) ls (lv_sub hl [3, 4, 5, 2, 1, 0] rfl)
  · -- not taken
    have c4 : (inr_ 8 p1).toNat = 0 := (nI_eq (a := (inr_ 8 p1).toNat) (b := 0) (by omega) (by omega)).mp c4
    have hb1 : inr_ 8 p1 = false := bt0 (by omega)
    refine lv_iconst (v := (-1)) hx hb dX_sample_7 (by decide) ?_
    exact zz_iretR (v := (-1)) hx hb hr hlocks (Or.inl ⟨hb1, rfl⟩) dX_sample_8
end
section
abbrev rm_X_pattern : Room := { frames := 2, cells := 0, slots := 0, locals := 40 }
set_option maxHeartbeats 4000000 in
set_option maxRecDepth 100000 in
theorem c_X_pattern (l : Launch) (D : va_G) (cI cB : ClassId) (sz : Nat) (x0 t0 t1 t2 p0 v0 g0 ta p1_ p2_ p3_ : Nat) (fs fp fo : Nat → Int32) (n : Nat) (hn : n ≤ 30) (s1 p1 o1 : Int32) : Met l yX_pattern wX_pattern rm_X_pattern (zz_P D vwCl [(cI, .int), (cB, .boolean)] [.ref x0, .int s1, .int p1, .int o1] [(x0, .inr (4, [.ref t0, .ref p0, .ref v0, .ref g0, .ref ta])), (p0, .inr (1, [.ref p1_, .ref p2_, .ref p3_, .int (nI n)])), (p1_, .inl (cI, 30, .inl fs)), (p2_, .inl (cI, 30, .inl fp)), (p3_, .inl (cI, 30, .inl fo))] sz) (va_Qi (fun (r : Int32) (u : ((Nat → Int32) × (Nat → Int32) × (Nat → Int32) × Nat)) => (((decide (s1 = -1) || inr_ 256 s1) && (decide (p1 = -1) || inr_ 8 p1) && (decide (o1 = -1) || inr_ 256 o1)) = false ∧ r = -1 ∧ u = (fs, fp, fo, n)) ∨ (((decide (s1 = -1) || inr_ 256 s1) && (decide (p1 = -1) || inr_ 8 p1) && (decide (o1 = -1) || inr_ 256 o1)) = true ∧ ((∃ j, j < n ∧ (fs j = s1 ∧ fp j = p1 ∧ fo j = o1) ∧ (∀ i, i < j → ¬ (fs i = s1 ∧ fp i = p1 ∧ fo i = o1)) ∧ r = nI j ∧ u = (fs, fp, fo, n)) ∨ ((∀ i, i < n → ¬ (fs i = s1 ∧ fp i = p1 ∧ fo i = o1)) ∧ ((n = 30 ∧ r = -3 ∧ u = (fs, fp, fo, n)) ∨ (n < 30 ∧ r = nI n ∧ u = (upd fs n s1, upd fp n p1, upd fo n o1, n + 1))))))) (fun u : ((Nat → Int32) × (Nat → Int32) × (Nat → Int32) × Nat) => zz_B D vwCl [(cI, .int), (cB, .boolean)] (va_A [(x0, .inr (4, [.ref t0, .ref p0, .ref v0, .ref g0, .ref ta])), (p0, .inr (1, [.ref p1_, .ref p2_, .ref p3_, .int (nI n)])), (p1_, .inl (cI, 30, .inl fs)), (p2_, .inl (cI, 30, .inl fp)), (p3_, .inl (cI, 30, .inl fo))] sz) [(x0, .inr (4, [.ref t0, .ref p0, .ref v0, .ref g0, .ref ta])), (p0, .inr (1, [.ref p1_, .ref p2_, .ref p3_, .int (nI u.2.2.2)])), (p1_, .inl (cI, 30, .inl u.1)), (p2_, .inl (cI, 30, .inl u.2.1)), (p3_, .inl (cI, 30, .inl u.2.2.1))]) (va_A [(x0, .inr (4, [.ref t0, .ref p0, .ref v0, .ref g0, .ref ta])), (p0, .inr (1, [.ref p1_, .ref p2_, .ref p3_, .int (nI n)])), (p1_, .inl (cI, 30, .inl fs)), (p2_, .inl (cI, 30, .inl fp)), (p3_, .inl (cI, 30, .inl fo))] sz)) 0 0 (va_A [(x0, .inr (4, [.ref t0, .ref p0, .ref v0, .ref g0, .ref ta])), (p0, .inr (1, [.ref p1_, .ref p2_, .ref p3_, .int (nI n)])), (p1_, .inl (cI, 30, .inl fs)), (p2_, .inl (cI, 30, .inl fp)), (p3_, .inl (cI, 30, .inl fo))] sz) := by
  refine Met.ofW (cc := cX_pattern) (maxL := 4) (ret := (some .int)) (by decide) rfl ?_
  intro pg ev s mt args below meth kd s₁ B hml hv
  obtain ⟨rfl, hsz, hP, hK, hD0, hN⟩ := hv
  have hx := B.exec
  have hb := B.bytes
  have hr := B.returns
  have ht : ∀ w ∈ W0, w.before _ s = true := fun w h => atoms_spec (ws := wX_pattern) B.pre w (List.mem_cons_of_mem _ h)
  have hown : s.vm.findClass "StatRows" = some mt.cls := findClass_of_methodNamed B.named
  have hlocks := B.notSynchronized
  subst hsz
  have hD := hD0.self (sz := s.heap.size)
  generalize hAe : va_A [(x0, .inr (4, [.ref t0, .ref p0, .ref v0, .ref g0, .ref ta])), (p0, .inr (1, [.ref p1_, .ref p2_, .ref p3_, .int (nI n)])), (p1_, .inl (cI, 30, .inl fs)), (p2_, .inl (cI, 30, .inl fp)), (p3_, .inl (cI, 30, .inl fo))] s.heap.size = A at hD ⊢
  have hA : ∀ q : Nat, s.heap.size ≤ q → A q := fun q h => by rw [← hAe]; exact Or.inr h
  have hS : va_S A s.heap s.heap [] := va_S.rf
  have hP : va_P D vwCl [(x0, .inr (4, [.ref t0, .ref p0, .ref v0, .ref g0, .ref ta])), (p0, .inr (1, [.ref p1_, .ref p2_, .ref p3_, .int (nI n)])), (p1_, .inl (cI, 30, .inl fs)), (p2_, .inl (cI, 30, .inl fp)), (p3_, .inl (cI, 30, .inl fo))] s.heap := hP
  have hl := lv_entry ([.ref x0, .int s1, .int p1, .int o1]) (n := 4) (Nat.le_of_ble_eq_true rfl)
  rw [lg_entry_eq]
  generalize (lg_sl ([.ref x0, .int s1, .int p1, .int o1]) ++ List.replicate (4 - (lg_sl ([.ref x0, .int s1, .int p1, .int o1])).length) Slot.unset).toArray = ls at hl ⊢
  have hl : lv_has ls 4 [(0, .ref x0), (1, .int s1), (2, .int p1), (3, .int o1)] := hl
  have bl0 := btl ((decide (s1 = -1) || inr_ 256 s1))
  have bl1 := btl ((decide (p1 = -1) || inr_ 8 p1))
  have bl2 := btl ((decide (o1 = -1) || inr_ 256 o1))
  refine lv_iload_n hx hb dX_pattern_0 rfl (lv_at hl 1 rfl) ?_
  refine zz_ci (v := nI ((decide (s1 = -1) || inr_ 256 s1).toNat)) (W.runS (As := [.int s1]) (rest := []) ⟨hx, hb, hml, hown, ht⟩ (c_X_isNumberOrAny l s1) (va_cwS 1 ht (gd_S wd306 wd307 wd1 wd308) rfl rfl rfl (by decide +kernel) ⟨Nat.le_of_ble_eq_true rfl, Nat.le_of_ble_eq_true rfl⟩) zz_N_S rfl rfl hl.1 rfl (lv_room (Nat.le_of_ble_eq_true rfl)) dX_pattern_1 ⟨Nat.le_of_ble_eq_true rfl, Nat.le_of_ble_eq_true rfl⟩) ?_
  refine lv_if_eq (tgt := 21) hx hb dX_pattern_4 (by decide) (fun c4 => ?_) (fun c4 => ?_)
  · -- taken
    have c4 : (decide (s1 = -1) || inr_ 256 s1).toNat = 0 := (nI_eq (a := (decide (s1 = -1) || inr_ 256 s1).toNat) (b := 0) (by omega) (by omega)).mp c4
    have hs : ((decide (s1 = -1) || inr_ 256 s1) && (decide (p1 = -1) || inr_ 8 p1) && (decide (o1 = -1) || inr_ 256 o1)) = false := by rw [bt0 c4]; rfl
    refine lv_iconst (v := (-1)) hx hb dX_pattern_21 (by decide) ?_
    exact zz_iretW (v := (-1)) (w1 := fun u : ((Nat → Int32) × (Nat → Int32) × (Nat → Int32) × Nat) => [(x0, .inr (4, [.ref t0, .ref p0, .ref v0, .ref g0, .ref ta])), (p0, .inr (1, [.ref p1_, .ref p2_, .ref p3_, .int (nI u.2.2.2)])), (p1_, .inl (cI, 30, .inl u.1)), (p2_, .inl (cI, 30, .inl u.2.1)), (p3_, .inl (cI, 30, .inl u.2.2.1))]) (fs, fp, fo, n) hx hb hr hlocks (Or.inl ⟨hs, rfl, rfl⟩) hP hK hD hS dX_pattern_22
  · -- not taken
    have c4 : ¬ ((decide (s1 = -1) || inr_ 256 s1).toNat = 0) := fun h => c4 ((nI_eq (a := (decide (s1 = -1) || inr_ 256 s1).toNat) (b := 0) (by omega) (by omega)).mpr h)
    have e1 := bt1 c4
    refine lv_iload_n hx hb dX_pattern_7 rfl (lv_at hl 2 rfl) ?_
    refine zz_ci (v := nI ((decide (p1 = -1) || inr_ 8 p1).toNat)) (W.runS (As := [.int p1]) (rest := []) ⟨hx, hb, hml, hown, ht⟩ (c_X_isPredicateOrAny l p1) (va_cwS 1 ht (gd_S wd309 wd310 wd1 wd311) rfl rfl rfl (by decide +kernel) ⟨Nat.le_of_ble_eq_true rfl, Nat.le_of_ble_eq_true rfl⟩) zz_N_S rfl rfl hl.1 rfl (lv_room (Nat.le_of_ble_eq_true rfl)) dX_pattern_8 ⟨Nat.le_of_ble_eq_true rfl, Nat.le_of_ble_eq_true rfl⟩) ?_
    refine lv_if_eq (tgt := 21) hx hb dX_pattern_11 (by decide) (fun c11 => ?_) (fun c11 => ?_)
    · -- taken
      have c11 : (decide (p1 = -1) || inr_ 8 p1).toNat = 0 := (nI_eq (a := (decide (p1 = -1) || inr_ 8 p1).toNat) (b := 0) (by omega) (by omega)).mp c11
      have hs : ((decide (s1 = -1) || inr_ 256 s1) && (decide (p1 = -1) || inr_ 8 p1) && (decide (o1 = -1) || inr_ 256 o1)) = false := by rw [e1, bt0 c11]; rfl
      refine lv_iconst (v := (-1)) hx hb dX_pattern_21 (by decide) ?_
      exact zz_iretW (v := (-1)) (w1 := fun u : ((Nat → Int32) × (Nat → Int32) × (Nat → Int32) × Nat) => [(x0, .inr (4, [.ref t0, .ref p0, .ref v0, .ref g0, .ref ta])), (p0, .inr (1, [.ref p1_, .ref p2_, .ref p3_, .int (nI u.2.2.2)])), (p1_, .inl (cI, 30, .inl u.1)), (p2_, .inl (cI, 30, .inl u.2.1)), (p3_, .inl (cI, 30, .inl u.2.2.1))]) (fs, fp, fo, n) hx hb hr hlocks (Or.inl ⟨hs, rfl, rfl⟩) hP hK hD hS dX_pattern_22
    · -- not taken
      have c11 : ¬ ((decide (p1 = -1) || inr_ 8 p1).toNat = 0) := fun h => c11 ((nI_eq (a := (decide (p1 = -1) || inr_ 8 p1).toNat) (b := 0) (by omega) (by omega)).mpr h)
      have e2 := bt1 c11
      refine lv_iload_n hx hb dX_pattern_14 rfl (lv_at hl 3 rfl) ?_
      refine zz_ci (v := nI ((decide (o1 = -1) || inr_ 256 o1).toNat)) (W.runS (As := [.int o1]) (rest := []) ⟨hx, hb, hml, hown, ht⟩ (c_X_isNumberOrAny l o1) (va_cwS 1 ht (gd_S wd306 wd307 wd1 wd308) rfl rfl rfl (by decide +kernel) ⟨Nat.le_of_ble_eq_true rfl, Nat.le_of_ble_eq_true rfl⟩) zz_N_S rfl rfl hl.1 rfl (lv_room (Nat.le_of_ble_eq_true rfl)) dX_pattern_15 ⟨Nat.le_of_ble_eq_true rfl, Nat.le_of_ble_eq_true rfl⟩) ?_
      refine lv_if_ne (tgt := 23) hx hb dX_pattern_18 (by decide) (fun c18 => ?_) (fun c18 => ?_)
      · -- taken
        have c18 : ¬ ((decide (o1 = -1) || inr_ 256 o1).toNat = 0) := fun h => c18 ((nI_eq (a := (decide (o1 = -1) || inr_ 256 o1).toNat) (b := 0) (by omega) (by omega)).mpr h)
        have hs : ((decide (s1 = -1) || inr_ 256 s1) && (decide (p1 = -1) || inr_ 8 p1) && (decide (o1 = -1) || inr_ 256 o1)) = true := by rw [e1, e2, bt1 c18]; rfl
        refine lv_aload_n hx hb dX_pattern_23 rfl (lv_at hl 0 rfl) ?_
        refine va_get (D := D) (ci := 4) (v := .ref p0) (C := "StatRows") (T := TX) (N := 5) hx hb ht inX hown hK hP 0 rfl rfl 1 (by decide) (ht _ wd78) (fun _ h9 => h9) rfl dX_pattern_24 ?_
        refine lv_iload_n hx hb dX_pattern_27 rfl (lv_at hl 1 rfl) ?_
        refine lv_iload_n hx hb dX_pattern_28 rfl (lv_at hl 2 rfl) ?_
        refine lv_iload_n hx hb dX_pattern_29 rfl (lv_at hl 3 rfl) ?_
        refine zz_wi (wc := [(p0, .inr (1, [.ref p1_, .ref p2_, .ref p3_, .int (nI n)])), (p1_, .inl (cI, 30, .inl fs)), (p2_, .inl (cI, 30, .inl fp)), (p3_, .inl (cI, 30, .inl fo))]) (wr := [(x0, .inr (4, [.ref t0, .ref p0, .ref v0, .ref g0, .ref ta]))]) (va_runV (As := [.int s1, .int p1, .int o1]) (rest := []) ⟨hx, hb, hml, hown, ht⟩ (c_P_rowOf l D cI cB s.heap.size p0 p1_ p2_ p3_ fs fp fo n hn s1 p1 o1) (cwV 3 ht (gd_V wd312 wd313 wd314 wd3 wd315) rfl rfl rfl (by decide +kernel) ⟨Nat.le_of_ble_eq_true rfl, Nat.le_of_ble_eq_true rfl⟩) (zz_P_V hN hK (hP.sub (ws' := [(p0, .inr (1, [.ref p1_, .ref p2_, .ref p3_, .int (nI n)])), (p1_, .inl (cI, 30, .inl fs)), (p2_, .inl (cI, 30, .inl fp)), (p3_, .inl (cI, 30, .inl fo))]) [1, 2, 3, 4] rfl) (hD.sub (ws' := [(p0, .inr (1, [.ref p1_, .ref p2_, .ref p3_, .int (nI n)])), (p1_, .inl (cI, 30, .inl fs)), (p2_, .inl (cI, 30, .inl fp)), (p3_, .inl (cI, 30, .inl fo))]) [1, 2, 3, 4] (by decide) rfl) 1 0 rfl rfl) rfl rfl hl.1 rfl (lv_room (Nat.le_of_ble_eq_true rfl)) dX_pattern_30 ⟨Nat.le_of_ble_eq_true rfl, Nat.le_of_ble_eq_true rfl⟩) hP hD hS hA [1, 2, 3, 4] [0] rfl rfl (by decide) (by decide) (fun r30 u30 H locs hq30 hP hD hS => ?_)
        have hP := hP.sub (ws' := [(x0, .inr (4, [.ref t0, .ref p0, .ref v0, .ref g0, .ref ta])), (p0, .inr (1, [.ref p1_, .ref p2_, .ref p3_, .int (nI u30.2.2.2)])), (p1_, .inl (cI, 30, .inl u30.1)), (p2_, .inl (cI, 30, .inl u30.2.1)), (p3_, .inl (cI, 30, .inl u30.2.2.1))]) [0, 1, 2, 3, 4] rfl
        have hD := hD.sub (ws' := [(x0, .inr (4, [.ref t0, .ref p0, .ref v0, .ref g0, .ref ta])), (p0, .inr (1, [.ref p1_, .ref p2_, .ref p3_, .int (nI u30.2.2.2)])), (p1_, .inl (cI, 30, .inl u30.1)), (p2_, .inl (cI, 30, .inl u30.2.1)), (p3_, .inl (cI, 30, .inl u30.2.2.1))]) [0, 1, 2, 3, 4] (by decide) rfl
        exact zz_iretW (v := r30) (w1 := fun u : ((Nat → Int32) × (Nat → Int32) × (Nat → Int32) × Nat) => [(x0, .inr (4, [.ref t0, .ref p0, .ref v0, .ref g0, .ref ta])), (p0, .inr (1, [.ref p1_, .ref p2_, .ref p3_, .int (nI u.2.2.2)])), (p1_, .inl (cI, 30, .inl u.1)), (p2_, .inl (cI, 30, .inl u.2.1)), (p3_, .inl (cI, 30, .inl u.2.2.1))]) u30 hx hb hr hlocks (Or.inr ⟨hs, hq30⟩) hP hK hD hS dX_pattern_33
      · -- not taken
        have c18 : (decide (o1 = -1) || inr_ 256 o1).toNat = 0 := (nI_eq (a := (decide (o1 = -1) || inr_ 256 o1).toNat) (b := 0) (by omega) (by omega)).mp c18
        have hs : ((decide (s1 = -1) || inr_ 256 s1) && (decide (p1 = -1) || inr_ 8 p1) && (decide (o1 = -1) || inr_ 256 o1)) = false := by rw [e1, e2, bt0 (b := (decide (o1 = -1) || inr_ 256 o1)) (by omega)]; rfl
        refine lv_iconst (v := (-1)) hx hb dX_pattern_21 (by decide) ?_
        exact zz_iretW (v := (-1)) (w1 := fun u : ((Nat → Int32) × (Nat → Int32) × (Nat → Int32) × Nat) => [(x0, .inr (4, [.ref t0, .ref p0, .ref v0, .ref g0, .ref ta])), (p0, .inr (1, [.ref p1_, .ref p2_, .ref p3_, .int (nI u.2.2.2)])), (p1_, .inl (cI, 30, .inl u.1)), (p2_, .inl (cI, 30, .inl u.2.1)), (p3_, .inl (cI, 30, .inl u.2.2.1))]) (fs, fp, fo, n) hx hb hr hlocks (Or.inl ⟨hs, rfl, rfl⟩) hP hK hD hS dX_pattern_22

abbrev rm_X_matches : Room := { frames := 2, cells := 0, slots := 0, locals := 45 }
set_option maxHeartbeats 4000000 in
set_option maxRecDepth 100000 in
theorem c_X_matches (l : Launch) (D : va_G) (cI cB : ClassId) (x0 t0 t1 t2 p0 v0 g0 ta p1_ p2_ p3_ : Nat) (f g : Nat → Int32) (Ls : Nat → List Nat) (hT : RT Ls f g) (fs fp fo : Nat → Int32) (n : Nat) (hn : n ≤ 30) (row : Int32) : Met l yX_matches wX_matches rm_X_matches (zz_R D vwCl [(cI, .int), (cB, .boolean)] [.ref x0, .int row] [(x0, .inr (4, [.ref t0, .ref p0, .ref v0, .ref g0, .ref ta])), (t0, .inr (0, [.ref t1, .ref t2])), (t1, .inl (cI, 400, .inl f)), (t2, .inl (cI, 9, .inl g)), (p0, .inr (1, [.ref p1_, .ref p2_, .ref p3_, .int (nI n)])), (p1_, .inl (cI, 30, .inl fs)), (p2_, .inl (cI, 30, .inl fp)), (p3_, .inl (cI, 30, .inl fo))]) (vp_Si (fun r : Int32 => (¬ (¬ row < 0 ∧ ¬ nI n ≤ row) ∧ r = -1) ∨ ∃ k, k < n ∧ row = nI k ∧ r = nI (mts Ls (gow (fs k) (fp k) (fo k)) 8))) 0 0 (fun _ => False) := by
  refine Met.ofW (cc := cX_matches) (maxL := 6) (ret := (some .int)) (by decide) rfl ?_
  intro pg ev s mt args below meth kd s₁ B hml hv
  obtain ⟨rfl, hP, hK, hN⟩ := hv
  have hx := B.exec
  have hb := B.bytes
  have hr := B.returns
  have ht : ∀ w ∈ W0, w.before _ s = true := fun w h => atoms_spec (ws := wX_matches) B.pre w (List.mem_cons_of_mem _ h)
  have hown : s.vm.findClass "StatRows" = some mt.cls := findClass_of_methodNamed B.named
  have hlocks := B.notSynchronized
  have hl := lv_entry ([.ref x0, .int row]) (n := 6) (Nat.le_of_ble_eq_true rfl)
  rw [lg_entry_eq]
  generalize (lg_sl ([.ref x0, .int row]) ++ List.replicate (6 - (lg_sl ([.ref x0, .int row])).length) Slot.unset).toArray = ls at hl ⊢
  have hl : lv_has ls 6 [(0, .ref x0), (1, .int row)] := hl
  have h400 := hT.2.2.1
  have bl0 := btl (decide (¬ row < 0 ∧ ¬ nI n ≤ row))
  refine lv_aload_n hx hb dX_matches_0 rfl (lv_at hl 0 rfl) ?_
  refine va_get (D := D) (ci := 4) (v := .ref p0) (C := "StatRows") (T := TX) (N := 5) hx hb ht inX hown hK hP 0 rfl rfl 1 (by decide) (ht _ wd78) (fun _ h9 => h9) rfl dX_matches_1 ?_
  refine lv_iload_n hx hb dX_matches_4 rfl (lv_at hl 1 rfl) ?_
  refine zz_ci (v := nI ((decide (¬ row < 0 ∧ ¬ nI n ≤ row)).toNat)) (W.runV (As := [.int row]) (rest := []) ⟨hx, hb, hml, hown, ht⟩ (c_P_has l D cI cB p0 p1_ p2_ p3_ fs fp fo n hn row) (cwV 1 ht (gd_V wd320 wd321 wd322 wd3 wd323) rfl rfl rfl (by decide +kernel) ⟨Nat.le_of_ble_eq_true rfl, Nat.le_of_ble_eq_true rfl⟩) (zz_R_V hN hK (hP.sub (ws' := [(p0, .inr (1, [.ref p1_, .ref p2_, .ref p3_, .int (nI n)])), (p1_, .inl (cI, 30, .inl fs)), (p2_, .inl (cI, 30, .inl fp)), (p3_, .inl (cI, 30, .inl fo))]) [4, 5, 6, 7] rfl) 1 0 rfl rfl) rfl rfl hl.1 rfl (lv_room (Nat.le_of_ble_eq_true rfl)) dX_matches_5 ⟨Nat.le_of_ble_eq_true rfl, Nat.le_of_ble_eq_true rfl⟩) ?_
  refine lv_if_ne (tgt := 13) hx hb dX_matches_8 (by decide) (fun c8 => ?_) (fun c8 => ?_)
  · -- taken
    have c8 : ¬ ((decide (¬ row < 0 ∧ ¬ nI n ≤ row)).toNat = 0) := fun h => c8 ((nI_eq (a := (decide (¬ row < 0 ∧ ¬ nI n ≤ row)).toNat) (b := 0) (by omega) (by omega)).mpr h)
    have hin := of_decide_eq_true (bt1 c8)
    obtain ⟨k, hk, ek⟩ := zz_in (n := n) (by omega) hin.1 hin.2
    rw [ek] at hl
    refine lv_iconst (v := nI 0) hx hb dX_matches_13 (by decide) ?_
    refine lv_istore_n (lv' := [(2, .int (nI 0)), (0, .ref x0), (1, .int (nI k))]) hx hb dX_matches_14 rfl hl (by decide) rfl (fun ls hl => ?_)
    refine lv_iconst (v := nI 0) hx hb dX_matches_15 (by decide) ?_
    refine lv_istore_n (lv' := [(3, .int (nI 0)), (2, .int (nI 0)), (0, .ref x0), (1, .int (nI k))]) hx hb dX_matches_16 rfl hl (by decide) rfl (fun ls hl => ?_)
    have lp17 : ∀ (fu : Nat) (pp : Nat) (hpp : pp ≤ 8) (hm : 8 - pp < fu) (ls : Array Slot) (hl : lv_has ls 6 [(0, .ref x0), (1, .int (nI k)), (2, .int (nI (mts Ls (gow (fs k) (fp k) (fo k)) pp))), (3, .int (nI pp))]), W pg l ev (headSpec wX_matches rm_X_matches).room s mt (([.ref x0, .int row] : List Value).toArray) below meth kd s.heap [] 0 0 (MQ below (vp_Si (fun r : Int32 => (¬ (¬ row < 0 ∧ ¬ nI n ≤ row) ∧ r = -1) ∨ ∃ k, k < n ∧ row = nI k ∧ r = nI (mts Ls (gow (fs k) (fp k) (fo k)) 8))) (([.ref x0, .int row] : List Value).toArray) s 0 0 (fun _ => False)) (F0 mt 17 ls []) := by
      intro fu
      induction fu with
      | zero => intro pp hpp hm; exact absurd hm (Nat.not_lt_zero _)
      | succ fu ih17 =>
        intro pp hpp hm ls hl
        refine lv_iload_n hx hb dX_matches_17 rfl (lv_at hl 3 rfl) ?_
        refine lv_bipush (v := nI 8) hx hb dX_matches_18 (by decide) ?_
        refine lv_icmp_ge (tgt := 95) hx hb dX_matches_20 (by decide) (fun c20 => ?_) (fun c20 => ?_)
        · -- taken
          have c20 : 8 ≤ pp := (nI_leI (a := 8) (b := pp) (by omega) (by omega)).mp c20
          refine lv_iload_n hx hb dX_matches_95 rfl (lv_at hl 2 rfl) ?_
          exact zz_iretR (v := nI (mts Ls (gow (fs k) (fp k) (fo k)) pp)) hx hb hr hlocks (Or.inr ⟨k, hk, ek, by rw [show pp = 8 by omega]⟩) dX_matches_96
        · -- not taken
          have c20 : ¬ (8 ≤ pp) := fun h => c20 ((nI_leI (a := 8) (b := pp) (by omega) (by omega)).mpr h)
          have hp : pp < 8 := by omega
          have htp := tr_top (Ls := Ls) hp
          refine lv_aload_n hx hb dX_matches_23 rfl (lv_at hl 0 rfl) ?_
          refine va_get (D := D) (ci := 4) (v := .ref t0) (C := "StatRows") (T := TX) (N := 5) hx hb ht inX hown hK hP 0 rfl rfl 0 (by decide) (ht _ wd77) (fun _ h9 => h9) rfl dX_matches_24 ?_
          refine lv_iload_n hx hb dX_matches_27 rfl (lv_at hl 3 rfl) ?_
          refine zz_ci (v := nI (tr_off Ls pp + (Ls pp).length)) (W.runV (As := [.int (nI pp)]) (rest := []) ⟨hx, hb, hml, hown, ht⟩ (c_T_end l D cI cB t0 t1 t2 f g pp (tr_off Ls pp + (Ls pp).length) hp (hT.1 (pp + 1) (by omega))) (cwV 1 ht (gd_V wd171 wd118 wd119 wd2 wd120) rfl rfl rfl (by decide +kernel) ⟨Nat.le_of_ble_eq_true rfl, Nat.le_of_ble_eq_true rfl⟩) (zz_R_V hN hK (hP.sub (ws' := [(t0, .inr (0, [.ref t1, .ref t2])), (t1, .inl (cI, 400, .inl f)), (t2, .inl (cI, 9, .inl g))]) [1, 2, 3] rfl) 0 0 rfl rfl) rfl rfl hl.1 rfl (lv_room (Nat.le_of_ble_eq_true rfl)) dX_matches_28 ⟨Nat.le_of_ble_eq_true rfl, Nat.le_of_ble_eq_true rfl⟩) ?_
          refine lv_istore (lv' := [(4, .int (nI (tr_off Ls pp + (Ls pp).length))), (0, .ref x0), (1, .int (nI k)), (2, .int (nI (mts Ls (gow (fs k) (fp k) (fo k)) pp))), (3, .int (nI pp))]) hx hb dX_matches_31 hl (by decide) rfl (fun ls hl => ?_)
          refine lv_aload_n hx hb dX_matches_33 rfl (lv_at hl 1 rfl) ?_
          refine va_get (D := D) (ci := 4) (v := .ref t0) (C := "StatRows") (T := TX) (N := 5) hx hb ht inX hown hK hP 0 rfl rfl 0 (by decide) (ht _ wd77) (fun _ h9 => h9) rfl dX_matches_34 ?_
          refine lv_iload_n hx hb dX_matches_37 rfl (lv_at hl 4 rfl) ?_
          refine zz_ci (v := nI (tr_off Ls pp + 0)) (W.runV (As := [.int (nI pp)]) (rest := []) ⟨hx, hb, hml, hown, ht⟩ (c_T_start l D cI cB t0 t1 t2 f g pp (tr_off Ls pp) (by omega) (hT.1 pp (by omega))) (cwV 1 ht (gd_V wd172 wd122 wd123 wd2 wd124) rfl rfl rfl (by decide +kernel) ⟨Nat.le_of_ble_eq_true rfl, Nat.le_of_ble_eq_true rfl⟩) (zz_R_V hN hK (hP.sub (ws' := [(t0, .inr (0, [.ref t1, .ref t2])), (t1, .inl (cI, 400, .inl f)), (t2, .inl (cI, 9, .inl g))]) [1, 2, 3] rfl) 0 0 rfl rfl) rfl rfl hl.1 rfl (lv_room (Nat.le_of_ble_eq_true rfl)) dX_matches_38 ⟨Nat.le_of_ble_eq_true rfl, Nat.le_of_ble_eq_true rfl⟩) ?_
          refine lv_istore (lv' := [(5, .int (nI (tr_off Ls pp + 0))), (4, .int (nI (tr_off Ls pp + (Ls pp).length))), (0, .ref x0), (1, .int (nI k)), (2, .int (nI (mts Ls (gow (fs k) (fp k) (fo k)) pp))), (3, .int (nI pp))]) hx hb dX_matches_41 hl (by decide) rfl (fun ls hl => ?_)
          have lp43 : ∀ (fu : Nat) (i : Nat) (hi : i ≤ (Ls pp).length) (hm : (Ls pp).length - i < fu) (ls : Array Slot) (hl : lv_has ls 6 [(0, .ref x0), (1, .int (nI k)), (2, .int (nI (mts Ls (gow (fs k) (fp k) (fo k)) pp + ((Ls pp).take i).countP ((gow (fs k) (fp k) (fo k)) pp)))), (3, .int (nI pp)), (4, .int (nI (tr_off Ls pp + (Ls pp).length))), (5, .int (nI (tr_off Ls pp + i)))]), W pg l ev (headSpec wX_matches rm_X_matches).room s mt (([.ref x0, .int row] : List Value).toArray) below meth kd s.heap [] 0 0 (MQ below (vp_Si (fun r : Int32 => (¬ (¬ row < 0 ∧ ¬ nI n ≤ row) ∧ r = -1) ∨ ∃ k, k < n ∧ row = nI k ∧ r = nI (mts Ls (gow (fs k) (fp k) (fo k)) 8))) (([.ref x0, .int row] : List Value).toArray) s 0 0 (fun _ => False)) (F0 mt 43 ls []) := by
            intro fu
            induction fu with
            | zero => intro i hi hm; exact absurd hm (Nat.not_lt_zero _)
            | succ fu ih43 =>
              intro i hi hm ls hl
              refine lv_iload hx hb dX_matches_43 (lv_at hl 5 rfl) ?_
              refine lv_iload hx hb dX_matches_45 (lv_at hl 4 rfl) ?_
              refine lv_icmp_ge (tgt := 89) hx hb dX_matches_47 (by decide) (fun c47 => ?_) (fun c47 => ?_)
              · -- taken
                have c47 : tr_off Ls pp + (Ls pp).length ≤ tr_off Ls pp + i := (nI_leI (a := tr_off Ls pp + (Ls pp).length) (b := tr_off Ls pp + i) (by omega) (by omega)).mp c47
                have ez : mts Ls (gow (fs k) (fp k) (fo k)) pp + ((Ls pp).take i).countP ((gow (fs k) (fp k) (fo k)) pp) = mts Ls (gow (fs k) (fp k) (fo k)) (pp + 1) := by rw [tkl _ i (by omega)]; rfl
                rw [ez] at hl
                refine lv_iinc (v := nI (pp + 1)) (lv' := [(3, .int (nI (pp + 1))), (0, .ref x0), (1, .int (nI k)), (2, .int (nI (mts Ls (gow (fs k) (fp k) (fo k)) (pp + 1)))), (4, .int (nI (tr_off Ls pp + (Ls pp).length))), (5, .int (nI (tr_off Ls pp + i)))]) hx hb dX_matches_89 hl (k := 3) rfl (nI_1 pp) (by decide) rfl (fun ls hl => ?_)
                refine lv_goto (tgt := 17) hx hb dX_matches_92 (by decide) ?_
                exact ih17 (pp + 1) (by omega) (by omega) ls (lv_sub hl [1, 2, 3, 0] rfl)
              · -- not taken
                have c47 : ¬ (tr_off Ls pp + (Ls pp).length ≤ tr_off Ls pp + i) := fun h => c47 ((nI_leI (a := tr_off Ls pp + (Ls pp).length) (b := tr_off Ls pp + i) (by omega) (by omega)).mpr h)
                have hci := hT.2.2.2.1 pp hp i (by omega)
                have hgb := btl (pal (fs k) (nI ((Ls pp).getD i 0 / 256)) && pal (fp k) (nI pp) && pal (fo k) (nI ((Ls pp).getD i 0 % 256)))
                refine lv_aload_n hx hb dX_matches_50 rfl (lv_at hl 0 rfl) ?_
                refine va_get (D := D) (ci := 4) (v := .ref p0) (C := "StatRows") (T := TX) (N := 5) hx hb ht inX hown hK hP 0 rfl rfl 1 (by decide) (ht _ wd78) (fun _ h9 => h9) rfl dX_matches_51 ?_
                refine lv_iload_n hx hb dX_matches_54 rfl (lv_at hl 1 rfl) ?_
                refine lv_aload_n hx hb dX_matches_55 rfl (lv_at hl 0 rfl) ?_
                refine va_get (D := D) (ci := 4) (v := .ref t0) (C := "StatRows") (T := TX) (N := 5) hx hb ht inX hown hK hP 0 rfl rfl 0 (by decide) (ht _ wd77) (fun _ h9 => h9) rfl dX_matches_56 ?_
                refine lv_iload hx hb dX_matches_59 (lv_at hl 5 rfl) ?_
                refine zz_ci (v := nI ((Ls pp).getD i 0 / 256)) (W.runV (As := [.int (nI (tr_off Ls pp + i))]) (rest := [.int (nI k), .ref p0]) ⟨hx, hb, hml, hown, ht⟩ (c_T_subjectAt l D cI cB t0 t1 t2 f g (tr_off Ls pp + i) ((Ls pp).getD i 0) (by omega) (hT.2.1 pp hp i (by omega)) (hT.2.2.2.1 pp hp i (by omega))) (cwV 1 ht (gd_V wd173 wd174 wd175 wd2 wd176) rfl rfl rfl (by decide +kernel) ⟨Nat.le_of_ble_eq_true rfl, Nat.le_of_ble_eq_true rfl⟩) (zz_R_V hN hK (hP.sub (ws' := [(t0, .inr (0, [.ref t1, .ref t2])), (t1, .inl (cI, 400, .inl f)), (t2, .inl (cI, 9, .inl g))]) [1, 2, 3] rfl) 0 0 rfl rfl) rfl rfl hl.1 rfl (lv_room (Nat.le_of_ble_eq_true rfl)) dX_matches_61 ⟨Nat.le_of_ble_eq_true rfl, Nat.le_of_ble_eq_true rfl⟩) ?_
                refine lv_iload_n hx hb dX_matches_64 rfl (lv_at hl 3 rfl) ?_
                refine lv_aload_n hx hb dX_matches_65 rfl (lv_at hl 0 rfl) ?_
                refine va_get (D := D) (ci := 4) (v := .ref t0) (C := "StatRows") (T := TX) (N := 5) hx hb ht inX hown hK hP 0 rfl rfl 0 (by decide) (ht _ wd77) (fun _ h9 => h9) rfl dX_matches_66 ?_
                refine lv_iload hx hb dX_matches_69 (lv_at hl 5 rfl) ?_
                refine zz_ci (v := nI ((Ls pp).getD i 0 % 256)) (W.runV (As := [.int (nI (tr_off Ls pp + i))]) (rest := [.int (nI pp), .int (nI ((Ls pp).getD i 0 / 256)), .int (nI k), .ref p0]) ⟨hx, hb, hml, hown, ht⟩ (c_T_objectAt l D cI cB t0 t1 t2 f g (tr_off Ls pp + i) ((Ls pp).getD i 0) (by omega) (hT.2.1 pp hp i (by omega)) (hT.2.2.2.1 pp hp i (by omega))) (cwV 1 ht (gd_V wd198 wd199 wd200 wd2 wd201) rfl rfl rfl (by decide +kernel) ⟨Nat.le_of_ble_eq_true rfl, Nat.le_of_ble_eq_true rfl⟩) (zz_R_V hN hK (hP.sub (ws' := [(t0, .inr (0, [.ref t1, .ref t2])), (t1, .inl (cI, 400, .inl f)), (t2, .inl (cI, 9, .inl g))]) [1, 2, 3] rfl) 0 0 rfl rfl) rfl rfl hl.1 rfl (lv_room (Nat.le_of_ble_eq_true rfl)) dX_matches_71 ⟨Nat.le_of_ble_eq_true rfl, Nat.le_of_ble_eq_true rfl⟩) ?_
                refine zz_ci (v := nI ((pal (fs k) (nI ((Ls pp).getD i 0 / 256)) && pal (fp k) (nI pp) && pal (fo k) (nI ((Ls pp).getD i 0 % 256))).toNat)) (W.runV (As := [.int (nI k), .int (nI ((Ls pp).getD i 0 / 256)), .int (nI pp), .int (nI ((Ls pp).getD i 0 % 256))]) (rest := []) ⟨hx, hb, hml, hown, ht⟩ (c_P_goesWith l D cI cB p0 p1_ p2_ p3_ fs fp fo n hn k (by omega) _ _ _) (cwV 4 ht (gd_V wd324 wd325 wd326 wd3 wd327) rfl rfl rfl (by decide +kernel) ⟨Nat.le_of_ble_eq_true rfl, Nat.le_of_ble_eq_true rfl⟩) (zz_R_V hN hK (hP.sub (ws' := [(p0, .inr (1, [.ref p1_, .ref p2_, .ref p3_, .int (nI n)])), (p1_, .inl (cI, 30, .inl fs)), (p2_, .inl (cI, 30, .inl fp)), (p3_, .inl (cI, 30, .inl fo))]) [4, 5, 6, 7] rfl) 1 0 rfl rfl) rfl rfl hl.1 rfl (lv_room (Nat.le_of_ble_eq_true rfl)) dX_matches_74 ⟨Nat.le_of_ble_eq_true rfl, Nat.le_of_ble_eq_true rfl⟩) ?_
                refine lv_if_eq (tgt := 83) hx hb dX_matches_77 (by decide) (fun c77 => ?_) (fun c77 => ?_)
                · -- taken
                  have c77 : (pal (fs k) (nI ((Ls pp).getD i 0 / 256)) && pal (fp k) (nI pp) && pal (fo k) (nI ((Ls pp).getD i 0 % 256))).toNat = 0 := (nI_eq (a := (pal (fs k) (nI ((Ls pp).getD i 0 / 256)) && pal (fp k) (nI pp) && pal (fo k) (nI ((Ls pp).getD i 0 % 256))).toNat) (b := 0) (by omega) (by omega)).mp c77
                  have ez : mts Ls (gow (fs k) (fp k) (fo k)) pp + ((Ls pp).take i).countP ((gow (fs k) (fp k) (fo k)) pp) = mts Ls (gow (fs k) (fp k) (fo k)) pp + ((Ls pp).take (i + 1)).countP ((gow (fs k) (fp k) (fo k)) pp) := by
                    rw [tk1 _ i 0 (by omega), cp1]
                    have : (gow (fs k) (fp k) (fo k)) pp ((Ls pp).getD i 0) = false := bt0 c77
                    rw [this]; rfl
                  rw [ez] at hl
                  refine lv_iinc (v := nI (tr_off Ls pp + i + 1)) (lv' := [(5, .int (nI (tr_off Ls pp + i + 1))), (0, .ref x0), (1, .int (nI k)), (2, .int (nI (mts Ls (gow (fs k) (fp k) (fo k)) pp + ((Ls pp).take (i + 1)).countP ((gow (fs k) (fp k) (fo k)) pp)))), (3, .int (nI pp)), (4, .int (nI (tr_off Ls pp + (Ls pp).length)))]) hx hb dX_matches_83 hl (k := 5) rfl (nI_1 (tr_off Ls pp + i)) (by decide) rfl (fun ls hl => ?_)
                  refine lv_goto (tgt := 43) hx hb dX_matches_86 (by decide) ?_
                  exact ih43 (i + 1) (by omega) (by omega) ls (lv_sub hl [1, 2, 3, 4, 5, 0] rfl)
                · -- not taken
                  have c77 : ¬ ((pal (fs k) (nI ((Ls pp).getD i 0 / 256)) && pal (fp k) (nI pp) && pal (fo k) (nI ((Ls pp).getD i 0 % 256))).toNat = 0) := fun h => c77 ((nI_eq (a := (pal (fs k) (nI ((Ls pp).getD i 0 / 256)) && pal (fp k) (nI pp) && pal (fo k) (nI ((Ls pp).getD i 0 % 256))).toNat) (b := 0) (by omega) (by omega)).mpr h)
                  refine lv_iinc (v := nI (mts Ls (gow (fs k) (fp k) (fo k)) pp + ((Ls pp).take i).countP ((gow (fs k) (fp k) (fo k)) pp) + 1)) (lv' := [(2, .int (nI (mts Ls (gow (fs k) (fp k) (fo k)) pp + ((Ls pp).take i).countP ((gow (fs k) (fp k) (fo k)) pp) + 1))), (0, .ref x0), (1, .int (nI k)), (3, .int (nI pp)), (4, .int (nI (tr_off Ls pp + (Ls pp).length))), (5, .int (nI (tr_off Ls pp + i)))]) hx hb dX_matches_80 hl (k := 2) rfl (nI_1 (mts Ls (gow (fs k) (fp k) (fo k)) pp + ((Ls pp).take i).countP ((gow (fs k) (fp k) (fo k)) pp))) (by decide) rfl (fun ls hl => ?_)
                  have ez : mts Ls (gow (fs k) (fp k) (fo k)) pp + ((Ls pp).take i).countP ((gow (fs k) (fp k) (fo k)) pp) + 1 = mts Ls (gow (fs k) (fp k) (fo k)) pp + ((Ls pp).take (i + 1)).countP ((gow (fs k) (fp k) (fo k)) pp) := by
                    rw [tk1 _ i 0 (by omega), cp1]
                    have : (gow (fs k) (fp k) (fo k)) pp ((Ls pp).getD i 0) = true := bt1 c77
                    rw [this]; rfl
                  rw [ez] at hl
                  refine lv_iinc (v := nI (tr_off Ls pp + i + 1)) (lv' := [(5, .int (nI (tr_off Ls pp + i + 1))), (2, .int (nI (mts Ls (gow (fs k) (fp k) (fo k)) pp + ((Ls pp).take (i + 1)).countP ((gow (fs k) (fp k) (fo k)) pp)))), (0, .ref x0), (1, .int (nI k)), (3, .int (nI pp)), (4, .int (nI (tr_off Ls pp + (Ls pp).length)))]) hx hb dX_matches_83 hl (k := 5) rfl (nI_1 (tr_off Ls pp + i)) (by decide) rfl (fun ls hl => ?_)
                  refine lv_goto (tgt := 43) hx hb dX_matches_86 (by decide) ?_
                  exact ih43 (i + 1) (by omega) (by omega) ls (lv_sub hl [2, 3, 1, 4, 5, 0] rfl)
          exact lp43 (((Ls pp).length - 0) + 1) 0 (Nat.zero_le _) (Nat.lt_succ_self _) ls (lv_sub hl [2, 3, 4, 5, 1, 0] rfl)
    exact lp17 ((8 - 0) + 1) 0 (Nat.zero_le _) (Nat.lt_succ_self _) ls (lv_sub hl [2, 3, 1, 0] rfl)
  · -- not taken
    have c8 : (decide (¬ row < 0 ∧ ¬ nI n ≤ row)).toNat = 0 := (nI_eq (a := (decide (¬ row < 0 ∧ ¬ nI n ≤ row)).toNat) (b := 0) (by omega) (by omega)).mp c8
    have hno := of_decide_eq_false (bt0 (b := decide (¬ row < 0 ∧ ¬ nI n ≤ row)) (by omega))
    refine lv_iconst (v := (-1)) hx hb dX_matches_11 (by decide) ?_
    exact zz_iretR (v := (-1)) hx hb hr hlocks (Or.inl ⟨hno, rfl⟩) dX_matches_12

abbrev rm_X_version : Room := { frames := 3, cells := 0, slots := 0, locals := 64 }
set_option maxHeartbeats 4000000 in
set_option maxRecDepth 100000 in
theorem c_X_version (l : Launch) (D : va_G) (cI cB : ClassId) (sz : Nat) (x0 t0 t1 t2 p0 v0 g0 ta v1 : Nat) (f g : Nat → Int32) (Ls : Nat → List Nat) (hT : RT Ls f g) (z : Nat → Int32) (k e : Nat) (hke : k ≤ e) (he : e < 1000) : Met l yX_version wX_version rm_X_version (zz_P D vwCl [(cI, .int), (cB, .boolean)] [.ref x0] [(x0, .inr (4, [.ref t0, .ref p0, .ref v0, .ref g0, .ref ta])), (v0, .inr (2, [.ref v1, .int (nI k), .int (nI e)])), (v1, .inl (cI, 320, .inl z)), (t0, .inr (0, [.ref t1, .ref t2])), (t1, .inl (cI, 400, .inl f)), (t2, .inl (cI, 9, .inl g))] sz) (va_Qi (fun (r : Int32) (u : ((Nat → Int32) × Nat)) => (40 ≤ e - k ∧ r = -3 ∧ u = (z, e)) ∨ (e - k < 40 ∧ r = nI e ∧ u.2 = e + 1 ∧ ∀ j, j < 320 → u.1 j = if e % 40 * 8 ≤ j ∧ j < e % 40 * 8 + 8 then nI (Ls (j - e % 40 * 8)).length else z j)) (fun u : ((Nat → Int32) × Nat) => zz_B D vwCl [(cI, .int), (cB, .boolean)] (va_A [(x0, .inr (4, [.ref t0, .ref p0, .ref v0, .ref g0, .ref ta])), (v0, .inr (2, [.ref v1, .int (nI k), .int (nI e)])), (v1, .inl (cI, 320, .inl z)), (t0, .inr (0, [.ref t1, .ref t2])), (t1, .inl (cI, 400, .inl f)), (t2, .inl (cI, 9, .inl g))] sz) [(x0, .inr (4, [.ref t0, .ref p0, .ref v0, .ref g0, .ref ta])), (v0, .inr (2, [.ref v1, .int (nI k), .int (nI u.2)])), (v1, .inl (cI, 320, .inl u.1)), (t0, .inr (0, [.ref t1, .ref t2])), (t1, .inl (cI, 400, .inl f)), (t2, .inl (cI, 9, .inl g))]) (va_A [(x0, .inr (4, [.ref t0, .ref p0, .ref v0, .ref g0, .ref ta])), (v0, .inr (2, [.ref v1, .int (nI k), .int (nI e)])), (v1, .inl (cI, 320, .inl z)), (t0, .inr (0, [.ref t1, .ref t2])), (t1, .inl (cI, 400, .inl f)), (t2, .inl (cI, 9, .inl g))] sz)) 0 0 (va_A [(x0, .inr (4, [.ref t0, .ref p0, .ref v0, .ref g0, .ref ta])), (v0, .inr (2, [.ref v1, .int (nI k), .int (nI e)])), (v1, .inl (cI, 320, .inl z)), (t0, .inr (0, [.ref t1, .ref t2])), (t1, .inl (cI, 400, .inl f)), (t2, .inl (cI, 9, .inl g))] sz) := by
  refine Met.ofW (cc := cX_version) (maxL := 1) (ret := (some .int)) (by decide) rfl ?_
  intro pg ev s mt args below meth kd s₁ B hml hv
  obtain ⟨rfl, hsz, hP, hK, hD0, hN⟩ := hv
  have hx := B.exec
  have hb := B.bytes
  have hr := B.returns
  have ht : ∀ w ∈ W0, w.before _ s = true := fun w h => atoms_spec (ws := wX_version) B.pre w (List.mem_cons_of_mem _ h)
  have hown : s.vm.findClass "StatRows" = some mt.cls := findClass_of_methodNamed B.named
  have hlocks := B.notSynchronized
  subst hsz
  have hD := hD0.self (sz := s.heap.size)
  generalize hAe : va_A [(x0, .inr (4, [.ref t0, .ref p0, .ref v0, .ref g0, .ref ta])), (v0, .inr (2, [.ref v1, .int (nI k), .int (nI e)])), (v1, .inl (cI, 320, .inl z)), (t0, .inr (0, [.ref t1, .ref t2])), (t1, .inl (cI, 400, .inl f)), (t2, .inl (cI, 9, .inl g))] s.heap.size = A at hD ⊢
  have hA : ∀ q : Nat, s.heap.size ≤ q → A q := fun q h => by rw [← hAe]; exact Or.inr h
  have hS : va_S A s.heap s.heap [] := va_S.rf
  have hP : va_P D vwCl [(x0, .inr (4, [.ref t0, .ref p0, .ref v0, .ref g0, .ref ta])), (v0, .inr (2, [.ref v1, .int (nI k), .int (nI e)])), (v1, .inl (cI, 320, .inl z)), (t0, .inr (0, [.ref t1, .ref t2])), (t1, .inl (cI, 400, .inl f)), (t2, .inl (cI, 9, .inl g))] s.heap := hP
  have hl := lv_entry ([.ref x0]) (n := 1) (Nat.le_of_ble_eq_true rfl)
  rw [lg_entry_eq]
  generalize (lg_sl ([.ref x0]) ++ List.replicate (1 - (lg_sl ([.ref x0])).length) Slot.unset).toArray = ls at hl ⊢
  have hl : lv_has ls 1 [(0, .ref x0)] := hl
  refine lv_aload_n hx hb dX_version_0 rfl (lv_at hl 0 rfl) ?_
  refine va_get (D := D) (ci := 4) (v := .ref v0) (C := "StatRows") (T := TX) (N := 5) hx hb ht inX hown hK hP 0 rfl rfl 2 (by decide) (ht _ wd79) (fun _ h9 => h9) rfl dX_version_1 ?_
  refine lv_aload_n hx hb dX_version_4 rfl (lv_at hl 0 rfl) ?_
  refine va_get (D := D) (ci := 4) (v := .ref t0) (C := "StatRows") (T := TX) (N := 5) hx hb ht inX hown hK hP 0 rfl rfl 0 (by decide) (ht _ wd77) (fun _ h9 => h9) rfl dX_version_5 ?_
  refine zz_wi (wc := [(v0, .inr (2, [.ref v1, .int (nI k), .int (nI e)])), (v1, .inl (cI, 320, .inl z)), (t0, .inr (0, [.ref t1, .ref t2])), (t1, .inl (cI, 400, .inl f)), (t2, .inl (cI, 9, .inl g))]) (wr := [(x0, .inr (4, [.ref t0, .ref p0, .ref v0, .ref g0, .ref ta]))]) (va_runV (As := [.ref t0]) (rest := []) ⟨hx, hb, hml, hown, ht⟩ (c_V_finish l D cI cB s.heap.size v0 v1 z k e hke he t0 t1 t2 f g Ls hT) (cwV 1 ht (gd_V wd335 wd336 wd337 wd4 wd338) rfl rfl rfl (by decide +kernel) ⟨Nat.le_of_ble_eq_true rfl, Nat.le_of_ble_eq_true rfl⟩) (zz_P_V hN hK (hP.sub (ws' := [(v0, .inr (2, [.ref v1, .int (nI k), .int (nI e)])), (v1, .inl (cI, 320, .inl z)), (t0, .inr (0, [.ref t1, .ref t2])), (t1, .inl (cI, 400, .inl f)), (t2, .inl (cI, 9, .inl g))]) [1, 2, 3, 4, 5] rfl) (hD.sub (ws' := [(v0, .inr (2, [.ref v1, .int (nI k), .int (nI e)])), (v1, .inl (cI, 320, .inl z)), (t0, .inr (0, [.ref t1, .ref t2])), (t1, .inl (cI, 400, .inl f)), (t2, .inl (cI, 9, .inl g))]) [1, 2, 3, 4, 5] (by decide) rfl) 2 0 rfl rfl) rfl rfl hl.1 rfl (lv_room (Nat.le_of_ble_eq_true rfl)) dX_version_8 ⟨Nat.le_of_ble_eq_true rfl, Nat.le_of_ble_eq_true rfl⟩) hP hD hS hA [1, 2, 3, 4, 5] [0] rfl rfl (by decide) (by decide) (fun r8 u8 H locs hq8 hP hD hS => ?_)
  have hP := hP.sub (ws' := [(x0, .inr (4, [.ref t0, .ref p0, .ref v0, .ref g0, .ref ta])), (v0, .inr (2, [.ref v1, .int (nI k), .int (nI u8.2)])), (v1, .inl (cI, 320, .inl u8.1)), (t0, .inr (0, [.ref t1, .ref t2])), (t1, .inl (cI, 400, .inl f)), (t2, .inl (cI, 9, .inl g))]) [0, 1, 2, 3, 4, 5] rfl
  have hD := hD.sub (ws' := [(x0, .inr (4, [.ref t0, .ref p0, .ref v0, .ref g0, .ref ta])), (v0, .inr (2, [.ref v1, .int (nI k), .int (nI u8.2)])), (v1, .inl (cI, 320, .inl u8.1)), (t0, .inr (0, [.ref t1, .ref t2])), (t1, .inl (cI, 400, .inl f)), (t2, .inl (cI, 9, .inl g))]) [0, 1, 2, 3, 4, 5] (by decide) rfl
  exact zz_iretW (v := r8) (w1 := fun u : ((Nat → Int32) × Nat) => [(x0, .inr (4, [.ref t0, .ref p0, .ref v0, .ref g0, .ref ta])), (v0, .inr (2, [.ref v1, .int (nI k), .int (nI u.2)])), (v1, .inl (cI, 320, .inl u.1)), (t0, .inr (0, [.ref t1, .ref t2])), (t1, .inl (cI, 400, .inl f)), (t2, .inl (cI, 9, .inl g))]) u8 hx hb hr hlocks (hq8) hP hK hD hS dX_version_11

abbrev rm_X_countAt : Room := { frames := 2, cells := 0, slots := 0, locals := 43 }
set_option maxHeartbeats 4000000 in
set_option maxRecDepth 100000 in
theorem c_X_countAt (l : Launch) (D : va_G) (cI cB : ClassId) (x0 t0 t1 t2 p0 v0 g0 ta v1 : Nat) (z : Nat → Int32) (k e : Nat) (hke : k ≤ e) (he : e < 1000) (p1 x : Int32) : Met l yX_countAt wX_countAt rm_X_countAt (zz_R D vwCl [(cI, .int), (cB, .boolean)] [.ref x0, .int p1, .int x] [(x0, .inr (4, [.ref t0, .ref p0, .ref v0, .ref g0, .ref ta])), (v0, .inr (2, [.ref v1, .int (nI k), .int (nI e)])), (v1, .inl (cI, 320, .inl z))]) (vp_Si (fun r : Int32 => (inr_ 8 p1 = false ∧ r = -1) ∨ ∃ pp, pp < 8 ∧ p1 = nI pp ∧ ((¬ (¬ x < 0 ∧ ¬ nI e ≤ x) ∧ r = -1) ∨ ∃ v, v < e ∧ x = nI v ∧ r = if v < k then -2 else z (v % 40 * 8 + pp)))) 0 0 (fun _ => False) := by
  refine Met.ofW (cc := cX_countAt) (maxL := 3) (ret := (some .int)) (by decide) rfl ?_
  intro pg ev s mt args below meth kd s₁ B hml hv
  obtain ⟨rfl, hP, hK, hN⟩ := hv
  have hx := B.exec
  have hb := B.bytes
  have hr := B.returns
  have ht : ∀ w ∈ W0, w.before _ s = true := fun w h => atoms_spec (ws := wX_countAt) B.pre w (List.mem_cons_of_mem _ h)
  have hown : s.vm.findClass "StatRows" = some mt.cls := findClass_of_methodNamed B.named
  have hlocks := B.notSynchronized
  have hl := lv_entry ([.ref x0, .int p1, .int x]) (n := 3) (Nat.le_of_ble_eq_true rfl)
  rw [lg_entry_eq]
  generalize (lg_sl ([.ref x0, .int p1, .int x]) ++ List.replicate (3 - (lg_sl ([.ref x0, .int p1, .int x])).length) Slot.unset).toArray = ls at hl ⊢
  have hl : lv_has ls 3 [(0, .ref x0), (1, .int p1), (2, .int x)] := hl
  have bl0 := btl (inr_ 8 p1)
  refine lv_iload_n hx hb dX_countAt_0 rfl (lv_at hl 1 rfl) ?_
  refine zz_ci (v := nI ((inr_ 8 p1).toNat)) (W.runS (As := [.int p1]) (rest := []) ⟨hx, hb, hml, hown, ht⟩ (c_X_isPredicate l p1) (va_cwS 1 ht (gd_S wd103 wd104 wd1 wd105) rfl rfl rfl (by decide +kernel) ⟨Nat.le_of_ble_eq_true rfl, Nat.le_of_ble_eq_true rfl⟩) zz_N_S rfl rfl hl.1 rfl (lv_room (Nat.le_of_ble_eq_true rfl)) dX_countAt_1 ⟨Nat.le_of_ble_eq_true rfl, Nat.le_of_ble_eq_true rfl⟩) ?_
  refine lv_if_ne (tgt := 9) hx hb dX_countAt_4 (by decide) (fun c4 => ?_) (fun c4 => ?_)
  · -- taken
    have c4 : ¬ ((inr_ 8 p1).toNat = 0) := fun h => c4 ((nI_eq (a := (inr_ 8 p1).toNat) (b := 0) (by omega) (by omega)).mpr h)
    have hb1 := bt1 c4
    obtain ⟨pp, hpp, epp⟩ := inr_t (by decide) hb1
    rw [epp] at hl
    refine lv_aload_n hx hb dX_countAt_9 rfl (lv_at hl 0 rfl) ?_
    refine va_get (D := D) (ci := 4) (v := .ref v0) (C := "StatRows") (T := TX) (N := 5) hx hb ht inX hown hK hP 0 rfl rfl 2 (by decide) (ht _ wd79) (fun _ h9 => h9) rfl dX_countAt_10 ?_
    refine lv_iload_n hx hb dX_countAt_13 rfl (lv_at hl 1 rfl) ?_
    refine lv_iload_n hx hb dX_countAt_14 rfl (lv_at hl 2 rfl) ?_
    refine vp_callSi (W.runV (As := [.int (nI pp), .int x]) (rest := []) ⟨hx, hb, hml, hown, ht⟩ (c_V_sizeAt l D cI cB v0 v1 z k e hke he pp hpp x) (cwV 2 ht (gd_V wd352 wd353 wd354 wd4 wd355) rfl rfl rfl (by decide +kernel) ⟨Nat.le_of_ble_eq_true rfl, Nat.le_of_ble_eq_true rfl⟩) (zz_R_V hN hK (hP.sub (ws' := [(v0, .inr (2, [.ref v1, .int (nI k), .int (nI e)])), (v1, .inl (cI, 320, .inl z))]) [1, 2] rfl) 2 0 rfl rfl) rfl rfl hl.1 rfl (lv_room (Nat.le_of_ble_eq_true rfl)) dX_countAt_15 ⟨Nat.le_of_ble_eq_true rfl, Nat.le_of_ble_eq_true rfl⟩) (fun r15 hr15 => ?_)
    exact zz_iretR (v := r15) hx hb hr hlocks (Or.inr ⟨pp, hpp, epp, hr15⟩) dX_countAt_18
  · -- not taken
    have c4 : (inr_ 8 p1).toNat = 0 := (nI_eq (a := (inr_ 8 p1).toNat) (b := 0) (by omega) (by omega)).mp c4
    have hb1 : inr_ 8 p1 = false := bt0 (by omega)
    refine lv_iconst (v := (-1)) hx hb dX_countAt_7 (by decide) ?_
    exact zz_iretR (v := (-1)) hx hb hr hlocks (Or.inl ⟨hb1, rfl⟩) dX_countAt_8

abbrev rm_X_forget : Room := { frames := 2, cells := 0, slots := 0, locals := 54 }
set_option maxHeartbeats 4000000 in
set_option maxRecDepth 100000 in
theorem c_X_forget (l : Launch) (D : va_G) (cI cB : ClassId) (sz : Nat) (x0 t0 t1 t2 p0 v0 g0 ta v1 : Nat) (z : Nat → Int32) (k e : Nat) (hke : k ≤ e) (he : e < 1000) (x : Int32) : Met l yX_forget wX_forget rm_X_forget (zz_P D vwCl [(cI, .int), (cB, .boolean)] [.ref x0, .int x] [(x0, .inr (4, [.ref t0, .ref p0, .ref v0, .ref g0, .ref ta])), (v0, .inr (2, [.ref v1, .int (nI k), .int (nI e)])), (v1, .inl (cI, 320, .inl z))] sz) (va_Qi (fun (r : Int32) (u : Nat) => (¬ (¬ x < 0 ∧ ¬ nI e ≤ x) ∧ r = -1 ∧ u = k) ∨ ∃ v, v < e ∧ x = nI v ∧ r = nI (v - k) ∧ u = k + (v - k)) (fun u : Nat => zz_B D vwCl [(cI, .int), (cB, .boolean)] (va_A [(x0, .inr (4, [.ref t0, .ref p0, .ref v0, .ref g0, .ref ta])), (v0, .inr (2, [.ref v1, .int (nI k), .int (nI e)])), (v1, .inl (cI, 320, .inl z))] sz) [(x0, .inr (4, [.ref t0, .ref p0, .ref v0, .ref g0, .ref ta])), (v0, .inr (2, [.ref v1, .int (nI u), .int (nI e)])), (v1, .inl (cI, 320, .inl z))]) (va_A [(x0, .inr (4, [.ref t0, .ref p0, .ref v0, .ref g0, .ref ta])), (v0, .inr (2, [.ref v1, .int (nI k), .int (nI e)])), (v1, .inl (cI, 320, .inl z))] sz)) 0 0 (va_A [(x0, .inr (4, [.ref t0, .ref p0, .ref v0, .ref g0, .ref ta])), (v0, .inr (2, [.ref v1, .int (nI k), .int (nI e)])), (v1, .inl (cI, 320, .inl z))] sz) := by
  refine Met.ofW (cc := cX_forget) (maxL := 2) (ret := (some .int)) (by decide) rfl ?_
  intro pg ev s mt args below meth kd s₁ B hml hv
  obtain ⟨rfl, hsz, hP, hK, hD0, hN⟩ := hv
  have hx := B.exec
  have hb := B.bytes
  have hr := B.returns
  have ht : ∀ w ∈ W0, w.before _ s = true := fun w h => atoms_spec (ws := wX_forget) B.pre w (List.mem_cons_of_mem _ h)
  have hown : s.vm.findClass "StatRows" = some mt.cls := findClass_of_methodNamed B.named
  have hlocks := B.notSynchronized
  subst hsz
  have hD := hD0.self (sz := s.heap.size)
  generalize hAe : va_A [(x0, .inr (4, [.ref t0, .ref p0, .ref v0, .ref g0, .ref ta])), (v0, .inr (2, [.ref v1, .int (nI k), .int (nI e)])), (v1, .inl (cI, 320, .inl z))] s.heap.size = A at hD ⊢
  have hA : ∀ q : Nat, s.heap.size ≤ q → A q := fun q h => by rw [← hAe]; exact Or.inr h
  have hS : va_S A s.heap s.heap [] := va_S.rf
  have hP : va_P D vwCl [(x0, .inr (4, [.ref t0, .ref p0, .ref v0, .ref g0, .ref ta])), (v0, .inr (2, [.ref v1, .int (nI k), .int (nI e)])), (v1, .inl (cI, 320, .inl z))] s.heap := hP
  have hl := lv_entry ([.ref x0, .int x]) (n := 2) (Nat.le_of_ble_eq_true rfl)
  rw [lg_entry_eq]
  generalize (lg_sl ([.ref x0, .int x]) ++ List.replicate (2 - (lg_sl ([.ref x0, .int x])).length) Slot.unset).toArray = ls at hl ⊢
  have hl : lv_has ls 2 [(0, .ref x0), (1, .int x)] := hl
  refine lv_aload_n hx hb dX_forget_0 rfl (lv_at hl 0 rfl) ?_
  refine va_get (D := D) (ci := 4) (v := .ref v0) (C := "StatRows") (T := TX) (N := 5) hx hb ht inX hown hK hP 0 rfl rfl 2 (by decide) (ht _ wd79) (fun _ h9 => h9) rfl dX_forget_1 ?_
  refine lv_iload_n hx hb dX_forget_4 rfl (lv_at hl 1 rfl) ?_
  refine zz_wi (wc := [(v0, .inr (2, [.ref v1, .int (nI k), .int (nI e)])), (v1, .inl (cI, 320, .inl z))]) (wr := [(x0, .inr (4, [.ref t0, .ref p0, .ref v0, .ref g0, .ref ta]))]) (va_runV (As := [.int x]) (rest := []) ⟨hx, hb, hml, hown, ht⟩ (c_V_forgetBelow l D cI cB s.heap.size v0 v1 z k e hke he x) (cwV 1 ht (gd_V wd364 wd365 wd366 wd4 wd367) rfl rfl rfl (by decide +kernel) ⟨Nat.le_of_ble_eq_true rfl, Nat.le_of_ble_eq_true rfl⟩) (zz_P_V hN hK (hP.sub (ws' := [(v0, .inr (2, [.ref v1, .int (nI k), .int (nI e)])), (v1, .inl (cI, 320, .inl z))]) [1, 2] rfl) (hD.sub (ws' := [(v0, .inr (2, [.ref v1, .int (nI k), .int (nI e)])), (v1, .inl (cI, 320, .inl z))]) [1, 2] (by decide) rfl) 2 0 rfl rfl) rfl rfl hl.1 rfl (lv_room (Nat.le_of_ble_eq_true rfl)) dX_forget_5 ⟨Nat.le_of_ble_eq_true rfl, Nat.le_of_ble_eq_true rfl⟩) hP hD hS hA [1, 2] [0] rfl rfl (by decide) (by decide) (fun r5 u5 H locs hq5 hP hD hS => ?_)
  have hP := hP.sub (ws' := [(x0, .inr (4, [.ref t0, .ref p0, .ref v0, .ref g0, .ref ta])), (v0, .inr (2, [.ref v1, .int (nI u5), .int (nI e)])), (v1, .inl (cI, 320, .inl z))]) [0, 1, 2] rfl
  have hD := hD.sub (ws' := [(x0, .inr (4, [.ref t0, .ref p0, .ref v0, .ref g0, .ref ta])), (v0, .inr (2, [.ref v1, .int (nI u5), .int (nI e)])), (v1, .inl (cI, 320, .inl z))]) [0, 1, 2] (by decide) rfl
  exact zz_iretW (v := r5) (w1 := fun u : Nat => [(x0, .inr (4, [.ref t0, .ref p0, .ref v0, .ref g0, .ref ta])), (v0, .inr (2, [.ref v1, .int (nI u), .int (nI e)])), (v1, .inl (cI, 320, .inl z))]) u5 hx hb hr hlocks (hq5) hP hK hD hS dX_forget_8

abbrev rm_X_told : Room := { frames := 1, cells := 0, slots := 0, locals := 20 }
set_option maxHeartbeats 4000000 in
set_option maxRecDepth 100000 in
theorem c_X_told (l : Launch) (D : va_G) (cI cB : ClassId) (x0 t0 t1 t2 p0 v0 g0 ta p1_ p2_ p3_ v1 : Nat) (f g : Nat → Int32) (Ls : Nat → List Nat) (hT : RT Ls f g) (fs fp fo : Nat → Int32) (n : Nat) (hn : n ≤ 30) (z : Nat → Int32) (k e : Nat) (hke : k ≤ e) (he : e < 1000) (wh : Int32) : Met l yX_told wX_told rm_X_told (zz_R D vwCl [(cI, .int), (cB, .boolean)] [.ref x0, .int wh] [(x0, .inr (4, [.ref t0, .ref p0, .ref v0, .ref g0, .ref ta])), (t0, .inr (0, [.ref t1, .ref t2])), (t1, .inl (cI, 400, .inl f)), (t2, .inl (cI, 9, .inl g)), (p0, .inr (1, [.ref p1_, .ref p2_, .ref p3_, .int (nI n)])), (p1_, .inl (cI, 30, .inl fs)), (p2_, .inl (cI, 30, .inl fp)), (p3_, .inl (cI, 30, .inl fo)), (v0, .inr (2, [.ref v1, .int (nI k), .int (nI e)])), (v1, .inl (cI, 320, .inl z))]) (vp_Si (fun r : Int32 => (wh = nI 0 ∧ r = nI (tr_off Ls 8)) ∨ (wh = nI 1 ∧ r = nI n) ∨ (wh = nI 2 ∧ r = nI e) ∨ (wh = nI 3 ∧ r = nI (e - k)) ∨ (wh ≠ nI 0 ∧ wh ≠ nI 1 ∧ wh ≠ nI 2 ∧ wh ≠ nI 3 ∧ r = -1))) 0 0 (fun _ => False) := by
  refine Met.ofW (cc := cX_told) (maxL := 2) (ret := (some .int)) (by decide) rfl ?_
  intro pg ev s mt args below meth kd s₁ B hml hv
  obtain ⟨rfl, hP, hK, hN⟩ := hv
  have hx := B.exec
  have hb := B.bytes
  have hr := B.returns
  have ht : ∀ w ∈ W0, w.before _ s = true := fun w h => atoms_spec (ws := wX_told) B.pre w (List.mem_cons_of_mem _ h)
  have hown : s.vm.findClass "StatRows" = some mt.cls := findClass_of_methodNamed B.named
  have hlocks := B.notSynchronized
  have hl := lv_entry ([.ref x0, .int wh]) (n := 2) (Nat.le_of_ble_eq_true rfl)
  rw [lg_entry_eq]
  generalize (lg_sl ([.ref x0, .int wh]) ++ List.replicate (2 - (lg_sl ([.ref x0, .int wh])).length) Slot.unset).toArray = ls at hl ⊢
  have hl : lv_has ls 2 [(0, .ref x0), (1, .int wh)] := hl
  refine lv_iload_n hx hb dX_told_0 rfl (lv_at hl 1 rfl) ?_
  by_cases t1_0 : wh = nI 0
  · refine zz_top t1_0 ?_
    refine lv_tableIn (tgt := 32) hx hb dX_told_1 (by decide) (by decide) (by first | rfl | decide) (by decide) ?_
    refine lv_aload_n hx hb dX_told_32 rfl (lv_at hl 0 rfl) ?_
    refine va_get (D := D) (ci := 4) (v := .ref t0) (C := "StatRows") (T := TX) (N := 5) hx hb ht inX hown hK hP 0 rfl rfl 0 (by decide) (ht _ wd77) (fun _ h9 => h9) rfl dX_told_33 ?_
    refine zz_ci (v := nI (tr_off Ls 8)) (W.runV (As := []) (rest := []) ⟨hx, hb, hml, hown, ht⟩ (c_T_size l D cI cB t0 t1 t2 f g (tr_off Ls 8) (hT.1 8 (by decide))) (cwV 0 ht (gd_V wd373 wd130 wd131 wd2 wd132) rfl rfl rfl (by decide +kernel) ⟨Nat.le_of_ble_eq_true rfl, Nat.le_of_ble_eq_true rfl⟩) (zz_R_V hN hK (hP.sub (ws' := [(t0, .inr (0, [.ref t1, .ref t2])), (t1, .inl (cI, 400, .inl f)), (t2, .inl (cI, 9, .inl g))]) [1, 2, 3] rfl) 0 0 rfl rfl) rfl rfl hl.1 rfl (lv_room (Nat.le_of_ble_eq_true rfl)) dX_told_36 ⟨Nat.le_of_ble_eq_true rfl, Nat.le_of_ble_eq_true rfl⟩) ?_
    exact zz_iretR (v := nI (tr_off Ls 8)) hx hb hr hlocks (Or.inl ⟨t1_0, rfl⟩) dX_told_39
  by_cases t1_1 : wh = nI 1
  · refine zz_top t1_1 ?_
    refine lv_tableIn (tgt := 40) hx hb dX_told_1 (by decide) (by decide) (by first | rfl | decide) (by decide) ?_
    refine lv_aload_n hx hb dX_told_40 rfl (lv_at hl 0 rfl) ?_
    refine va_get (D := D) (ci := 4) (v := .ref p0) (C := "StatRows") (T := TX) (N := 5) hx hb ht inX hown hK hP 0 rfl rfl 1 (by decide) (ht _ wd78) (fun _ h9 => h9) rfl dX_told_41 ?_
    refine zz_ci (v := nI n) (W.runV (As := []) (rest := []) ⟨hx, hb, hml, hown, ht⟩ (c_P_size l D cI cB p0 p1_ p2_ p3_ fs fp fo n hn) (cwV 0 ht (gd_V wd374 wd375 wd376 wd3 wd377) rfl rfl rfl (by decide +kernel) ⟨Nat.le_of_ble_eq_true rfl, Nat.le_of_ble_eq_true rfl⟩) (zz_R_V hN hK (hP.sub (ws' := [(p0, .inr (1, [.ref p1_, .ref p2_, .ref p3_, .int (nI n)])), (p1_, .inl (cI, 30, .inl fs)), (p2_, .inl (cI, 30, .inl fp)), (p3_, .inl (cI, 30, .inl fo))]) [4, 5, 6, 7] rfl) 1 0 rfl rfl) rfl rfl hl.1 rfl (lv_room (Nat.le_of_ble_eq_true rfl)) dX_told_44 ⟨Nat.le_of_ble_eq_true rfl, Nat.le_of_ble_eq_true rfl⟩) ?_
    exact zz_iretR (v := nI n) hx hb hr hlocks (Or.inr (Or.inl ⟨t1_1, rfl⟩)) dX_told_47
  by_cases t1_2 : wh = nI 2
  · refine zz_top t1_2 ?_
    refine lv_tableIn (tgt := 48) hx hb dX_told_1 (by decide) (by decide) (by first | rfl | decide) (by decide) ?_
    refine lv_aload_n hx hb dX_told_48 rfl (lv_at hl 0 rfl) ?_
    refine va_get (D := D) (ci := 4) (v := .ref v0) (C := "StatRows") (T := TX) (N := 5) hx hb ht inX hown hK hP 0 rfl rfl 2 (by decide) (ht _ wd79) (fun _ h9 => h9) rfl dX_told_49 ?_
    refine zz_ci (v := nI e) (W.runV (As := []) (rest := []) ⟨hx, hb, hml, hown, ht⟩ (c_V_ended l D cI cB v0 v1 z k e hke he) (cwV 0 ht (gd_V wd378 wd379 wd380 wd4 wd381) rfl rfl rfl (by decide +kernel) ⟨Nat.le_of_ble_eq_true rfl, Nat.le_of_ble_eq_true rfl⟩) (zz_R_V hN hK (hP.sub (ws' := [(v0, .inr (2, [.ref v1, .int (nI k), .int (nI e)])), (v1, .inl (cI, 320, .inl z))]) [8, 9] rfl) 2 0 rfl rfl) rfl rfl hl.1 rfl (lv_room (Nat.le_of_ble_eq_true rfl)) dX_told_52 ⟨Nat.le_of_ble_eq_true rfl, Nat.le_of_ble_eq_true rfl⟩) ?_
    exact zz_iretR (v := nI e) hx hb hr hlocks (Or.inr (Or.inr (Or.inl ⟨t1_2, rfl⟩))) dX_told_55
  by_cases t1_3 : wh = nI 3
  · refine zz_top t1_3 ?_
    refine lv_tableIn (tgt := 56) hx hb dX_told_1 (by decide) (by decide) (by first | rfl | decide) (by decide) ?_
    refine lv_aload_n hx hb dX_told_56 rfl (lv_at hl 0 rfl) ?_
    refine va_get (D := D) (ci := 4) (v := .ref v0) (C := "StatRows") (T := TX) (N := 5) hx hb ht inX hown hK hP 0 rfl rfl 2 (by decide) (ht _ wd79) (fun _ h9 => h9) rfl dX_told_57 ?_
    refine zz_ci (v := nI (e - k)) (W.runV (As := []) (rest := []) ⟨hx, hb, hml, hown, ht⟩ (c_V_kept l D cI cB v0 v1 z k e hke he) (cwV 0 ht (gd_V wd382 wd340 wd341 wd4 wd342) rfl rfl rfl (by decide +kernel) ⟨Nat.le_of_ble_eq_true rfl, Nat.le_of_ble_eq_true rfl⟩) (zz_R_V hN hK (hP.sub (ws' := [(v0, .inr (2, [.ref v1, .int (nI k), .int (nI e)])), (v1, .inl (cI, 320, .inl z))]) [8, 9] rfl) 2 0 rfl rfl) rfl rfl hl.1 rfl (lv_room (Nat.le_of_ble_eq_true rfl)) dX_told_60 ⟨Nat.le_of_ble_eq_true rfl, Nat.le_of_ble_eq_true rfl⟩) ?_
    exact zz_iretR (v := nI (e - k)) hx hb hr hlocks (Or.inr (Or.inr (Or.inr (Or.inl ⟨t1_3, rfl⟩)))) dX_told_63
  have hout1 : (wh).toInt < 0 ∨ 3 < (wh).toInt := zz_tout 0 3 (by decide) (fun k hk1 hk2 q => by
    rcases (show k = 0 ∨ k = 1 ∨ k = 2 ∨ k = 3 by omega) with rfl | rfl | rfl | rfl
    · exact t1_0 q
    · exact t1_1 q
    · exact t1_2 q
    · exact t1_3 q)
  refine lv_tableOut (tgt := 64) hx hb dX_told_1 hout1 (by decide) ?_
  refine lv_iconst (v := (-1)) hx hb dX_told_64 (by decide) ?_
  exact zz_iretR (v := (-1)) hx hb hr hlocks (Or.inr (Or.inr (Or.inr (Or.inr ⟨t1_0, t1_1, t1_2, t1_3, rfl⟩)))) dX_told_65
end
section
theorem zz_cI {D : va_G} {cl : List vw_C} {cI cB cA : ClassId} {s : State} (h : va_K D cl ([(cI, .int), (cB, .boolean)] ++ [(cA, .int)]) s) : cA = cI := by
  have h1 : s.vm.findClass ("[" ++ FieldType.int.toString) = some cI := (h.2 0 _ rfl).2
  have h2 : s.vm.findClass ("[" ++ FieldType.int.toString) = some cA := (h.2 2 _ rfl).2
  exact Option.some.inj (h2.symm.trans h1)
theorem zz_cB {D : va_G} {cl : List vw_C} {cI cB cA : ClassId} {s : State} (h : va_K D cl ([(cI, .int), (cB, .boolean)] ++ [(cA, .boolean)]) s) : cA = cB := by
  have h1 : s.vm.findClass ("[" ++ FieldType.boolean.toString) = some cB := (h.2 1 _ rfl).2
  have h2 : s.vm.findClass ("[" ++ FieldType.boolean.toString) = some cA := (h.2 2 _ rfl).2
  exact Option.some.inj (h2.symm.trans h1)
end
section
abbrev rm_T_init : Room := { frames := 1, cells := 2, slots := 409, locals := 32 }
set_option maxHeartbeats 4000000 in
set_option maxRecDepth 100000 in
theorem c_T_init (l : Launch) (D : va_G) (cI cB : ClassId) (sz : Nat) (q0 : Nat) : Met l yT_init wT_init rm_T_init (zz_P D vwCl [(cI, .int), (cB, .boolean)] [.ref q0] [(q0, .inr (0, [.null, .null]))] sz) (va_Qv (fun u : (Nat × Nat) => True) (fun u : (Nat × Nat) => zz_B D vwCl [(cI, .int), (cB, .boolean)] (va_A [(q0, .inr (0, [.null, .null]))] sz) [(q0, .inr (0, [.ref u.1, .ref u.2])), (u.1, .inl (cI, 400, .inl (fun _ => 0))), (u.2, .inl (cI, 9, .inl (fun _ => 0)))]) (va_A [(q0, .inr (0, [.null, .null]))] sz)) 2 409 (va_A [(q0, .inr (0, [.null, .null]))] sz) := by
  refine Met.ofW (cc := cT_init) (maxL := 1) (ret := none) (by decide) rfl ?_
  intro pg ev s mt args below meth kd s₁ B hml hv
  obtain ⟨rfl, hsz, hP, hK, hD0, hN⟩ := hv
  have hx := B.exec
  have hb := B.bytes
  have hr := B.returns
  have ht : ∀ w ∈ W0, w.before _ s = true := fun w h => atoms_spec (ws := wT_init) B.pre w (List.mem_cons_of_mem _ h)
  have hown : s.vm.findClass "StatRows$TripleRow" = some mt.cls := findClass_of_methodNamed B.named
  have hlocks := B.notSynchronized
  have hin : meth.name = "<init>" := (name_of_methodNamed B.named B.method).1
  subst hsz
  have hD := hD0.self (sz := s.heap.size)
  generalize hAe : va_A [(q0, .inr (0, [.null, .null]))] s.heap.size = A at hD ⊢
  have hA : ∀ q : Nat, s.heap.size ≤ q → A q := fun q h => by rw [← hAe]; exact Or.inr h
  have hS : va_S A s.heap s.heap [] := va_S.rf
  have hP : va_P D vwCl [(q0, .inr (0, [.null, .null]))] s.heap := hP
  have hl := lv_entry ([.ref q0]) (n := 1) (Nat.le_of_ble_eq_true rfl)
  rw [lg_entry_eq]
  generalize (lg_sl ([.ref q0]) ++ List.replicate (1 - (lg_sl ([.ref q0])).length) Slot.unset).toArray = ls at hl ⊢
  have hl : lv_has ls 1 [(0, .ref q0)] := hl
  refine lv_aload_n hx hb dT_init_0 rfl (lv_at hl 0 rfl) ?_
  refine W.objInit hx hb hown (ht _ wd23) (ht _ wd16) (ht _ wd17) rfl (by rw [hml]; exact hl.1) rfl dT_init_1 (Nat.le_of_ble_eq_true rfl) (Nat.le_of_ble_eq_true rfl) ?_
  refine W.eq (g2 := F0 mt 4 ls []) rfl ?_
  refine lv_aload_n hx hb dT_init_4 rfl (lv_at hl 0 rfl) ?_
  refine lv_sipush (v := nI 400) hx hb dT_init_5 (by decide) ?_
  refine va_newa (atype := .int) (ty := .int) (N' := 400) (a0 := (400, .inl (fun _ => 0))) hx hb (ht _ wd31) rfl hK hP hD hS hA (fun _ => rfl) (nI_pos (by decide)) (nI_clamp (by decide)) (by decide) (Nat.le_of_ble_eq_true rfl) (Nat.le_of_ble_eq_true rfl) dT_init_8 (fun n8 cA8 H hK8 hP hD hS => ?_)
  rw [zz_cI hK8] at hP hD
  have hP : va_P D vwCl [(q0, .inr (0, [.null, .null])), (n8, .inl (cI, 400, .inl (fun _ => 0)))] H := hP
  have hD : va_D A [(q0, .inr (0, [.null, .null])), (n8, .inl (cI, 400, .inl (fun _ => 0)))] := hD
  refine va_putF (D := D) (ci := 0) (v := .ref n8) (ty := (.array .int)) (C := "StatRows$TripleRow") (T := TT) (N := 2) hx hb ht inT tyT okT nmT hown hK hP hD hS 0 rfl rfl 0 (by decide) (ht _ wd24) (fun _ h9 => h9) rfl hin rfl (by decide +kernel) rfl rfl (Nat.le_of_ble_eq_true rfl) dT_init_10 (fun H locs hP hD hS => ?_)
  have hP : va_P D vwCl [(q0, .inr (0, [.ref n8, .null])), (n8, .inl (cI, 400, .inl (fun _ => 0)))] H := hP
  have hD : va_D A [(q0, .inr (0, [.ref n8, .null])), (n8, .inl (cI, 400, .inl (fun _ => 0)))] := hD
  refine lv_aload_n hx hb dT_init_13 rfl (lv_at hl 0 rfl) ?_
  refine lv_bipush (v := nI 9) hx hb dT_init_14 (by decide) ?_
  refine va_newa (atype := .int) (ty := .int) (N' := 9) (a0 := (9, .inl (fun _ => 0))) hx hb (ht _ wd31) rfl hK hP hD hS hA (fun _ => rfl) (nI_pos (by decide)) (nI_clamp (by decide)) (by decide) (Nat.le_of_ble_eq_true rfl) (Nat.le_of_ble_eq_true rfl) dT_init_16 (fun n16 cA16 H hK16 hP hD hS => ?_)
  rw [zz_cI hK16] at hP hD
  have hP : va_P D vwCl [(q0, .inr (0, [.ref n8, .null])), (n8, .inl (cI, 400, .inl (fun _ => 0))), (n16, .inl (cI, 9, .inl (fun _ => 0)))] H := hP
  have hD : va_D A [(q0, .inr (0, [.ref n8, .null])), (n8, .inl (cI, 400, .inl (fun _ => 0))), (n16, .inl (cI, 9, .inl (fun _ => 0)))] := hD
  refine va_putF (D := D) (ci := 0) (v := .ref n16) (ty := (.array .int)) (C := "StatRows$TripleRow") (T := TT) (N := 2) hx hb ht inT tyT okT nmT hown hK hP hD hS 0 rfl rfl 1 (by decide) (ht _ wd25) (fun _ h9 => h9) rfl hin rfl (by decide +kernel) rfl rfl (Nat.le_of_ble_eq_true rfl) dT_init_18 (fun H locs hP hD hS => ?_)
  have hP : va_P D vwCl [(q0, .inr (0, [.ref n8, .ref n16])), (n8, .inl (cI, 400, .inl (fun _ => 0))), (n16, .inl (cI, 9, .inl (fun _ => 0)))] H := hP
  have hD : va_D A [(q0, .inr (0, [.ref n8, .ref n16])), (n8, .inl (cI, 400, .inl (fun _ => 0))), (n16, .inl (cI, 9, .inl (fun _ => 0)))] := hD
  exact zz_vretW (w1 := fun u : (Nat × Nat) => [(q0, .inr (0, [.ref u.1, .ref u.2])), (u.1, .inl (cI, 400, .inl (fun _ => 0))), (u.2, .inl (cI, 9, .inl (fun _ => 0)))]) (n8, n16) hx hb hr hlocks (trivial) hP hK hD hS dT_init_21

abbrev rm_P_init : Room := { frames := 1, cells := 3, slots := 90, locals := 32 }
set_option maxHeartbeats 4000000 in
set_option maxRecDepth 100000 in
theorem c_P_init (l : Launch) (D : va_G) (cI cB : ClassId) (sz : Nat) (q0 : Nat) : Met l yP_init wP_init rm_P_init (zz_P D vwCl [(cI, .int), (cB, .boolean)] [.ref q0] [(q0, .inr (1, [.null, .null, .null, .int 0]))] sz) (va_Qv (fun u : (Nat × Nat × Nat) => True) (fun u : (Nat × Nat × Nat) => zz_B D vwCl [(cI, .int), (cB, .boolean)] (va_A [(q0, .inr (1, [.null, .null, .null, .int 0]))] sz) [(q0, .inr (1, [.ref u.1, .ref u.2.1, .ref u.2.2, .int (nI 0)])), (u.1, .inl (cI, 30, .inl (fun _ => 0))), (u.2.1, .inl (cI, 30, .inl (fun _ => 0))), (u.2.2, .inl (cI, 30, .inl (fun _ => 0)))]) (va_A [(q0, .inr (1, [.null, .null, .null, .int 0]))] sz)) 3 90 (va_A [(q0, .inr (1, [.null, .null, .null, .int 0]))] sz) := by
  refine Met.ofW (cc := cP_init) (maxL := 1) (ret := none) (by decide) rfl ?_
  intro pg ev s mt args below meth kd s₁ B hml hv
  obtain ⟨rfl, hsz, hP, hK, hD0, hN⟩ := hv
  have hx := B.exec
  have hb := B.bytes
  have hr := B.returns
  have ht : ∀ w ∈ W0, w.before _ s = true := fun w h => atoms_spec (ws := wP_init) B.pre w (List.mem_cons_of_mem _ h)
  have hown : s.vm.findClass "StatRows$PatternRow" = some mt.cls := findClass_of_methodNamed B.named
  have hlocks := B.notSynchronized
  have hin : meth.name = "<init>" := (name_of_methodNamed B.named B.method).1
  subst hsz
  have hD := hD0.self (sz := s.heap.size)
  generalize hAe : va_A [(q0, .inr (1, [.null, .null, .null, .int 0]))] s.heap.size = A at hD ⊢
  have hA : ∀ q : Nat, s.heap.size ≤ q → A q := fun q h => by rw [← hAe]; exact Or.inr h
  have hS : va_S A s.heap s.heap [] := va_S.rf
  have hP : va_P D vwCl [(q0, .inr (1, [.null, .null, .null, .int 0]))] s.heap := hP
  have hl := lv_entry ([.ref q0]) (n := 1) (Nat.le_of_ble_eq_true rfl)
  rw [lg_entry_eq]
  generalize (lg_sl ([.ref q0]) ++ List.replicate (1 - (lg_sl ([.ref q0])).length) Slot.unset).toArray = ls at hl ⊢
  have hl : lv_has ls 1 [(0, .ref q0)] := hl
  refine lv_aload_n hx hb dP_init_0 rfl (lv_at hl 0 rfl) ?_
  refine W.objInit hx hb hown (ht _ wd37) (ht _ wd16) (ht _ wd17) rfl (by rw [hml]; exact hl.1) rfl dP_init_1 (Nat.le_of_ble_eq_true rfl) (Nat.le_of_ble_eq_true rfl) ?_
  refine W.eq (g2 := F0 mt 4 ls []) rfl ?_
  refine lv_aload_n hx hb dP_init_4 rfl (lv_at hl 0 rfl) ?_
  refine lv_bipush (v := nI 30) hx hb dP_init_5 (by decide) ?_
  refine va_newa (atype := .int) (ty := .int) (N' := 30) (a0 := (30, .inl (fun _ => 0))) hx hb (ht _ wd31) rfl hK hP hD hS hA (fun _ => rfl) (nI_pos (by decide)) (nI_clamp (by decide)) (by decide) (Nat.le_of_ble_eq_true rfl) (Nat.le_of_ble_eq_true rfl) dP_init_7 (fun n7 cA7 H hK7 hP hD hS => ?_)
  rw [zz_cI hK7] at hP hD
  have hP : va_P D vwCl [(q0, .inr (1, [.null, .null, .null, .int 0])), (n7, .inl (cI, 30, .inl (fun _ => 0)))] H := hP
  have hD : va_D A [(q0, .inr (1, [.null, .null, .null, .int 0])), (n7, .inl (cI, 30, .inl (fun _ => 0)))] := hD
  refine va_putF (D := D) (ci := 1) (v := .ref n7) (ty := (.array .int)) (C := "StatRows$PatternRow") (T := TP) (N := 4) hx hb ht inP tyP okP nmP hown hK hP hD hS 0 rfl rfl 0 (by decide) (ht _ wd38) (fun _ h9 => h9) rfl hin rfl (by decide +kernel) rfl rfl (Nat.le_of_ble_eq_true rfl) dP_init_9 (fun H locs hP hD hS => ?_)
  have hP : va_P D vwCl [(q0, .inr (1, [.ref n7, .null, .null, .int 0])), (n7, .inl (cI, 30, .inl (fun _ => 0)))] H := hP
  have hD : va_D A [(q0, .inr (1, [.ref n7, .null, .null, .int 0])), (n7, .inl (cI, 30, .inl (fun _ => 0)))] := hD
  refine lv_aload_n hx hb dP_init_12 rfl (lv_at hl 0 rfl) ?_
  refine lv_bipush (v := nI 30) hx hb dP_init_13 (by decide) ?_
  refine va_newa (atype := .int) (ty := .int) (N' := 30) (a0 := (30, .inl (fun _ => 0))) hx hb (ht _ wd31) rfl hK hP hD hS hA (fun _ => rfl) (nI_pos (by decide)) (nI_clamp (by decide)) (by decide) (Nat.le_of_ble_eq_true rfl) (Nat.le_of_ble_eq_true rfl) dP_init_15 (fun n15 cA15 H hK15 hP hD hS => ?_)
  rw [zz_cI hK15] at hP hD
  have hP : va_P D vwCl [(q0, .inr (1, [.ref n7, .null, .null, .int 0])), (n7, .inl (cI, 30, .inl (fun _ => 0))), (n15, .inl (cI, 30, .inl (fun _ => 0)))] H := hP
  have hD : va_D A [(q0, .inr (1, [.ref n7, .null, .null, .int 0])), (n7, .inl (cI, 30, .inl (fun _ => 0))), (n15, .inl (cI, 30, .inl (fun _ => 0)))] := hD
  refine va_putF (D := D) (ci := 1) (v := .ref n15) (ty := (.array .int)) (C := "StatRows$PatternRow") (T := TP) (N := 4) hx hb ht inP tyP okP nmP hown hK hP hD hS 0 rfl rfl 1 (by decide) (ht _ wd39) (fun _ h9 => h9) rfl hin rfl (by decide +kernel) rfl rfl (Nat.le_of_ble_eq_true rfl) dP_init_17 (fun H locs hP hD hS => ?_)
  have hP : va_P D vwCl [(q0, .inr (1, [.ref n7, .ref n15, .null, .int 0])), (n7, .inl (cI, 30, .inl (fun _ => 0))), (n15, .inl (cI, 30, .inl (fun _ => 0)))] H := hP
  have hD : va_D A [(q0, .inr (1, [.ref n7, .ref n15, .null, .int 0])), (n7, .inl (cI, 30, .inl (fun _ => 0))), (n15, .inl (cI, 30, .inl (fun _ => 0)))] := hD
  refine lv_aload_n hx hb dP_init_20 rfl (lv_at hl 0 rfl) ?_
  refine lv_bipush (v := nI 30) hx hb dP_init_21 (by decide) ?_
  refine va_newa (atype := .int) (ty := .int) (N' := 30) (a0 := (30, .inl (fun _ => 0))) hx hb (ht _ wd31) rfl hK hP hD hS hA (fun _ => rfl) (nI_pos (by decide)) (nI_clamp (by decide)) (by decide) (Nat.le_of_ble_eq_true rfl) (Nat.le_of_ble_eq_true rfl) dP_init_23 (fun n23 cA23 H hK23 hP hD hS => ?_)
  rw [zz_cI hK23] at hP hD
  have hP : va_P D vwCl [(q0, .inr (1, [.ref n7, .ref n15, .null, .int 0])), (n7, .inl (cI, 30, .inl (fun _ => 0))), (n15, .inl (cI, 30, .inl (fun _ => 0))), (n23, .inl (cI, 30, .inl (fun _ => 0)))] H := hP
  have hD : va_D A [(q0, .inr (1, [.ref n7, .ref n15, .null, .int 0])), (n7, .inl (cI, 30, .inl (fun _ => 0))), (n15, .inl (cI, 30, .inl (fun _ => 0))), (n23, .inl (cI, 30, .inl (fun _ => 0)))] := hD
  refine va_putF (D := D) (ci := 1) (v := .ref n23) (ty := (.array .int)) (C := "StatRows$PatternRow") (T := TP) (N := 4) hx hb ht inP tyP okP nmP hown hK hP hD hS 0 rfl rfl 2 (by decide) (ht _ wd40) (fun _ h9 => h9) rfl hin rfl (by decide +kernel) rfl rfl (Nat.le_of_ble_eq_true rfl) dP_init_25 (fun H locs hP hD hS => ?_)
  have hP : va_P D vwCl [(q0, .inr (1, [.ref n7, .ref n15, .ref n23, .int 0])), (n7, .inl (cI, 30, .inl (fun _ => 0))), (n15, .inl (cI, 30, .inl (fun _ => 0))), (n23, .inl (cI, 30, .inl (fun _ => 0)))] H := hP
  have hD : va_D A [(q0, .inr (1, [.ref n7, .ref n15, .ref n23, .int 0])), (n7, .inl (cI, 30, .inl (fun _ => 0))), (n15, .inl (cI, 30, .inl (fun _ => 0))), (n23, .inl (cI, 30, .inl (fun _ => 0)))] := hD
  refine lv_aload_n hx hb dP_init_28 rfl (lv_at hl 0 rfl) ?_
  refine lv_iconst (v := nI 0) hx hb dP_init_29 (by decide) ?_
  refine va_put (D := D) (ci := 1) (v := .int (nI 0)) (ty := .int) (C := "StatRows$PatternRow") (T := TP) (N := 4) hx hb ht inP tyP okP nmP hown hK hP hD hS 0 rfl rfl 3 (by decide) (ht _ wd41) (fun _ h9 => h9) rfl (by decide +kernel) rfl rfl (Nat.le_of_ble_eq_true rfl) dP_init_30 (fun H locs hP hD hS => ?_)
  have hP : va_P D vwCl [(q0, .inr (1, [.ref n7, .ref n15, .ref n23, .int (nI 0)])), (n7, .inl (cI, 30, .inl (fun _ => 0))), (n15, .inl (cI, 30, .inl (fun _ => 0))), (n23, .inl (cI, 30, .inl (fun _ => 0)))] H := hP
  have hD : va_D A [(q0, .inr (1, [.ref n7, .ref n15, .ref n23, .int (nI 0)])), (n7, .inl (cI, 30, .inl (fun _ => 0))), (n15, .inl (cI, 30, .inl (fun _ => 0))), (n23, .inl (cI, 30, .inl (fun _ => 0)))] := hD
  exact zz_vretW (w1 := fun u : (Nat × Nat × Nat) => [(q0, .inr (1, [.ref u.1, .ref u.2.1, .ref u.2.2, .int (nI 0)])), (u.1, .inl (cI, 30, .inl (fun _ => 0))), (u.2.1, .inl (cI, 30, .inl (fun _ => 0))), (u.2.2, .inl (cI, 30, .inl (fun _ => 0)))]) (n7, n15, n23) hx hb hr hlocks (trivial) hP hK hD hS dP_init_33

abbrev rm_V_init : Room := { frames := 1, cells := 1, slots := 320, locals := 32 }
set_option maxHeartbeats 4000000 in
set_option maxRecDepth 100000 in
theorem c_V_init (l : Launch) (D : va_G) (cI cB : ClassId) (sz : Nat) (q0 : Nat) : Met l yV_init wV_init rm_V_init (zz_P D vwCl [(cI, .int), (cB, .boolean)] [.ref q0] [(q0, .inr (2, [.null, .int 0, .int 0]))] sz) (va_Qv (fun u : Nat => True) (fun u : Nat => zz_B D vwCl [(cI, .int), (cB, .boolean)] (va_A [(q0, .inr (2, [.null, .int 0, .int 0]))] sz) [(q0, .inr (2, [.ref u, .int (nI 0), .int (nI 0)])), (u, .inl (cI, 320, .inl (fun _ => 0)))]) (va_A [(q0, .inr (2, [.null, .int 0, .int 0]))] sz)) 1 320 (va_A [(q0, .inr (2, [.null, .int 0, .int 0]))] sz) := by
  refine Met.ofW (cc := cV_init) (maxL := 1) (ret := none) (by decide) rfl ?_
  intro pg ev s mt args below meth kd s₁ B hml hv
  obtain ⟨rfl, hsz, hP, hK, hD0, hN⟩ := hv
  have hx := B.exec
  have hb := B.bytes
  have hr := B.returns
  have ht : ∀ w ∈ W0, w.before _ s = true := fun w h => atoms_spec (ws := wV_init) B.pre w (List.mem_cons_of_mem _ h)
  have hown : s.vm.findClass "StatRows$VersionRow" = some mt.cls := findClass_of_methodNamed B.named
  have hlocks := B.notSynchronized
  have hin : meth.name = "<init>" := (name_of_methodNamed B.named B.method).1
  subst hsz
  have hD := hD0.self (sz := s.heap.size)
  generalize hAe : va_A [(q0, .inr (2, [.null, .int 0, .int 0]))] s.heap.size = A at hD ⊢
  have hA : ∀ q : Nat, s.heap.size ≤ q → A q := fun q h => by rw [← hAe]; exact Or.inr h
  have hS : va_S A s.heap s.heap [] := va_S.rf
  have hP : va_P D vwCl [(q0, .inr (2, [.null, .int 0, .int 0]))] s.heap := hP
  have hl := lv_entry ([.ref q0]) (n := 1) (Nat.le_of_ble_eq_true rfl)
  rw [lg_entry_eq]
  generalize (lg_sl ([.ref q0]) ++ List.replicate (1 - (lg_sl ([.ref q0])).length) Slot.unset).toArray = ls at hl ⊢
  have hl : lv_has ls 1 [(0, .ref q0)] := hl
  refine lv_aload_n hx hb dV_init_0 rfl (lv_at hl 0 rfl) ?_
  refine W.objInit hx hb hown (ht _ wd56) (ht _ wd16) (ht _ wd17) rfl (by rw [hml]; exact hl.1) rfl dV_init_1 (Nat.le_of_ble_eq_true rfl) (Nat.le_of_ble_eq_true rfl) ?_
  refine W.eq (g2 := F0 mt 4 ls []) rfl ?_
  refine lv_aload_n hx hb dV_init_4 rfl (lv_at hl 0 rfl) ?_
  refine lv_sipush (v := nI 320) hx hb dV_init_5 (by decide) ?_
  refine va_newa (atype := .int) (ty := .int) (N' := 320) (a0 := (320, .inl (fun _ => 0))) hx hb (ht _ wd31) rfl hK hP hD hS hA (fun _ => rfl) (nI_pos (by decide)) (nI_clamp (by decide)) (by decide) (Nat.le_of_ble_eq_true rfl) (Nat.le_of_ble_eq_true rfl) dV_init_8 (fun n8 cA8 H hK8 hP hD hS => ?_)
  rw [zz_cI hK8] at hP hD
  have hP : va_P D vwCl [(q0, .inr (2, [.null, .int 0, .int 0])), (n8, .inl (cI, 320, .inl (fun _ => 0)))] H := hP
  have hD : va_D A [(q0, .inr (2, [.null, .int 0, .int 0])), (n8, .inl (cI, 320, .inl (fun _ => 0)))] := hD
  refine va_putF (D := D) (ci := 2) (v := .ref n8) (ty := (.array .int)) (C := "StatRows$VersionRow") (T := TV) (N := 3) hx hb ht inV tyV okV nmV hown hK hP hD hS 0 rfl rfl 0 (by decide) (ht _ wd57) (fun _ h9 => h9) rfl hin rfl (by decide +kernel) rfl rfl (Nat.le_of_ble_eq_true rfl) dV_init_10 (fun H locs hP hD hS => ?_)
  have hP : va_P D vwCl [(q0, .inr (2, [.ref n8, .int 0, .int 0])), (n8, .inl (cI, 320, .inl (fun _ => 0)))] H := hP
  have hD : va_D A [(q0, .inr (2, [.ref n8, .int 0, .int 0])), (n8, .inl (cI, 320, .inl (fun _ => 0)))] := hD
  refine lv_aload_n hx hb dV_init_13 rfl (lv_at hl 0 rfl) ?_
  refine lv_iconst (v := nI 0) hx hb dV_init_14 (by decide) ?_
  refine va_put (D := D) (ci := 2) (v := .int (nI 0)) (ty := .int) (C := "StatRows$VersionRow") (T := TV) (N := 3) hx hb ht inV tyV okV nmV hown hK hP hD hS 0 rfl rfl 1 (by decide) (ht _ wd58) (fun _ h9 => h9) rfl (by decide +kernel) rfl rfl (Nat.le_of_ble_eq_true rfl) dV_init_15 (fun H locs hP hD hS => ?_)
  have hP : va_P D vwCl [(q0, .inr (2, [.ref n8, .int (nI 0), .int 0])), (n8, .inl (cI, 320, .inl (fun _ => 0)))] H := hP
  have hD : va_D A [(q0, .inr (2, [.ref n8, .int (nI 0), .int 0])), (n8, .inl (cI, 320, .inl (fun _ => 0)))] := hD
  refine lv_aload_n hx hb dV_init_18 rfl (lv_at hl 0 rfl) ?_
  refine lv_iconst (v := nI 0) hx hb dV_init_19 (by decide) ?_
  refine va_put (D := D) (ci := 2) (v := .int (nI 0)) (ty := .int) (C := "StatRows$VersionRow") (T := TV) (N := 3) hx hb ht inV tyV okV nmV hown hK hP hD hS 0 rfl rfl 2 (by decide) (ht _ wd59) (fun _ h9 => h9) rfl (by decide +kernel) rfl rfl (Nat.le_of_ble_eq_true rfl) dV_init_20 (fun H locs hP hD hS => ?_)
  have hP : va_P D vwCl [(q0, .inr (2, [.ref n8, .int (nI 0), .int (nI 0)])), (n8, .inl (cI, 320, .inl (fun _ => 0)))] H := hP
  have hD : va_D A [(q0, .inr (2, [.ref n8, .int (nI 0), .int (nI 0)])), (n8, .inl (cI, 320, .inl (fun _ => 0)))] := hD
  exact zz_vretW (w1 := fun u : Nat => [(q0, .inr (2, [.ref u, .int (nI 0), .int (nI 0)])), (u, .inl (cI, 320, .inl (fun _ => 0)))]) n8 hx hb hr hlocks (trivial) hP hK hD hS dV_init_23

abbrev rm_G_init : Room := { frames := 1, cells := 1, slots := 16, locals := 32 }
set_option maxHeartbeats 4000000 in
set_option maxRecDepth 100000 in
theorem c_G_init (l : Launch) (D : va_G) (cI cB : ClassId) (sz : Nat) (q0 : Nat) : Met l yG_init wG_init rm_G_init (zz_P D vwCl [(cI, .int), (cB, .boolean)] [.ref q0] [(q0, .inr (3, [.null]))] sz) (va_Qv (fun u : Nat => True) (fun u : Nat => zz_B D vwCl [(cI, .int), (cB, .boolean)] (va_A [(q0, .inr (3, [.null]))] sz) [(q0, .inr (3, [.ref u])), (u, .inl (cI, 16, .inl (fun _ => 0)))]) (va_A [(q0, .inr (3, [.null]))] sz)) 1 16 (va_A [(q0, .inr (3, [.null]))] sz) := by
  refine Met.ofW (cc := cG_init) (maxL := 1) (ret := none) (by decide) rfl ?_
  intro pg ev s mt args below meth kd s₁ B hml hv
  obtain ⟨rfl, hsz, hP, hK, hD0, hN⟩ := hv
  have hx := B.exec
  have hb := B.bytes
  have hr := B.returns
  have ht : ∀ w ∈ W0, w.before _ s = true := fun w h => atoms_spec (ws := wG_init) B.pre w (List.mem_cons_of_mem _ h)
  have hown : s.vm.findClass "StatRows$RegisterRow" = some mt.cls := findClass_of_methodNamed B.named
  have hlocks := B.notSynchronized
  have hin : meth.name = "<init>" := (name_of_methodNamed B.named B.method).1
  subst hsz
  have hD := hD0.self (sz := s.heap.size)
  generalize hAe : va_A [(q0, .inr (3, [.null]))] s.heap.size = A at hD ⊢
  have hA : ∀ q : Nat, s.heap.size ≤ q → A q := fun q h => by rw [← hAe]; exact Or.inr h
  have hS : va_S A s.heap s.heap [] := va_S.rf
  have hP : va_P D vwCl [(q0, .inr (3, [.null]))] s.heap := hP
  have hl := lv_entry ([.ref q0]) (n := 1) (Nat.le_of_ble_eq_true rfl)
  rw [lg_entry_eq]
  generalize (lg_sl ([.ref q0]) ++ List.replicate (1 - (lg_sl ([.ref q0])).length) Slot.unset).toArray = ls at hl ⊢
  have hl : lv_has ls 1 [(0, .ref q0)] := hl
  refine lv_aload_n hx hb dG_init_0 rfl (lv_at hl 0 rfl) ?_
  refine W.objInit hx hb hown (ht _ wd72) (ht _ wd16) (ht _ wd17) rfl (by rw [hml]; exact hl.1) rfl dG_init_1 (Nat.le_of_ble_eq_true rfl) (Nat.le_of_ble_eq_true rfl) ?_
  refine W.eq (g2 := F0 mt 4 ls []) rfl ?_
  refine lv_aload_n hx hb dG_init_4 rfl (lv_at hl 0 rfl) ?_
  refine lv_bipush (v := nI 16) hx hb dG_init_5 (by decide) ?_
  refine va_newa (atype := .int) (ty := .int) (N' := 16) (a0 := (16, .inl (fun _ => 0))) hx hb (ht _ wd31) rfl hK hP hD hS hA (fun _ => rfl) (nI_pos (by decide)) (nI_clamp (by decide)) (by decide) (Nat.le_of_ble_eq_true rfl) (Nat.le_of_ble_eq_true rfl) dG_init_7 (fun n7 cA7 H hK7 hP hD hS => ?_)
  rw [zz_cI hK7] at hP hD
  have hP : va_P D vwCl [(q0, .inr (3, [.null])), (n7, .inl (cI, 16, .inl (fun _ => 0)))] H := hP
  have hD : va_D A [(q0, .inr (3, [.null])), (n7, .inl (cI, 16, .inl (fun _ => 0)))] := hD
  refine va_putF (D := D) (ci := 3) (v := .ref n7) (ty := (.array .int)) (C := "StatRows$RegisterRow") (T := TG) (N := 1) hx hb ht inG tyG okG nmG hown hK hP hD hS 0 rfl rfl 0 (by decide) (ht _ wd73) (fun _ h9 => h9) rfl hin rfl (by decide +kernel) rfl rfl (Nat.le_of_ble_eq_true rfl) dG_init_9 (fun H locs hP hD hS => ?_)
  have hP : va_P D vwCl [(q0, .inr (3, [.ref n7])), (n7, .inl (cI, 16, .inl (fun _ => 0)))] H := hP
  have hD : va_D A [(q0, .inr (3, [.ref n7])), (n7, .inl (cI, 16, .inl (fun _ => 0)))] := hD
  exact zz_vretW (w1 := fun u : Nat => [(q0, .inr (3, [.ref u])), (u, .inl (cI, 16, .inl (fun _ => 0)))]) n7 hx hb hr hlocks (trivial) hP hK hD hS dG_init_12

abbrev rm_X_init : Room := { frames := 2, cells := 12, slots := 1101, locals := 52 }
set_option maxHeartbeats 4000000 in
set_option maxRecDepth 100000 in
theorem c_X_init (l : Launch) (D : va_G) (cI cB : ClassId) (sz : Nat) (q0 : Nat) : Met l yX_init wX_init rm_X_init (zz_P D vwCl [(cI, .int), (cB, .boolean)] [.ref q0] [(q0, .inr (4, [.null, .null, .null, .null, .null]))] sz) (va_Qv (fun u : ((Nat × Nat × Nat) × (Nat × Nat × Nat × Nat) × (Nat × Nat) × (Nat × Nat) × Nat) => True) (fun u : ((Nat × Nat × Nat) × (Nat × Nat × Nat × Nat) × (Nat × Nat) × (Nat × Nat) × Nat) => zz_B D vwCl [(cI, .int), (cB, .boolean)] (va_A [(q0, .inr (4, [.null, .null, .null, .null, .null]))] sz) [(q0, .inr (4, [.ref u.1.1, .ref u.2.1.1, .ref u.2.2.1.1, .ref u.2.2.2.1.1, .ref u.2.2.2.2])), (u.1.1, .inr (0, [.ref u.1.2.1, .ref u.1.2.2])), (u.1.2.1, .inl (cI, 400, .inl (fun _ => 0))), (u.1.2.2, .inl (cI, 9, .inl (fun _ => 0))), (u.2.1.1, .inr (1, [.ref u.2.1.2.1, .ref u.2.1.2.2.1, .ref u.2.1.2.2.2, .int (nI 0)])), (u.2.1.2.1, .inl (cI, 30, .inl (fun _ => 0))), (u.2.1.2.2.1, .inl (cI, 30, .inl (fun _ => 0))), (u.2.1.2.2.2, .inl (cI, 30, .inl (fun _ => 0))), (u.2.2.1.1, .inr (2, [.ref u.2.2.1.2, .int (nI 0), .int (nI 0)])), (u.2.2.1.2, .inl (cI, 320, .inl (fun _ => 0))), (u.2.2.2.1.1, .inr (3, [.ref u.2.2.2.1.2])), (u.2.2.2.1.2, .inl (cI, 16, .inl (fun _ => 0))), (u.2.2.2.2, .inl (cI, 256, .inl (fun _ => 0)))]) (va_A [(q0, .inr (4, [.null, .null, .null, .null, .null]))] sz)) 12 1101 (va_A [(q0, .inr (4, [.null, .null, .null, .null, .null]))] sz) := by
  refine Met.ofW (cc := cX_init) (maxL := 1) (ret := none) (by decide) rfl ?_
  intro pg ev s mt args below meth kd s₁ B hml hv
  obtain ⟨rfl, hsz, hP, hK, hD0, hN⟩ := hv
  have hx := B.exec
  have hb := B.bytes
  have hr := B.returns
  have ht : ∀ w ∈ W0, w.before _ s = true := fun w h => atoms_spec (ws := wX_init) B.pre w (List.mem_cons_of_mem _ h)
  have hown : s.vm.findClass "StatRows" = some mt.cls := findClass_of_methodNamed B.named
  have hlocks := B.notSynchronized
  have hin : meth.name = "<init>" := (name_of_methodNamed B.named B.method).1
  subst hsz
  have hD := hD0.self (sz := s.heap.size)
  generalize hAe : va_A [(q0, .inr (4, [.null, .null, .null, .null, .null]))] s.heap.size = A at hD ⊢
  have hA : ∀ q : Nat, s.heap.size ≤ q → A q := fun q h => by rw [← hAe]; exact Or.inr h
  have hS : va_S A s.heap s.heap [] := va_S.rf
  have hP : va_P D vwCl [(q0, .inr (4, [.null, .null, .null, .null, .null]))] s.heap := hP
  have hl := lv_entry ([.ref q0]) (n := 1) (Nat.le_of_ble_eq_true rfl)
  rw [lg_entry_eq]
  generalize (lg_sl ([.ref q0]) ++ List.replicate (1 - (lg_sl ([.ref q0])).length) Slot.unset).toArray = ls at hl ⊢
  have hl : lv_has ls 1 [(0, .ref q0)] := hl
  refine lv_aload_n hx hb dX_init_0 rfl (lv_at hl 0 rfl) ?_
  refine W.objInit hx hb hown (ht _ wd15) (ht _ wd16) (ht _ wd17) rfl (by rw [hml]; exact hl.1) rfl dX_init_1 (Nat.le_of_ble_eq_true rfl) (Nat.le_of_ble_eq_true rfl) ?_
  refine W.eq (g2 := F0 mt 4 ls []) rfl ?_
  refine lv_aload_n hx hb dX_init_4 rfl (lv_at hl 0 rfl) ?_
  refine va_new (ci := 0) (fs := [.null, .null]) (C := "StatRows$TripleRow") (T := TT) (N := 2) hx hb ht inT tyT okT hown (ht _ wd18) (ht _ wd19) (ht _ wd2) hK hP hD hS hA rfl (fun j hj => by rcases (show j = 0 ∨ j = 1 by omega) with rfl | rfl <;> rfl) (Nat.le_of_ble_eq_true rfl) (Nat.le_of_ble_eq_true rfl) dX_init_5 (fun n5 H hP hD hS => ?_)
  have hP : va_P D vwCl [(q0, .inr (4, [.null, .null, .null, .null, .null])), (n5, .inr (0, [.null, .null]))] H := hP
  have hD : va_D A [(q0, .inr (4, [.null, .null, .null, .null, .null])), (n5, .inr (0, [.null, .null]))] := hD
  refine lv_dup hx hb dX_init_8 rfl ?_
  refine zz_wv (wc := [(n5, .inr (0, [.null, .null]))]) (wr := [(q0, .inr (4, [.null, .null, .null, .null, .null]))]) (va_runI (As := []) (rest := [.ref n5, .ref q0]) ⟨hx, hb, hml, hown, ht⟩ (c_T_init l D cI cB H.size n5) (cwI 0 ht (gd_1 wd22) rfl rfl rfl (ht _ wd2) (ht _ wd20) (ht _ wd21) rfl (by decide +kernel) ⟨Nat.le_of_ble_eq_true rfl, Nat.le_of_ble_eq_true rfl⟩) (zz_P_S hN hK (hP.sub (ws' := [(n5, .inr (0, [.null, .null]))]) [1] rfl) (hD.sub (ws' := [(n5, .inr (0, [.null, .null]))]) [1] (by decide) rfl)) rfl rfl hl.1 rfl (lv_room (Nat.le_of_ble_eq_true rfl)) dX_init_9 ⟨Nat.le_of_ble_eq_true rfl, Nat.le_of_ble_eq_true rfl⟩) hP hD hS hA [1] [0] rfl rfl (by decide) (by decide) (fun u9 H locs hq9 hP hD hS => ?_)
  have hP := hP.sub (ws' := [(q0, .inr (4, [.null, .null, .null, .null, .null])), (n5, .inr (0, [.ref u9.1, .ref u9.2])), (u9.1, .inl (cI, 400, .inl (fun _ => 0))), (u9.2, .inl (cI, 9, .inl (fun _ => 0)))]) [0, 1, 2, 3] rfl
  have hD := hD.sub (ws' := [(q0, .inr (4, [.null, .null, .null, .null, .null])), (n5, .inr (0, [.ref u9.1, .ref u9.2])), (u9.1, .inl (cI, 400, .inl (fun _ => 0))), (u9.2, .inl (cI, 9, .inl (fun _ => 0)))]) [0, 1, 2, 3] (by decide) rfl
  refine va_putF (D := D) (ci := 4) (v := .ref n5) (ty := .object "StatRows$TripleRow") (C := "StatRows") (T := TX) (N := 5) hx hb ht inX tyX okX nmX hown hK hP hD hS 0 rfl rfl 0 (by decide) (ht _ wd77) (fun _ h9 => h9) rfl hin rfl (by decide +kernel) rfl rfl (Nat.le_of_ble_eq_true rfl) dX_init_12 (fun H locs hP hD hS => ?_)
  have hP : va_P D vwCl [(q0, .inr (4, [.ref n5, .null, .null, .null, .null])), (n5, .inr (0, [.ref u9.1, .ref u9.2])), (u9.1, .inl (cI, 400, .inl (fun _ => 0))), (u9.2, .inl (cI, 9, .inl (fun _ => 0)))] H := hP
  have hD : va_D A [(q0, .inr (4, [.ref n5, .null, .null, .null, .null])), (n5, .inr (0, [.ref u9.1, .ref u9.2])), (u9.1, .inl (cI, 400, .inl (fun _ => 0))), (u9.2, .inl (cI, 9, .inl (fun _ => 0)))] := hD
  refine lv_aload_n hx hb dX_init_15 rfl (lv_at hl 0 rfl) ?_
  refine va_new (ci := 1) (fs := [.null, .null, .null, .int 0]) (C := "StatRows$PatternRow") (T := TP) (N := 4) hx hb ht inP tyP okP hown (ht _ wd32) (ht _ wd33) (ht _ wd3) hK hP hD hS hA rfl (fun j hj => by rcases (show j = 0 ∨ j = 1 ∨ j = 2 ∨ j = 3 by omega) with rfl | rfl | rfl | rfl <;> rfl) (Nat.le_of_ble_eq_true rfl) (Nat.le_of_ble_eq_true rfl) dX_init_16 (fun n16 H hP hD hS => ?_)
  have hP : va_P D vwCl [(q0, .inr (4, [.ref n5, .null, .null, .null, .null])), (n5, .inr (0, [.ref u9.1, .ref u9.2])), (u9.1, .inl (cI, 400, .inl (fun _ => 0))), (u9.2, .inl (cI, 9, .inl (fun _ => 0))), (n16, .inr (1, [.null, .null, .null, .int 0]))] H := hP
  have hD : va_D A [(q0, .inr (4, [.ref n5, .null, .null, .null, .null])), (n5, .inr (0, [.ref u9.1, .ref u9.2])), (u9.1, .inl (cI, 400, .inl (fun _ => 0))), (u9.2, .inl (cI, 9, .inl (fun _ => 0))), (n16, .inr (1, [.null, .null, .null, .int 0]))] := hD
  refine lv_dup hx hb dX_init_19 rfl ?_
  refine zz_wv (wc := [(n16, .inr (1, [.null, .null, .null, .int 0]))]) (wr := [(q0, .inr (4, [.ref n5, .null, .null, .null, .null])), (n5, .inr (0, [.ref u9.1, .ref u9.2])), (u9.1, .inl (cI, 400, .inl (fun _ => 0))), (u9.2, .inl (cI, 9, .inl (fun _ => 0)))]) (va_runI (As := []) (rest := [.ref n16, .ref q0]) ⟨hx, hb, hml, hown, ht⟩ (c_P_init l D cI cB H.size n16) (cwI 0 ht (gd_1 wd36) rfl rfl rfl (ht _ wd3) (ht _ wd34) (ht _ wd35) rfl (by decide +kernel) ⟨Nat.le_of_ble_eq_true rfl, Nat.le_of_ble_eq_true rfl⟩) (zz_P_S hN hK (hP.sub (ws' := [(n16, .inr (1, [.null, .null, .null, .int 0]))]) [4] rfl) (hD.sub (ws' := [(n16, .inr (1, [.null, .null, .null, .int 0]))]) [4] (by decide) rfl)) rfl rfl hl.1 rfl (lv_room (Nat.le_of_ble_eq_true rfl)) dX_init_20 ⟨Nat.le_of_ble_eq_true rfl, Nat.le_of_ble_eq_true rfl⟩) hP hD hS hA [4] [0, 1, 2, 3] rfl rfl (by decide) (by decide) (fun u20 H locs hq20 hP hD hS => ?_)
  have hP := hP.sub (ws' := [(q0, .inr (4, [.ref n5, .null, .null, .null, .null])), (n5, .inr (0, [.ref u9.1, .ref u9.2])), (u9.1, .inl (cI, 400, .inl (fun _ => 0))), (u9.2, .inl (cI, 9, .inl (fun _ => 0))), (n16, .inr (1, [.ref u20.1, .ref u20.2.1, .ref u20.2.2, .int (nI 0)])), (u20.1, .inl (cI, 30, .inl (fun _ => 0))), (u20.2.1, .inl (cI, 30, .inl (fun _ => 0))), (u20.2.2, .inl (cI, 30, .inl (fun _ => 0)))]) [0, 1, 2, 3, 4, 5, 6, 7] rfl
  have hD := hD.sub (ws' := [(q0, .inr (4, [.ref n5, .null, .null, .null, .null])), (n5, .inr (0, [.ref u9.1, .ref u9.2])), (u9.1, .inl (cI, 400, .inl (fun _ => 0))), (u9.2, .inl (cI, 9, .inl (fun _ => 0))), (n16, .inr (1, [.ref u20.1, .ref u20.2.1, .ref u20.2.2, .int (nI 0)])), (u20.1, .inl (cI, 30, .inl (fun _ => 0))), (u20.2.1, .inl (cI, 30, .inl (fun _ => 0))), (u20.2.2, .inl (cI, 30, .inl (fun _ => 0)))]) [0, 1, 2, 3, 4, 5, 6, 7] (by decide) rfl
  refine va_putF (D := D) (ci := 4) (v := .ref n16) (ty := .object "StatRows$PatternRow") (C := "StatRows") (T := TX) (N := 5) hx hb ht inX tyX okX nmX hown hK hP hD hS 0 rfl rfl 1 (by decide) (ht _ wd78) (fun _ h9 => h9) rfl hin rfl (by decide +kernel) rfl rfl (Nat.le_of_ble_eq_true rfl) dX_init_23 (fun H locs hP hD hS => ?_)
  have hP : va_P D vwCl [(q0, .inr (4, [.ref n5, .ref n16, .null, .null, .null])), (n5, .inr (0, [.ref u9.1, .ref u9.2])), (u9.1, .inl (cI, 400, .inl (fun _ => 0))), (u9.2, .inl (cI, 9, .inl (fun _ => 0))), (n16, .inr (1, [.ref u20.1, .ref u20.2.1, .ref u20.2.2, .int (nI 0)])), (u20.1, .inl (cI, 30, .inl (fun _ => 0))), (u20.2.1, .inl (cI, 30, .inl (fun _ => 0))), (u20.2.2, .inl (cI, 30, .inl (fun _ => 0)))] H := hP
  have hD : va_D A [(q0, .inr (4, [.ref n5, .ref n16, .null, .null, .null])), (n5, .inr (0, [.ref u9.1, .ref u9.2])), (u9.1, .inl (cI, 400, .inl (fun _ => 0))), (u9.2, .inl (cI, 9, .inl (fun _ => 0))), (n16, .inr (1, [.ref u20.1, .ref u20.2.1, .ref u20.2.2, .int (nI 0)])), (u20.1, .inl (cI, 30, .inl (fun _ => 0))), (u20.2.1, .inl (cI, 30, .inl (fun _ => 0))), (u20.2.2, .inl (cI, 30, .inl (fun _ => 0)))] := hD
  refine lv_aload_n hx hb dX_init_26 rfl (lv_at hl 0 rfl) ?_
  refine va_new (ci := 2) (fs := [.null, .int 0, .int 0]) (C := "StatRows$VersionRow") (T := TV) (N := 3) hx hb ht inV tyV okV hown (ht _ wd51) (ht _ wd52) (ht _ wd4) hK hP hD hS hA rfl (fun j hj => by rcases (show j = 0 ∨ j = 1 ∨ j = 2 by omega) with rfl | rfl | rfl <;> rfl) (Nat.le_of_ble_eq_true rfl) (Nat.le_of_ble_eq_true rfl) dX_init_27 (fun n27 H hP hD hS => ?_)
  have hP : va_P D vwCl [(q0, .inr (4, [.ref n5, .ref n16, .null, .null, .null])), (n5, .inr (0, [.ref u9.1, .ref u9.2])), (u9.1, .inl (cI, 400, .inl (fun _ => 0))), (u9.2, .inl (cI, 9, .inl (fun _ => 0))), (n16, .inr (1, [.ref u20.1, .ref u20.2.1, .ref u20.2.2, .int (nI 0)])), (u20.1, .inl (cI, 30, .inl (fun _ => 0))), (u20.2.1, .inl (cI, 30, .inl (fun _ => 0))), (u20.2.2, .inl (cI, 30, .inl (fun _ => 0))), (n27, .inr (2, [.null, .int 0, .int 0]))] H := hP
  have hD : va_D A [(q0, .inr (4, [.ref n5, .ref n16, .null, .null, .null])), (n5, .inr (0, [.ref u9.1, .ref u9.2])), (u9.1, .inl (cI, 400, .inl (fun _ => 0))), (u9.2, .inl (cI, 9, .inl (fun _ => 0))), (n16, .inr (1, [.ref u20.1, .ref u20.2.1, .ref u20.2.2, .int (nI 0)])), (u20.1, .inl (cI, 30, .inl (fun _ => 0))), (u20.2.1, .inl (cI, 30, .inl (fun _ => 0))), (u20.2.2, .inl (cI, 30, .inl (fun _ => 0))), (n27, .inr (2, [.null, .int 0, .int 0]))] := hD
  refine lv_dup hx hb dX_init_30 rfl ?_
  refine zz_wv (wc := [(n27, .inr (2, [.null, .int 0, .int 0]))]) (wr := [(q0, .inr (4, [.ref n5, .ref n16, .null, .null, .null])), (n5, .inr (0, [.ref u9.1, .ref u9.2])), (u9.1, .inl (cI, 400, .inl (fun _ => 0))), (u9.2, .inl (cI, 9, .inl (fun _ => 0))), (n16, .inr (1, [.ref u20.1, .ref u20.2.1, .ref u20.2.2, .int (nI 0)])), (u20.1, .inl (cI, 30, .inl (fun _ => 0))), (u20.2.1, .inl (cI, 30, .inl (fun _ => 0))), (u20.2.2, .inl (cI, 30, .inl (fun _ => 0)))]) (va_runI (As := []) (rest := [.ref n27, .ref q0]) ⟨hx, hb, hml, hown, ht⟩ (c_V_init l D cI cB H.size n27) (cwI 0 ht (gd_1 wd55) rfl rfl rfl (ht _ wd4) (ht _ wd53) (ht _ wd54) rfl (by decide +kernel) ⟨Nat.le_of_ble_eq_true rfl, Nat.le_of_ble_eq_true rfl⟩) (zz_P_S hN hK (hP.sub (ws' := [(n27, .inr (2, [.null, .int 0, .int 0]))]) [8] rfl) (hD.sub (ws' := [(n27, .inr (2, [.null, .int 0, .int 0]))]) [8] (by decide) rfl)) rfl rfl hl.1 rfl (lv_room (Nat.le_of_ble_eq_true rfl)) dX_init_31 ⟨Nat.le_of_ble_eq_true rfl, Nat.le_of_ble_eq_true rfl⟩) hP hD hS hA [8] [0, 1, 2, 3, 4, 5, 6, 7] rfl rfl (by decide) (by decide) (fun u31 H locs hq31 hP hD hS => ?_)
  have hP := hP.sub (ws' := [(q0, .inr (4, [.ref n5, .ref n16, .null, .null, .null])), (n5, .inr (0, [.ref u9.1, .ref u9.2])), (u9.1, .inl (cI, 400, .inl (fun _ => 0))), (u9.2, .inl (cI, 9, .inl (fun _ => 0))), (n16, .inr (1, [.ref u20.1, .ref u20.2.1, .ref u20.2.2, .int (nI 0)])), (u20.1, .inl (cI, 30, .inl (fun _ => 0))), (u20.2.1, .inl (cI, 30, .inl (fun _ => 0))), (u20.2.2, .inl (cI, 30, .inl (fun _ => 0))), (n27, .inr (2, [.ref u31, .int (nI 0), .int (nI 0)])), (u31, .inl (cI, 320, .inl (fun _ => 0)))]) [0, 1, 2, 3, 4, 5, 6, 7, 8, 9] rfl
  have hD := hD.sub (ws' := [(q0, .inr (4, [.ref n5, .ref n16, .null, .null, .null])), (n5, .inr (0, [.ref u9.1, .ref u9.2])), (u9.1, .inl (cI, 400, .inl (fun _ => 0))), (u9.2, .inl (cI, 9, .inl (fun _ => 0))), (n16, .inr (1, [.ref u20.1, .ref u20.2.1, .ref u20.2.2, .int (nI 0)])), (u20.1, .inl (cI, 30, .inl (fun _ => 0))), (u20.2.1, .inl (cI, 30, .inl (fun _ => 0))), (u20.2.2, .inl (cI, 30, .inl (fun _ => 0))), (n27, .inr (2, [.ref u31, .int (nI 0), .int (nI 0)])), (u31, .inl (cI, 320, .inl (fun _ => 0)))]) [0, 1, 2, 3, 4, 5, 6, 7, 8, 9] (by decide) rfl
  refine va_putF (D := D) (ci := 4) (v := .ref n27) (ty := .object "StatRows$VersionRow") (C := "StatRows") (T := TX) (N := 5) hx hb ht inX tyX okX nmX hown hK hP hD hS 0 rfl rfl 2 (by decide) (ht _ wd79) (fun _ h9 => h9) rfl hin rfl (by decide +kernel) rfl rfl (Nat.le_of_ble_eq_true rfl) dX_init_34 (fun H locs hP hD hS => ?_)
  have hP : va_P D vwCl [(q0, .inr (4, [.ref n5, .ref n16, .ref n27, .null, .null])), (n5, .inr (0, [.ref u9.1, .ref u9.2])), (u9.1, .inl (cI, 400, .inl (fun _ => 0))), (u9.2, .inl (cI, 9, .inl (fun _ => 0))), (n16, .inr (1, [.ref u20.1, .ref u20.2.1, .ref u20.2.2, .int (nI 0)])), (u20.1, .inl (cI, 30, .inl (fun _ => 0))), (u20.2.1, .inl (cI, 30, .inl (fun _ => 0))), (u20.2.2, .inl (cI, 30, .inl (fun _ => 0))), (n27, .inr (2, [.ref u31, .int (nI 0), .int (nI 0)])), (u31, .inl (cI, 320, .inl (fun _ => 0)))] H := hP
  have hD : va_D A [(q0, .inr (4, [.ref n5, .ref n16, .ref n27, .null, .null])), (n5, .inr (0, [.ref u9.1, .ref u9.2])), (u9.1, .inl (cI, 400, .inl (fun _ => 0))), (u9.2, .inl (cI, 9, .inl (fun _ => 0))), (n16, .inr (1, [.ref u20.1, .ref u20.2.1, .ref u20.2.2, .int (nI 0)])), (u20.1, .inl (cI, 30, .inl (fun _ => 0))), (u20.2.1, .inl (cI, 30, .inl (fun _ => 0))), (u20.2.2, .inl (cI, 30, .inl (fun _ => 0))), (n27, .inr (2, [.ref u31, .int (nI 0), .int (nI 0)])), (u31, .inl (cI, 320, .inl (fun _ => 0)))] := hD
  refine lv_aload_n hx hb dX_init_37 rfl (lv_at hl 0 rfl) ?_
  refine va_new (ci := 3) (fs := [.null]) (C := "StatRows$RegisterRow") (T := TG) (N := 1) hx hb ht inG tyG okG hown (ht _ wd67) (ht _ wd68) (ht _ wd5) hK hP hD hS hA rfl (fun j hj => by rcases (show j = 0 by omega) with rfl <;> rfl) (Nat.le_of_ble_eq_true rfl) (Nat.le_of_ble_eq_true rfl) dX_init_38 (fun n38 H hP hD hS => ?_)
  have hP : va_P D vwCl [(q0, .inr (4, [.ref n5, .ref n16, .ref n27, .null, .null])), (n5, .inr (0, [.ref u9.1, .ref u9.2])), (u9.1, .inl (cI, 400, .inl (fun _ => 0))), (u9.2, .inl (cI, 9, .inl (fun _ => 0))), (n16, .inr (1, [.ref u20.1, .ref u20.2.1, .ref u20.2.2, .int (nI 0)])), (u20.1, .inl (cI, 30, .inl (fun _ => 0))), (u20.2.1, .inl (cI, 30, .inl (fun _ => 0))), (u20.2.2, .inl (cI, 30, .inl (fun _ => 0))), (n27, .inr (2, [.ref u31, .int (nI 0), .int (nI 0)])), (u31, .inl (cI, 320, .inl (fun _ => 0))), (n38, .inr (3, [.null]))] H := hP
  have hD : va_D A [(q0, .inr (4, [.ref n5, .ref n16, .ref n27, .null, .null])), (n5, .inr (0, [.ref u9.1, .ref u9.2])), (u9.1, .inl (cI, 400, .inl (fun _ => 0))), (u9.2, .inl (cI, 9, .inl (fun _ => 0))), (n16, .inr (1, [.ref u20.1, .ref u20.2.1, .ref u20.2.2, .int (nI 0)])), (u20.1, .inl (cI, 30, .inl (fun _ => 0))), (u20.2.1, .inl (cI, 30, .inl (fun _ => 0))), (u20.2.2, .inl (cI, 30, .inl (fun _ => 0))), (n27, .inr (2, [.ref u31, .int (nI 0), .int (nI 0)])), (u31, .inl (cI, 320, .inl (fun _ => 0))), (n38, .inr (3, [.null]))] := hD
  refine lv_dup hx hb dX_init_41 rfl ?_
  refine zz_wv (wc := [(n38, .inr (3, [.null]))]) (wr := [(q0, .inr (4, [.ref n5, .ref n16, .ref n27, .null, .null])), (n5, .inr (0, [.ref u9.1, .ref u9.2])), (u9.1, .inl (cI, 400, .inl (fun _ => 0))), (u9.2, .inl (cI, 9, .inl (fun _ => 0))), (n16, .inr (1, [.ref u20.1, .ref u20.2.1, .ref u20.2.2, .int (nI 0)])), (u20.1, .inl (cI, 30, .inl (fun _ => 0))), (u20.2.1, .inl (cI, 30, .inl (fun _ => 0))), (u20.2.2, .inl (cI, 30, .inl (fun _ => 0))), (n27, .inr (2, [.ref u31, .int (nI 0), .int (nI 0)])), (u31, .inl (cI, 320, .inl (fun _ => 0)))]) (va_runI (As := []) (rest := [.ref n38, .ref q0]) ⟨hx, hb, hml, hown, ht⟩ (c_G_init l D cI cB H.size n38) (cwI 0 ht (gd_1 wd71) rfl rfl rfl (ht _ wd5) (ht _ wd69) (ht _ wd70) rfl (by decide +kernel) ⟨Nat.le_of_ble_eq_true rfl, Nat.le_of_ble_eq_true rfl⟩) (zz_P_S hN hK (hP.sub (ws' := [(n38, .inr (3, [.null]))]) [10] rfl) (hD.sub (ws' := [(n38, .inr (3, [.null]))]) [10] (by decide) rfl)) rfl rfl hl.1 rfl (lv_room (Nat.le_of_ble_eq_true rfl)) dX_init_42 ⟨Nat.le_of_ble_eq_true rfl, Nat.le_of_ble_eq_true rfl⟩) hP hD hS hA [10] [0, 1, 2, 3, 4, 5, 6, 7, 8, 9] rfl rfl (by decide) (by decide) (fun u42 H locs hq42 hP hD hS => ?_)
  have hP := hP.sub (ws' := [(q0, .inr (4, [.ref n5, .ref n16, .ref n27, .null, .null])), (n5, .inr (0, [.ref u9.1, .ref u9.2])), (u9.1, .inl (cI, 400, .inl (fun _ => 0))), (u9.2, .inl (cI, 9, .inl (fun _ => 0))), (n16, .inr (1, [.ref u20.1, .ref u20.2.1, .ref u20.2.2, .int (nI 0)])), (u20.1, .inl (cI, 30, .inl (fun _ => 0))), (u20.2.1, .inl (cI, 30, .inl (fun _ => 0))), (u20.2.2, .inl (cI, 30, .inl (fun _ => 0))), (n27, .inr (2, [.ref u31, .int (nI 0), .int (nI 0)])), (u31, .inl (cI, 320, .inl (fun _ => 0))), (n38, .inr (3, [.ref u42])), (u42, .inl (cI, 16, .inl (fun _ => 0)))]) [0, 1, 2, 3, 4, 5, 6, 7, 8, 9, 10, 11] rfl
  have hD := hD.sub (ws' := [(q0, .inr (4, [.ref n5, .ref n16, .ref n27, .null, .null])), (n5, .inr (0, [.ref u9.1, .ref u9.2])), (u9.1, .inl (cI, 400, .inl (fun _ => 0))), (u9.2, .inl (cI, 9, .inl (fun _ => 0))), (n16, .inr (1, [.ref u20.1, .ref u20.2.1, .ref u20.2.2, .int (nI 0)])), (u20.1, .inl (cI, 30, .inl (fun _ => 0))), (u20.2.1, .inl (cI, 30, .inl (fun _ => 0))), (u20.2.2, .inl (cI, 30, .inl (fun _ => 0))), (n27, .inr (2, [.ref u31, .int (nI 0), .int (nI 0)])), (u31, .inl (cI, 320, .inl (fun _ => 0))), (n38, .inr (3, [.ref u42])), (u42, .inl (cI, 16, .inl (fun _ => 0)))]) [0, 1, 2, 3, 4, 5, 6, 7, 8, 9, 10, 11] (by decide) rfl
  refine va_putF (D := D) (ci := 4) (v := .ref n38) (ty := .object "StatRows$RegisterRow") (C := "StatRows") (T := TX) (N := 5) hx hb ht inX tyX okX nmX hown hK hP hD hS 0 rfl rfl 3 (by decide) (ht _ wd80) (fun _ h9 => h9) rfl hin rfl (by decide +kernel) rfl rfl (Nat.le_of_ble_eq_true rfl) dX_init_45 (fun H locs hP hD hS => ?_)
  have hP : va_P D vwCl [(q0, .inr (4, [.ref n5, .ref n16, .ref n27, .ref n38, .null])), (n5, .inr (0, [.ref u9.1, .ref u9.2])), (u9.1, .inl (cI, 400, .inl (fun _ => 0))), (u9.2, .inl (cI, 9, .inl (fun _ => 0))), (n16, .inr (1, [.ref u20.1, .ref u20.2.1, .ref u20.2.2, .int (nI 0)])), (u20.1, .inl (cI, 30, .inl (fun _ => 0))), (u20.2.1, .inl (cI, 30, .inl (fun _ => 0))), (u20.2.2, .inl (cI, 30, .inl (fun _ => 0))), (n27, .inr (2, [.ref u31, .int (nI 0), .int (nI 0)])), (u31, .inl (cI, 320, .inl (fun _ => 0))), (n38, .inr (3, [.ref u42])), (u42, .inl (cI, 16, .inl (fun _ => 0)))] H := hP
  have hD : va_D A [(q0, .inr (4, [.ref n5, .ref n16, .ref n27, .ref n38, .null])), (n5, .inr (0, [.ref u9.1, .ref u9.2])), (u9.1, .inl (cI, 400, .inl (fun _ => 0))), (u9.2, .inl (cI, 9, .inl (fun _ => 0))), (n16, .inr (1, [.ref u20.1, .ref u20.2.1, .ref u20.2.2, .int (nI 0)])), (u20.1, .inl (cI, 30, .inl (fun _ => 0))), (u20.2.1, .inl (cI, 30, .inl (fun _ => 0))), (u20.2.2, .inl (cI, 30, .inl (fun _ => 0))), (n27, .inr (2, [.ref u31, .int (nI 0), .int (nI 0)])), (u31, .inl (cI, 320, .inl (fun _ => 0))), (n38, .inr (3, [.ref u42])), (u42, .inl (cI, 16, .inl (fun _ => 0)))] := hD
  refine lv_aload_n hx hb dX_init_48 rfl (lv_at hl 0 rfl) ?_
  refine lv_sipush (v := nI 256) hx hb dX_init_49 (by decide) ?_
  refine va_newa (atype := .int) (ty := .int) (N' := 256) (a0 := (256, .inl (fun _ => 0))) hx hb (ht _ wd31) rfl hK hP hD hS hA (fun _ => rfl) (nI_pos (by decide)) (nI_clamp (by decide)) (by decide) (Nat.le_of_ble_eq_true rfl) (Nat.le_of_ble_eq_true rfl) dX_init_52 (fun n52 cA52 H hK52 hP hD hS => ?_)
  rw [zz_cI hK52] at hP hD
  have hP : va_P D vwCl [(q0, .inr (4, [.ref n5, .ref n16, .ref n27, .ref n38, .null])), (n5, .inr (0, [.ref u9.1, .ref u9.2])), (u9.1, .inl (cI, 400, .inl (fun _ => 0))), (u9.2, .inl (cI, 9, .inl (fun _ => 0))), (n16, .inr (1, [.ref u20.1, .ref u20.2.1, .ref u20.2.2, .int (nI 0)])), (u20.1, .inl (cI, 30, .inl (fun _ => 0))), (u20.2.1, .inl (cI, 30, .inl (fun _ => 0))), (u20.2.2, .inl (cI, 30, .inl (fun _ => 0))), (n27, .inr (2, [.ref u31, .int (nI 0), .int (nI 0)])), (u31, .inl (cI, 320, .inl (fun _ => 0))), (n38, .inr (3, [.ref u42])), (u42, .inl (cI, 16, .inl (fun _ => 0))), (n52, .inl (cI, 256, .inl (fun _ => 0)))] H := hP
  have hD : va_D A [(q0, .inr (4, [.ref n5, .ref n16, .ref n27, .ref n38, .null])), (n5, .inr (0, [.ref u9.1, .ref u9.2])), (u9.1, .inl (cI, 400, .inl (fun _ => 0))), (u9.2, .inl (cI, 9, .inl (fun _ => 0))), (n16, .inr (1, [.ref u20.1, .ref u20.2.1, .ref u20.2.2, .int (nI 0)])), (u20.1, .inl (cI, 30, .inl (fun _ => 0))), (u20.2.1, .inl (cI, 30, .inl (fun _ => 0))), (u20.2.2, .inl (cI, 30, .inl (fun _ => 0))), (n27, .inr (2, [.ref u31, .int (nI 0), .int (nI 0)])), (u31, .inl (cI, 320, .inl (fun _ => 0))), (n38, .inr (3, [.ref u42])), (u42, .inl (cI, 16, .inl (fun _ => 0))), (n52, .inl (cI, 256, .inl (fun _ => 0)))] := hD
  refine va_putF (D := D) (ci := 4) (v := .ref n52) (ty := (.array .int)) (C := "StatRows") (T := TX) (N := 5) hx hb ht inX tyX okX nmX hown hK hP hD hS 0 rfl rfl 4 (by decide) (ht _ wd81) (fun _ h9 => h9) rfl hin rfl (by decide +kernel) rfl rfl (Nat.le_of_ble_eq_true rfl) dX_init_54 (fun H locs hP hD hS => ?_)
  have hP : va_P D vwCl [(q0, .inr (4, [.ref n5, .ref n16, .ref n27, .ref n38, .ref n52])), (n5, .inr (0, [.ref u9.1, .ref u9.2])), (u9.1, .inl (cI, 400, .inl (fun _ => 0))), (u9.2, .inl (cI, 9, .inl (fun _ => 0))), (n16, .inr (1, [.ref u20.1, .ref u20.2.1, .ref u20.2.2, .int (nI 0)])), (u20.1, .inl (cI, 30, .inl (fun _ => 0))), (u20.2.1, .inl (cI, 30, .inl (fun _ => 0))), (u20.2.2, .inl (cI, 30, .inl (fun _ => 0))), (n27, .inr (2, [.ref u31, .int (nI 0), .int (nI 0)])), (u31, .inl (cI, 320, .inl (fun _ => 0))), (n38, .inr (3, [.ref u42])), (u42, .inl (cI, 16, .inl (fun _ => 0))), (n52, .inl (cI, 256, .inl (fun _ => 0)))] H := hP
  have hD : va_D A [(q0, .inr (4, [.ref n5, .ref n16, .ref n27, .ref n38, .ref n52])), (n5, .inr (0, [.ref u9.1, .ref u9.2])), (u9.1, .inl (cI, 400, .inl (fun _ => 0))), (u9.2, .inl (cI, 9, .inl (fun _ => 0))), (n16, .inr (1, [.ref u20.1, .ref u20.2.1, .ref u20.2.2, .int (nI 0)])), (u20.1, .inl (cI, 30, .inl (fun _ => 0))), (u20.2.1, .inl (cI, 30, .inl (fun _ => 0))), (u20.2.2, .inl (cI, 30, .inl (fun _ => 0))), (n27, .inr (2, [.ref u31, .int (nI 0), .int (nI 0)])), (u31, .inl (cI, 320, .inl (fun _ => 0))), (n38, .inr (3, [.ref u42])), (u42, .inl (cI, 16, .inl (fun _ => 0))), (n52, .inl (cI, 256, .inl (fun _ => 0)))] := hD
  have hP := hP.sub (ws' := [(q0, .inr (4, [.ref n5, .ref n16, .ref n27, .ref n38, .ref n52])), (n5, .inr (0, [.ref u9.1, .ref u9.2])), (u9.1, .inl (cI, 400, .inl (fun _ => 0))), (u9.2, .inl (cI, 9, .inl (fun _ => 0))), (n16, .inr (1, [.ref u20.1, .ref u20.2.1, .ref u20.2.2, .int (nI 0)])), (u20.1, .inl (cI, 30, .inl (fun _ => 0))), (u20.2.1, .inl (cI, 30, .inl (fun _ => 0))), (u20.2.2, .inl (cI, 30, .inl (fun _ => 0))), (n27, .inr (2, [.ref u31, .int (nI 0), .int (nI 0)])), (u31, .inl (cI, 320, .inl (fun _ => 0))), (n38, .inr (3, [.ref u42])), (u42, .inl (cI, 16, .inl (fun _ => 0))), (n52, .inl (cI, 256, .inl (fun _ => 0)))]) [0, 1, 2, 3, 4, 5, 6, 7, 8, 9, 10, 11, 12] rfl
  have hD := hD.sub (ws' := [(q0, .inr (4, [.ref n5, .ref n16, .ref n27, .ref n38, .ref n52])), (n5, .inr (0, [.ref u9.1, .ref u9.2])), (u9.1, .inl (cI, 400, .inl (fun _ => 0))), (u9.2, .inl (cI, 9, .inl (fun _ => 0))), (n16, .inr (1, [.ref u20.1, .ref u20.2.1, .ref u20.2.2, .int (nI 0)])), (u20.1, .inl (cI, 30, .inl (fun _ => 0))), (u20.2.1, .inl (cI, 30, .inl (fun _ => 0))), (u20.2.2, .inl (cI, 30, .inl (fun _ => 0))), (n27, .inr (2, [.ref u31, .int (nI 0), .int (nI 0)])), (u31, .inl (cI, 320, .inl (fun _ => 0))), (n38, .inr (3, [.ref u42])), (u42, .inl (cI, 16, .inl (fun _ => 0))), (n52, .inl (cI, 256, .inl (fun _ => 0)))]) [0, 1, 2, 3, 4, 5, 6, 7, 8, 9, 10, 11, 12] (by decide) rfl
  exact zz_vretW (w1 := fun u : ((Nat × Nat × Nat) × (Nat × Nat × Nat × Nat) × (Nat × Nat) × (Nat × Nat) × Nat) => [(q0, .inr (4, [.ref u.1.1, .ref u.2.1.1, .ref u.2.2.1.1, .ref u.2.2.2.1.1, .ref u.2.2.2.2])), (u.1.1, .inr (0, [.ref u.1.2.1, .ref u.1.2.2])), (u.1.2.1, .inl (cI, 400, .inl (fun _ => 0))), (u.1.2.2, .inl (cI, 9, .inl (fun _ => 0))), (u.2.1.1, .inr (1, [.ref u.2.1.2.1, .ref u.2.1.2.2.1, .ref u.2.1.2.2.2, .int (nI 0)])), (u.2.1.2.1, .inl (cI, 30, .inl (fun _ => 0))), (u.2.1.2.2.1, .inl (cI, 30, .inl (fun _ => 0))), (u.2.1.2.2.2, .inl (cI, 30, .inl (fun _ => 0))), (u.2.2.1.1, .inr (2, [.ref u.2.2.1.2, .int (nI 0), .int (nI 0)])), (u.2.2.1.2, .inl (cI, 320, .inl (fun _ => 0))), (u.2.2.2.1.1, .inr (3, [.ref u.2.2.2.1.2])), (u.2.2.2.1.2, .inl (cI, 16, .inl (fun _ => 0))), (u.2.2.2.2, .inl (cI, 256, .inl (fun _ => 0)))]) ((n5, u9.1, u9.2), (n16, u20.1, u20.2.1, u20.2.2), (n27, u31), (n38, u42), n52) hx hb hr hlocks (trivial) hP hK hD hS dX_init_57

abbrev rm_M_init : Room := { frames := 1, cells := 6, slots := 1866, locals := 32 }
set_option maxHeartbeats 4000000 in
set_option maxRecDepth 100000 in
theorem c_M_init (l : Launch) (D : va_G) (cI cB : ClassId) (sz : Nat) (q0 : Nat) : Met l yM_init wM_init rm_M_init (zz_P D vwCl [(cI, .int), (cB, .boolean)] [.ref q0] [(q0, .inr (5, [.int 0, .null, .null, .null, .int 0, .null, .int 0, .int 0, .null, .null]))] sz) (va_Qv (fun u : (Nat × Nat × Nat × Nat × Nat × Nat) => True) (fun u : (Nat × Nat × Nat × Nat × Nat × Nat) => zz_B D vwCl [(cI, .int), (cB, .boolean)] (va_A [(q0, .inr (5, [.int 0, .null, .null, .null, .int 0, .null, .int 0, .int 0, .null, .null]))] sz) [(q0, .inr (5, [.int 0, .ref u.1, .ref u.2.1, .ref u.2.2.1, .int 0, .ref u.2.2.2.1, .int 0, .int 0, .ref u.2.2.2.2.1, .ref u.2.2.2.2.2])), (u.1, .inl (cI, 400, .inl (fun _ => 0))), (u.2.1, .inl (cI, 400, .inl (fun _ => 0))), (u.2.2.1, .inl (cI, 400, .inl (fun _ => 0))), (u.2.2.2.1, .inl (cI, 90, .inl (fun _ => 0))), (u.2.2.2.2.1, .inl (cI, 320, .inl (fun _ => 0))), (u.2.2.2.2.2, .inl (cB, 256, .inl (fun _ => 0)))]) (va_A [(q0, .inr (5, [.int 0, .null, .null, .null, .int 0, .null, .int 0, .int 0, .null, .null]))] sz)) 6 1866 (va_A [(q0, .inr (5, [.int 0, .null, .null, .null, .int 0, .null, .int 0, .int 0, .null, .null]))] sz) := by
  refine Met.ofW (cc := cM_init) (maxL := 1) (ret := none) (by decide) rfl ?_
  intro pg ev s mt args below meth kd s₁ B hml hv
  obtain ⟨rfl, hsz, hP, hK, hD0, hN⟩ := hv
  have hx := B.exec
  have hb := B.bytes
  have hr := B.returns
  have ht : ∀ w ∈ W0, w.before _ s = true := fun w h => atoms_spec (ws := wM_init) B.pre w (List.mem_cons_of_mem _ h)
  have hown : s.vm.findClass "StatRowsModel" = some mt.cls := findClass_of_methodNamed B.named
  have hlocks := B.notSynchronized
  have hin : meth.name = "<init>" := (name_of_methodNamed B.named B.method).1
  subst hsz
  have hD := hD0.self (sz := s.heap.size)
  generalize hAe : va_A [(q0, .inr (5, [.int 0, .null, .null, .null, .int 0, .null, .int 0, .int 0, .null, .null]))] s.heap.size = A at hD ⊢
  have hA : ∀ q : Nat, s.heap.size ≤ q → A q := fun q h => by rw [← hAe]; exact Or.inr h
  have hS : va_S A s.heap s.heap [] := va_S.rf
  have hP : va_P D vwCl [(q0, .inr (5, [.int 0, .null, .null, .null, .int 0, .null, .int 0, .int 0, .null, .null]))] s.heap := hP
  have hl := lv_entry ([.ref q0]) (n := 1) (Nat.le_of_ble_eq_true rfl)
  rw [lg_entry_eq]
  generalize (lg_sl ([.ref q0]) ++ List.replicate (1 - (lg_sl ([.ref q0])).length) Slot.unset).toArray = ls at hl ⊢
  have hl : lv_has ls 1 [(0, .ref q0)] := hl
  refine lv_aload_n hx hb dM_init_0 rfl (lv_at hl 0 rfl) ?_
  refine W.objInit hx hb hown (ht _ wd388) (ht _ wd16) (ht _ wd17) rfl (by rw [hml]; exact hl.1) rfl dM_init_1 (Nat.le_of_ble_eq_true rfl) (Nat.le_of_ble_eq_true rfl) ?_
  refine W.eq (g2 := F0 mt 4 ls []) rfl ?_
  refine lv_aload_n hx hb dM_init_4 rfl (lv_at hl 0 rfl) ?_
  refine lv_sipush (v := nI 400) hx hb dM_init_5 (by decide) ?_
  refine va_newa (atype := .int) (ty := .int) (N' := 400) (a0 := (400, .inl (fun _ => 0))) hx hb (ht _ wd31) rfl hK hP hD hS hA (fun _ => rfl) (nI_pos (by decide)) (nI_clamp (by decide)) (by decide) (Nat.le_of_ble_eq_true rfl) (Nat.le_of_ble_eq_true rfl) dM_init_8 (fun n8 cA8 H hK8 hP hD hS => ?_)
  rw [zz_cI hK8] at hP hD
  have hP : va_P D vwCl [(q0, .inr (5, [.int 0, .null, .null, .null, .int 0, .null, .int 0, .int 0, .null, .null])), (n8, .inl (cI, 400, .inl (fun _ => 0)))] H := hP
  have hD : va_D A [(q0, .inr (5, [.int 0, .null, .null, .null, .int 0, .null, .int 0, .int 0, .null, .null])), (n8, .inl (cI, 400, .inl (fun _ => 0)))] := hD
  refine va_putF (D := D) (ci := 5) (v := .ref n8) (ty := (.array .int)) (C := "StatRowsModel") (T := TM) (N := 10) hx hb ht inM tyM okM nmM hown hK hP hD hS 0 rfl rfl 1 (by decide) (ht _ wd390) (fun _ h9 => h9) rfl hin rfl (by decide +kernel) rfl rfl (Nat.le_of_ble_eq_true rfl) dM_init_10 (fun H locs hP hD hS => ?_)
  have hP : va_P D vwCl [(q0, .inr (5, [.int 0, .ref n8, .null, .null, .int 0, .null, .int 0, .int 0, .null, .null])), (n8, .inl (cI, 400, .inl (fun _ => 0)))] H := hP
  have hD : va_D A [(q0, .inr (5, [.int 0, .ref n8, .null, .null, .int 0, .null, .int 0, .int 0, .null, .null])), (n8, .inl (cI, 400, .inl (fun _ => 0)))] := hD
  refine lv_aload_n hx hb dM_init_13 rfl (lv_at hl 0 rfl) ?_
  refine lv_sipush (v := nI 400) hx hb dM_init_14 (by decide) ?_
  refine va_newa (atype := .int) (ty := .int) (N' := 400) (a0 := (400, .inl (fun _ => 0))) hx hb (ht _ wd31) rfl hK hP hD hS hA (fun _ => rfl) (nI_pos (by decide)) (nI_clamp (by decide)) (by decide) (Nat.le_of_ble_eq_true rfl) (Nat.le_of_ble_eq_true rfl) dM_init_17 (fun n17 cA17 H hK17 hP hD hS => ?_)
  rw [zz_cI hK17] at hP hD
  have hP : va_P D vwCl [(q0, .inr (5, [.int 0, .ref n8, .null, .null, .int 0, .null, .int 0, .int 0, .null, .null])), (n8, .inl (cI, 400, .inl (fun _ => 0))), (n17, .inl (cI, 400, .inl (fun _ => 0)))] H := hP
  have hD : va_D A [(q0, .inr (5, [.int 0, .ref n8, .null, .null, .int 0, .null, .int 0, .int 0, .null, .null])), (n8, .inl (cI, 400, .inl (fun _ => 0))), (n17, .inl (cI, 400, .inl (fun _ => 0)))] := hD
  refine va_putF (D := D) (ci := 5) (v := .ref n17) (ty := (.array .int)) (C := "StatRowsModel") (T := TM) (N := 10) hx hb ht inM tyM okM nmM hown hK hP hD hS 0 rfl rfl 2 (by decide) (ht _ wd391) (fun _ h9 => h9) rfl hin rfl (by decide +kernel) rfl rfl (Nat.le_of_ble_eq_true rfl) dM_init_19 (fun H locs hP hD hS => ?_)
  have hP : va_P D vwCl [(q0, .inr (5, [.int 0, .ref n8, .ref n17, .null, .int 0, .null, .int 0, .int 0, .null, .null])), (n8, .inl (cI, 400, .inl (fun _ => 0))), (n17, .inl (cI, 400, .inl (fun _ => 0)))] H := hP
  have hD : va_D A [(q0, .inr (5, [.int 0, .ref n8, .ref n17, .null, .int 0, .null, .int 0, .int 0, .null, .null])), (n8, .inl (cI, 400, .inl (fun _ => 0))), (n17, .inl (cI, 400, .inl (fun _ => 0)))] := hD
  refine lv_aload_n hx hb dM_init_22 rfl (lv_at hl 0 rfl) ?_
  refine lv_sipush (v := nI 400) hx hb dM_init_23 (by decide) ?_
  refine va_newa (atype := .int) (ty := .int) (N' := 400) (a0 := (400, .inl (fun _ => 0))) hx hb (ht _ wd31) rfl hK hP hD hS hA (fun _ => rfl) (nI_pos (by decide)) (nI_clamp (by decide)) (by decide) (Nat.le_of_ble_eq_true rfl) (Nat.le_of_ble_eq_true rfl) dM_init_26 (fun n26 cA26 H hK26 hP hD hS => ?_)
  rw [zz_cI hK26] at hP hD
  have hP : va_P D vwCl [(q0, .inr (5, [.int 0, .ref n8, .ref n17, .null, .int 0, .null, .int 0, .int 0, .null, .null])), (n8, .inl (cI, 400, .inl (fun _ => 0))), (n17, .inl (cI, 400, .inl (fun _ => 0))), (n26, .inl (cI, 400, .inl (fun _ => 0)))] H := hP
  have hD : va_D A [(q0, .inr (5, [.int 0, .ref n8, .ref n17, .null, .int 0, .null, .int 0, .int 0, .null, .null])), (n8, .inl (cI, 400, .inl (fun _ => 0))), (n17, .inl (cI, 400, .inl (fun _ => 0))), (n26, .inl (cI, 400, .inl (fun _ => 0)))] := hD
  refine va_putF (D := D) (ci := 5) (v := .ref n26) (ty := (.array .int)) (C := "StatRowsModel") (T := TM) (N := 10) hx hb ht inM tyM okM nmM hown hK hP hD hS 0 rfl rfl 3 (by decide) (ht _ wd392) (fun _ h9 => h9) rfl hin rfl (by decide +kernel) rfl rfl (Nat.le_of_ble_eq_true rfl) dM_init_28 (fun H locs hP hD hS => ?_)
  have hP : va_P D vwCl [(q0, .inr (5, [.int 0, .ref n8, .ref n17, .ref n26, .int 0, .null, .int 0, .int 0, .null, .null])), (n8, .inl (cI, 400, .inl (fun _ => 0))), (n17, .inl (cI, 400, .inl (fun _ => 0))), (n26, .inl (cI, 400, .inl (fun _ => 0)))] H := hP
  have hD : va_D A [(q0, .inr (5, [.int 0, .ref n8, .ref n17, .ref n26, .int 0, .null, .int 0, .int 0, .null, .null])), (n8, .inl (cI, 400, .inl (fun _ => 0))), (n17, .inl (cI, 400, .inl (fun _ => 0))), (n26, .inl (cI, 400, .inl (fun _ => 0)))] := hD
  refine lv_aload_n hx hb dM_init_31 rfl (lv_at hl 0 rfl) ?_
  refine lv_bipush (v := nI 90) hx hb dM_init_32 (by decide) ?_
  refine va_newa (atype := .int) (ty := .int) (N' := 90) (a0 := (90, .inl (fun _ => 0))) hx hb (ht _ wd31) rfl hK hP hD hS hA (fun _ => rfl) (nI_pos (by decide)) (nI_clamp (by decide)) (by decide) (Nat.le_of_ble_eq_true rfl) (Nat.le_of_ble_eq_true rfl) dM_init_34 (fun n34 cA34 H hK34 hP hD hS => ?_)
  rw [zz_cI hK34] at hP hD
  have hP : va_P D vwCl [(q0, .inr (5, [.int 0, .ref n8, .ref n17, .ref n26, .int 0, .null, .int 0, .int 0, .null, .null])), (n8, .inl (cI, 400, .inl (fun _ => 0))), (n17, .inl (cI, 400, .inl (fun _ => 0))), (n26, .inl (cI, 400, .inl (fun _ => 0))), (n34, .inl (cI, 90, .inl (fun _ => 0)))] H := hP
  have hD : va_D A [(q0, .inr (5, [.int 0, .ref n8, .ref n17, .ref n26, .int 0, .null, .int 0, .int 0, .null, .null])), (n8, .inl (cI, 400, .inl (fun _ => 0))), (n17, .inl (cI, 400, .inl (fun _ => 0))), (n26, .inl (cI, 400, .inl (fun _ => 0))), (n34, .inl (cI, 90, .inl (fun _ => 0)))] := hD
  refine va_putF (D := D) (ci := 5) (v := .ref n34) (ty := (.array .int)) (C := "StatRowsModel") (T := TM) (N := 10) hx hb ht inM tyM okM nmM hown hK hP hD hS 0 rfl rfl 5 (by decide) (ht _ wd394) (fun _ h9 => h9) rfl hin rfl (by decide +kernel) rfl rfl (Nat.le_of_ble_eq_true rfl) dM_init_36 (fun H locs hP hD hS => ?_)
  have hP : va_P D vwCl [(q0, .inr (5, [.int 0, .ref n8, .ref n17, .ref n26, .int 0, .ref n34, .int 0, .int 0, .null, .null])), (n8, .inl (cI, 400, .inl (fun _ => 0))), (n17, .inl (cI, 400, .inl (fun _ => 0))), (n26, .inl (cI, 400, .inl (fun _ => 0))), (n34, .inl (cI, 90, .inl (fun _ => 0)))] H := hP
  have hD : va_D A [(q0, .inr (5, [.int 0, .ref n8, .ref n17, .ref n26, .int 0, .ref n34, .int 0, .int 0, .null, .null])), (n8, .inl (cI, 400, .inl (fun _ => 0))), (n17, .inl (cI, 400, .inl (fun _ => 0))), (n26, .inl (cI, 400, .inl (fun _ => 0))), (n34, .inl (cI, 90, .inl (fun _ => 0)))] := hD
  refine lv_aload_n hx hb dM_init_39 rfl (lv_at hl 0 rfl) ?_
  refine lv_sipush (v := nI 320) hx hb dM_init_40 (by decide) ?_
  refine va_newa (atype := .int) (ty := .int) (N' := 320) (a0 := (320, .inl (fun _ => 0))) hx hb (ht _ wd31) rfl hK hP hD hS hA (fun _ => rfl) (nI_pos (by decide)) (nI_clamp (by decide)) (by decide) (Nat.le_of_ble_eq_true rfl) (Nat.le_of_ble_eq_true rfl) dM_init_43 (fun n43 cA43 H hK43 hP hD hS => ?_)
  rw [zz_cI hK43] at hP hD
  have hP : va_P D vwCl [(q0, .inr (5, [.int 0, .ref n8, .ref n17, .ref n26, .int 0, .ref n34, .int 0, .int 0, .null, .null])), (n8, .inl (cI, 400, .inl (fun _ => 0))), (n17, .inl (cI, 400, .inl (fun _ => 0))), (n26, .inl (cI, 400, .inl (fun _ => 0))), (n34, .inl (cI, 90, .inl (fun _ => 0))), (n43, .inl (cI, 320, .inl (fun _ => 0)))] H := hP
  have hD : va_D A [(q0, .inr (5, [.int 0, .ref n8, .ref n17, .ref n26, .int 0, .ref n34, .int 0, .int 0, .null, .null])), (n8, .inl (cI, 400, .inl (fun _ => 0))), (n17, .inl (cI, 400, .inl (fun _ => 0))), (n26, .inl (cI, 400, .inl (fun _ => 0))), (n34, .inl (cI, 90, .inl (fun _ => 0))), (n43, .inl (cI, 320, .inl (fun _ => 0)))] := hD
  refine va_putF (D := D) (ci := 5) (v := .ref n43) (ty := (.array .int)) (C := "StatRowsModel") (T := TM) (N := 10) hx hb ht inM tyM okM nmM hown hK hP hD hS 0 rfl rfl 8 (by decide) (ht _ wd397) (fun _ h9 => h9) rfl hin rfl (by decide +kernel) rfl rfl (Nat.le_of_ble_eq_true rfl) dM_init_45 (fun H locs hP hD hS => ?_)
  have hP : va_P D vwCl [(q0, .inr (5, [.int 0, .ref n8, .ref n17, .ref n26, .int 0, .ref n34, .int 0, .int 0, .ref n43, .null])), (n8, .inl (cI, 400, .inl (fun _ => 0))), (n17, .inl (cI, 400, .inl (fun _ => 0))), (n26, .inl (cI, 400, .inl (fun _ => 0))), (n34, .inl (cI, 90, .inl (fun _ => 0))), (n43, .inl (cI, 320, .inl (fun _ => 0)))] H := hP
  have hD : va_D A [(q0, .inr (5, [.int 0, .ref n8, .ref n17, .ref n26, .int 0, .ref n34, .int 0, .int 0, .ref n43, .null])), (n8, .inl (cI, 400, .inl (fun _ => 0))), (n17, .inl (cI, 400, .inl (fun _ => 0))), (n26, .inl (cI, 400, .inl (fun _ => 0))), (n34, .inl (cI, 90, .inl (fun _ => 0))), (n43, .inl (cI, 320, .inl (fun _ => 0)))] := hD
  refine lv_aload_n hx hb dM_init_48 rfl (lv_at hl 0 rfl) ?_
  refine lv_sipush (v := nI 256) hx hb dM_init_49 (by decide) ?_
  refine va_newa (atype := .boolean) (ty := .boolean) (N' := 256) (a0 := (256, .inl (fun _ => 0))) hx hb (ht _ wd420) rfl hK hP hD hS hA (fun _ => rfl) (nI_pos (by decide)) (nI_clamp (by decide)) (by decide) (Nat.le_of_ble_eq_true rfl) (Nat.le_of_ble_eq_true rfl) dM_init_52 (fun n52 cA52 H hK52 hP hD hS => ?_)
  rw [zz_cB hK52] at hP hD
  have hP : va_P D vwCl [(q0, .inr (5, [.int 0, .ref n8, .ref n17, .ref n26, .int 0, .ref n34, .int 0, .int 0, .ref n43, .null])), (n8, .inl (cI, 400, .inl (fun _ => 0))), (n17, .inl (cI, 400, .inl (fun _ => 0))), (n26, .inl (cI, 400, .inl (fun _ => 0))), (n34, .inl (cI, 90, .inl (fun _ => 0))), (n43, .inl (cI, 320, .inl (fun _ => 0))), (n52, .inl (cB, 256, .inl (fun _ => 0)))] H := hP
  have hD : va_D A [(q0, .inr (5, [.int 0, .ref n8, .ref n17, .ref n26, .int 0, .ref n34, .int 0, .int 0, .ref n43, .null])), (n8, .inl (cI, 400, .inl (fun _ => 0))), (n17, .inl (cI, 400, .inl (fun _ => 0))), (n26, .inl (cI, 400, .inl (fun _ => 0))), (n34, .inl (cI, 90, .inl (fun _ => 0))), (n43, .inl (cI, 320, .inl (fun _ => 0))), (n52, .inl (cB, 256, .inl (fun _ => 0)))] := hD
  refine va_putF (D := D) (ci := 5) (v := .ref n52) (ty := (.array .boolean)) (C := "StatRowsModel") (T := TM) (N := 10) hx hb ht inM tyM okM nmM hown hK hP hD hS 0 rfl rfl 9 (by decide) (ht _ wd398) (fun _ h9 => h9) rfl hin rfl (by decide +kernel) rfl rfl (Nat.le_of_ble_eq_true rfl) dM_init_54 (fun H locs hP hD hS => ?_)
  have hP : va_P D vwCl [(q0, .inr (5, [.int 0, .ref n8, .ref n17, .ref n26, .int 0, .ref n34, .int 0, .int 0, .ref n43, .ref n52])), (n8, .inl (cI, 400, .inl (fun _ => 0))), (n17, .inl (cI, 400, .inl (fun _ => 0))), (n26, .inl (cI, 400, .inl (fun _ => 0))), (n34, .inl (cI, 90, .inl (fun _ => 0))), (n43, .inl (cI, 320, .inl (fun _ => 0))), (n52, .inl (cB, 256, .inl (fun _ => 0)))] H := hP
  have hD : va_D A [(q0, .inr (5, [.int 0, .ref n8, .ref n17, .ref n26, .int 0, .ref n34, .int 0, .int 0, .ref n43, .ref n52])), (n8, .inl (cI, 400, .inl (fun _ => 0))), (n17, .inl (cI, 400, .inl (fun _ => 0))), (n26, .inl (cI, 400, .inl (fun _ => 0))), (n34, .inl (cI, 90, .inl (fun _ => 0))), (n43, .inl (cI, 320, .inl (fun _ => 0))), (n52, .inl (cB, 256, .inl (fun _ => 0)))] := hD
  exact zz_vretW (w1 := fun u : (Nat × Nat × Nat × Nat × Nat × Nat) => [(q0, .inr (5, [.int 0, .ref u.1, .ref u.2.1, .ref u.2.2.1, .int 0, .ref u.2.2.2.1, .int 0, .int 0, .ref u.2.2.2.2.1, .ref u.2.2.2.2.2])), (u.1, .inl (cI, 400, .inl (fun _ => 0))), (u.2.1, .inl (cI, 400, .inl (fun _ => 0))), (u.2.2.1, .inl (cI, 400, .inl (fun _ => 0))), (u.2.2.2.1, .inl (cI, 90, .inl (fun _ => 0))), (u.2.2.2.2.1, .inl (cI, 320, .inl (fun _ => 0))), (u.2.2.2.2.2, .inl (cB, 256, .inl (fun _ => 0)))]) (n8, n17, n26, n34, n43, n52) hx hb hr hlocks (trivial) hP hK hD hS dM_init_57
end
