section
-- ===== PART A: goes FIRST, ahead of the names: the tables' words, and 'selects' of the private methods out of them =====
/-- a private method of a class that the tables say can be made, by its rows of tables_1 -/
def lw_okq (q : MethodName × Nat) : Prop := (q.1.cls ≠ "java/lang/invoke/MethodHandle" ∧ q.1.cls ≠ "java/lang/invoke/VarHandle") ∧ Cond.instantiable q.1.cls q.2 ∈ tables_1 ∧ Cond.privateMethod q.1 ∈ tables_1 ∧ Cond.instanceMethod q.1 ∈ tables_1
theorem lw_p0 : lw_okq (⟨"AnchoredComments$History", "dropOldest", "()V"⟩, 2) := ⟨⟨by decide +kernel, by decide +kernel⟩, List.mem_of_getElem? (i := 117) (by decide +kernel), List.mem_of_getElem? (i := 266) (by decide +kernel), List.mem_of_getElem? (i := 267) (by decide +kernel)⟩
theorem lw_p1 : lw_okq (⟨"AnchoredComments", "isPosition", "(I)Z"⟩, 8) := ⟨⟨by decide +kernel, by decide +kernel⟩, List.mem_of_getElem? (i := 13) (by decide +kernel), List.mem_of_getElem? (i := 308) (by decide +kernel), List.mem_of_getElem? (i := 309) (by decide +kernel)⟩
theorem lw_p2 : lw_okq (⟨"AnchoredComments", "isRange", "(III)Z"⟩, 8) := ⟨⟨by decide +kernel, by decide +kernel⟩, List.mem_of_getElem? (i := 13) (by decide +kernel), List.mem_of_getElem? (i := 347) (by decide +kernel), List.mem_of_getElem? (i := 348) (by decide +kernel)⟩
theorem lw_p3 : lw_okq (⟨"AnchoredComments$Finder", "beginRow", "()V"⟩, 5) := ⟨⟨by decide +kernel, by decide +kernel⟩, List.mem_of_getElem? (i := 153) (by decide +kernel), List.mem_of_getElem? (i := 404) (by decide +kernel), List.mem_of_getElem? (i := 405) (by decide +kernel)⟩
theorem lw_p4 : lw_okq (⟨"AnchoredComments$Finder", "takeLetter", "(LAnchoredComments$Text;I)V"⟩, 5) := ⟨⟨by decide +kernel, by decide +kernel⟩, List.mem_of_getElem? (i := 153) (by decide +kernel), List.mem_of_getElem? (i := 409) (by decide +kernel), List.mem_of_getElem? (i := 410) (by decide +kernel)⟩
theorem lw_p5 : lw_okq (⟨"AnchoredComments$Finder", "endOfRow", "(LAnchoredComments$Text;)I"⟩, 5) := ⟨⟨by decide +kernel, by decide +kernel⟩, List.mem_of_getElem? (i := 153) (by decide +kernel), List.mem_of_getElem? (i := 413) (by decide +kernel), List.mem_of_getElem? (i := 414) (by decide +kernel)⟩
theorem lw_p6 : lw_okq (⟨"AnchoredComments$Note", "likeBefore", "(LAnchoredComments$Text;I)I"⟩, 8) := ⟨⟨by decide +kernel, by decide +kernel⟩, List.mem_of_getElem? (i := 53) (by decide +kernel), List.mem_of_getElem? (i := 421) (by decide +kernel), List.mem_of_getElem? (i := 422) (by decide +kernel)⟩
theorem lw_p7 : lw_okq (⟨"AnchoredComments$Note", "likeBehind", "(LAnchoredComments$Text;I)I"⟩, 8) := ⟨⟨by decide +kernel, by decide +kernel⟩, List.mem_of_getElem? (i := 53) (by decide +kernel), List.mem_of_getElem? (i := 426) (by decide +kernel), List.mem_of_getElem? (i := 427) (by decide +kernel)⟩
theorem lw_p8 : lw_okq (⟨"AnchoredComments$Planner", "takeIn", "(LAnchoredComments$Note;)V"⟩, 3) := ⟨⟨by decide +kernel, by decide +kernel⟩, List.mem_of_getElem? (i := 179) (by decide +kernel), List.mem_of_getElem? (i := 442) (by decide +kernel), List.mem_of_getElem? (i := 443) (by decide +kernel)⟩
theorem lw_p9 : lw_okq (⟨"AnchoredComments$Page", "firstTwin", "(I)I"⟩, 4) := ⟨⟨by decide +kernel, by decide +kernel⟩, List.mem_of_getElem? (i := 44) (by decide +kernel), List.mem_of_getElem? (i := 490) (by decide +kernel), List.mem_of_getElem? (i := 491) (by decide +kernel)⟩
theorem lw_p10 : lw_okq (⟨"AnchoredComments", "isLetterIndex", "(I)Z"⟩, 8) := ⟨⟨by decide +kernel, by decide +kernel⟩, List.mem_of_getElem? (i := 13) (by decide +kernel), List.mem_of_getElem? (i := 519) (by decide +kernel), List.mem_of_getElem? (i := 520) (by decide +kernel)⟩
theorem lw_p11 : lw_okq (⟨"AnchoredComments$Page", "rankOf", "(LAnchoredComments$Note;I)I"⟩, 4) := ⟨⟨by decide +kernel, by decide +kernel⟩, List.mem_of_getElem? (i := 44) (by decide +kernel), List.mem_of_getElem? (i := 583) (by decide +kernel), List.mem_of_getElem? (i := 584) (by decide +kernel)⟩
theorem lw_p12 : lw_okq (⟨"AnchoredComments", "mixNote", "(JLAnchoredComments$Note;)J"⟩, 8) := ⟨⟨by decide +kernel, by decide +kernel⟩, List.mem_of_getElem? (i := 13) (by decide +kernel), List.mem_of_getElem? (i := 616) (by decide +kernel), List.mem_of_getElem? (i := 617) (by decide +kernel)⟩
theorem lw_p13 : lw_okq (⟨"AnchoredCommentsModel", "begins", "()V"⟩, 20) := ⟨⟨by decide +kernel, by decide +kernel⟩, List.mem_of_getElem? (i := 620) (by decide +kernel), List.mem_of_getElem? (i := 703) (by decide +kernel), List.mem_of_getElem? (i := 704) (by decide +kernel)⟩
theorem lw_p14 : lw_okq (⟨"AnchoredCommentsModel", "made", "(I)I"⟩, 20) := ⟨⟨by decide +kernel, by decide +kernel⟩, List.mem_of_getElem? (i := 620) (by decide +kernel), List.mem_of_getElem? (i := 716) (by decide +kernel), List.mem_of_getElem? (i := 717) (by decide +kernel)⟩
theorem lw_p15 : lw_okq (⟨"AnchoredCommentsModel", "isPosition", "(I)Z"⟩, 20) := ⟨⟨by decide +kernel, by decide +kernel⟩, List.mem_of_getElem? (i := 620) (by decide +kernel), List.mem_of_getElem? (i := 724) (by decide +kernel), List.mem_of_getElem? (i := 725) (by decide +kernel)⟩
def lw_privs_1 : List (MethodName × Nat) := [(⟨"AnchoredComments$History", "dropOldest", "()V"⟩, 2), (⟨"AnchoredComments", "isPosition", "(I)Z"⟩, 8), (⟨"AnchoredComments", "isRange", "(III)Z"⟩, 8), (⟨"AnchoredComments$Finder", "beginRow", "()V"⟩, 5), (⟨"AnchoredComments$Finder", "takeLetter", "(LAnchoredComments$Text;I)V"⟩, 5), (⟨"AnchoredComments$Finder", "endOfRow", "(LAnchoredComments$Text;)I"⟩, 5), (⟨"AnchoredComments$Note", "likeBefore", "(LAnchoredComments$Text;I)I"⟩, 8), (⟨"AnchoredComments$Note", "likeBehind", "(LAnchoredComments$Text;I)I"⟩, 8), (⟨"AnchoredComments$Planner", "takeIn", "(LAnchoredComments$Note;)V"⟩, 3), (⟨"AnchoredComments$Page", "firstTwin", "(I)I"⟩, 4), (⟨"AnchoredComments", "isLetterIndex", "(I)Z"⟩, 8), (⟨"AnchoredComments$Page", "rankOf", "(LAnchoredComments$Note;I)I"⟩, 4), (⟨"AnchoredComments", "mixNote", "(JLAnchoredComments$Note;)J"⟩, 8), (⟨"AnchoredCommentsModel", "begins", "()V"⟩, 20), (⟨"AnchoredCommentsModel", "made", "(I)I"⟩, 20), (⟨"AnchoredCommentsModel", "isPosition", "(I)Z"⟩, 20)]
theorem lw_r1 : ∀ q ∈ lw_privs_1, lw_okq q := List.forall_mem_cons.mpr ⟨lw_p0, List.forall_mem_cons.mpr ⟨lw_p1, List.forall_mem_cons.mpr ⟨lw_p2, List.forall_mem_cons.mpr ⟨lw_p3, List.forall_mem_cons.mpr ⟨lw_p4, List.forall_mem_cons.mpr ⟨lw_p5, List.forall_mem_cons.mpr ⟨lw_p6, List.forall_mem_cons.mpr ⟨lw_p7, List.forall_mem_cons.mpr ⟨lw_p8, List.forall_mem_cons.mpr ⟨lw_p9, List.forall_mem_cons.mpr ⟨lw_p10, List.forall_mem_cons.mpr ⟨lw_p11, List.forall_mem_cons.mpr ⟨lw_p12, List.forall_mem_cons.mpr ⟨lw_p13, List.forall_mem_cons.mpr ⟨lw_p14, List.forall_mem_cons.mpr ⟨lw_p15, fun _ h => absurd h List.not_mem_nil⟩⟩⟩⟩⟩⟩⟩⟩⟩⟩⟩⟩⟩⟩⟩⟩
theorem lw_p16 : lw_okq (⟨"AnchoredCommentsModel", "quotes", "(I)V"⟩, 20) := ⟨⟨by decide +kernel, by decide +kernel⟩, List.mem_of_getElem? (i := 620) (by decide +kernel), List.mem_of_getElem? (i := 739) (by decide +kernel), List.mem_of_getElem? (i := 740) (by decide +kernel)⟩
theorem lw_p17 : lw_okq (⟨"AnchoredCommentsModel", "quotesPart", "(IIII)V"⟩, 20) := ⟨⟨by decide +kernel, by decide +kernel⟩, List.mem_of_getElem? (i := 620) (by decide +kernel), List.mem_of_getElem? (i := 743) (by decide +kernel), List.mem_of_getElem? (i := 744) (by decide +kernel)⟩
theorem lw_p18 : lw_okq (⟨"AnchoredCommentsModel", "find", "(I)I"⟩, 20) := ⟨⟨by decide +kernel, by decide +kernel⟩, List.mem_of_getElem? (i := 620) (by decide +kernel), List.mem_of_getElem? (i := 751) (by decide +kernel), List.mem_of_getElem? (i := 752) (by decide +kernel)⟩
theorem lw_p19 : lw_okq (⟨"AnchoredCommentsModel", "removes", "(I)V"⟩, 20) := ⟨⟨by decide +kernel, by decide +kernel⟩, List.mem_of_getElem? (i := 620) (by decide +kernel), List.mem_of_getElem? (i := 755) (by decide +kernel), List.mem_of_getElem? (i := 756) (by decide +kernel)⟩
theorem lw_p20 : lw_okq (⟨"AnchoredCommentsModel", "findBest", "(I)Z"⟩, 20) := ⟨⟨by decide +kernel, by decide +kernel⟩, List.mem_of_getElem? (i := 620) (by decide +kernel), List.mem_of_getElem? (i := 767) (by decide +kernel), List.mem_of_getElem? (i := 768) (by decide +kernel)⟩
theorem lw_p21 : lw_okq (⟨"AnchoredCommentsModel", "bestAt", "(II)Z"⟩, 20) := ⟨⟨by decide +kernel, by decide +kernel⟩, List.mem_of_getElem? (i := 620) (by decide +kernel), List.mem_of_getElem? (i := 771) (by decide +kernel), List.mem_of_getElem? (i := 772) (by decide +kernel)⟩
theorem lw_p22 : lw_okq (⟨"AnchoredCommentsModel", "startsLine", "(I)V"⟩, 20) := ⟨⟨by decide +kernel, by decide +kernel⟩, List.mem_of_getElem? (i := 620) (by decide +kernel), List.mem_of_getElem? (i := 775) (by decide +kernel), List.mem_of_getElem? (i := 776) (by decide +kernel)⟩
theorem lw_p23 : lw_okq (⟨"AnchoredCommentsModel", "goesOn", "(II)V"⟩, 20) := ⟨⟨by decide +kernel, by decide +kernel⟩, List.mem_of_getElem? (i := 620) (by decide +kernel), List.mem_of_getElem? (i := 779) (by decide +kernel), List.mem_of_getElem? (i := 780) (by decide +kernel)⟩
theorem lw_p24 : lw_okq (⟨"AnchoredCommentsModel", "scored", "(IIII)I"⟩, 20) := ⟨⟨by decide +kernel, by decide +kernel⟩, List.mem_of_getElem? (i := 620) (by decide +kernel), List.mem_of_getElem? (i := 783) (by decide +kernel), List.mem_of_getElem? (i := 784) (by decide +kernel)⟩
theorem lw_p25 : lw_okq (⟨"AnchoredCommentsModel", "before", "(II)I"⟩, 20) := ⟨⟨by decide +kernel, by decide +kernel⟩, List.mem_of_getElem? (i := 620) (by decide +kernel), List.mem_of_getElem? (i := 787) (by decide +kernel), List.mem_of_getElem? (i := 788) (by decide +kernel)⟩
theorem lw_p26 : lw_okq (⟨"AnchoredCommentsModel", "behind", "(II)I"⟩, 20) := ⟨⟨by decide +kernel, by decide +kernel⟩, List.mem_of_getElem? (i := 620) (by decide +kernel), List.mem_of_getElem? (i := 791) (by decide +kernel), List.mem_of_getElem? (i := 792) (by decide +kernel)⟩
theorem lw_p27 : lw_okq (⟨"AnchoredCommentsModel", "attaches", "(III)V"⟩, 20) := ⟨⟨by decide +kernel, by decide +kernel⟩, List.mem_of_getElem? (i := 620) (by decide +kernel), List.mem_of_getElem? (i := 795) (by decide +kernel), List.mem_of_getElem? (i := 796) (by decide +kernel)⟩
theorem lw_p28 : lw_okq (⟨"AnchoredCommentsModel", "findOrder", "()V"⟩, 20) := ⟨⟨by decide +kernel, by decide +kernel⟩, List.mem_of_getElem? (i := 620) (by decide +kernel), List.mem_of_getElem? (i := 803) (by decide +kernel), List.mem_of_getElem? (i := 804) (by decide +kernel)⟩
theorem lw_p29 : lw_okq (⟨"AnchoredCommentsModel", "findScores", "()V"⟩, 20) := ⟨⟨by decide +kernel, by decide +kernel⟩, List.mem_of_getElem? (i := 620) (by decide +kernel), List.mem_of_getElem? (i := 807) (by decide +kernel), List.mem_of_getElem? (i := 808) (by decide +kernel)⟩
theorem lw_p30 : lw_okq (⟨"AnchoredCommentsModel", "findSums", "()V"⟩, 20) := ⟨⟨by decide +kernel, by decide +kernel⟩, List.mem_of_getElem? (i := 620) (by decide +kernel), List.mem_of_getElem? (i := 811) (by decide +kernel), List.mem_of_getElem? (i := 812) (by decide +kernel)⟩
theorem lw_p31 : lw_okq (⟨"AnchoredCommentsModel", "worth", "(II)I"⟩, 20) := ⟨⟨by decide +kernel, by decide +kernel⟩, List.mem_of_getElem? (i := 620) (by decide +kernel), List.mem_of_getElem? (i := 815) (by decide +kernel), List.mem_of_getElem? (i := 816) (by decide +kernel)⟩
def lw_privs_2 : List (MethodName × Nat) := [(⟨"AnchoredCommentsModel", "quotes", "(I)V"⟩, 20), (⟨"AnchoredCommentsModel", "quotesPart", "(IIII)V"⟩, 20), (⟨"AnchoredCommentsModel", "find", "(I)I"⟩, 20), (⟨"AnchoredCommentsModel", "removes", "(I)V"⟩, 20), (⟨"AnchoredCommentsModel", "findBest", "(I)Z"⟩, 20), (⟨"AnchoredCommentsModel", "bestAt", "(II)Z"⟩, 20), (⟨"AnchoredCommentsModel", "startsLine", "(I)V"⟩, 20), (⟨"AnchoredCommentsModel", "goesOn", "(II)V"⟩, 20), (⟨"AnchoredCommentsModel", "scored", "(IIII)I"⟩, 20), (⟨"AnchoredCommentsModel", "before", "(II)I"⟩, 20), (⟨"AnchoredCommentsModel", "behind", "(II)I"⟩, 20), (⟨"AnchoredCommentsModel", "attaches", "(III)V"⟩, 20), (⟨"AnchoredCommentsModel", "findOrder", "()V"⟩, 20), (⟨"AnchoredCommentsModel", "findScores", "()V"⟩, 20), (⟨"AnchoredCommentsModel", "findSums", "()V"⟩, 20), (⟨"AnchoredCommentsModel", "worth", "(II)I"⟩, 20)]
theorem lw_r2 : ∀ q ∈ lw_privs_2, lw_okq q := List.forall_mem_cons.mpr ⟨lw_p16, List.forall_mem_cons.mpr ⟨lw_p17, List.forall_mem_cons.mpr ⟨lw_p18, List.forall_mem_cons.mpr ⟨lw_p19, List.forall_mem_cons.mpr ⟨lw_p20, List.forall_mem_cons.mpr ⟨lw_p21, List.forall_mem_cons.mpr ⟨lw_p22, List.forall_mem_cons.mpr ⟨lw_p23, List.forall_mem_cons.mpr ⟨lw_p24, List.forall_mem_cons.mpr ⟨lw_p25, List.forall_mem_cons.mpr ⟨lw_p26, List.forall_mem_cons.mpr ⟨lw_p27, List.forall_mem_cons.mpr ⟨lw_p28, List.forall_mem_cons.mpr ⟨lw_p29, List.forall_mem_cons.mpr ⟨lw_p30, List.forall_mem_cons.mpr ⟨lw_p31, fun _ h => absurd h List.not_mem_nil⟩⟩⟩⟩⟩⟩⟩⟩⟩⟩⟩⟩⟩⟩⟩⟩
theorem lw_p32 : lw_okq (⟨"AnchoredCommentsModel", "chosen", "(II)I"⟩, 20) := ⟨⟨by decide +kernel, by decide +kernel⟩, List.mem_of_getElem? (i := 620) (by decide +kernel), List.mem_of_getElem? (i := 819) (by decide +kernel), List.mem_of_getElem? (i := 820) (by decide +kernel)⟩
theorem lw_p33 : lw_okq (⟨"AnchoredCommentsModel", "isLike", "(II)Z"⟩, 20) := ⟨⟨by decide +kernel, by decide +kernel⟩, List.mem_of_getElem? (i := 620) (by decide +kernel), List.mem_of_getElem? (i := 827) (by decide +kernel), List.mem_of_getElem? (i := 828) (by decide +kernel)⟩
theorem lw_p34 : lw_okq (⟨"AnchoredCommentsModel", "isLetter", "(I)Z"⟩, 20) := ⟨⟨by decide +kernel, by decide +kernel⟩, List.mem_of_getElem? (i := 620) (by decide +kernel), List.mem_of_getElem? (i := 843) (by decide +kernel), List.mem_of_getElem? (i := 844) (by decide +kernel)⟩
theorem lw_p35 : lw_okq (⟨"AnchoredCommentsModel", "of", "(II)I"⟩, 20) := ⟨⟨by decide +kernel, by decide +kernel⟩, List.mem_of_getElem? (i := 620) (by decide +kernel), List.mem_of_getElem? (i := 859) (by decide +kernel), List.mem_of_getElem? (i := 860) (by decide +kernel)⟩
theorem lw_p36 : lw_okq (⟨"AnchoredCommentsModel", "distanceOf", "(III)I"⟩, 20) := ⟨⟨by decide +kernel, by decide +kernel⟩, List.mem_of_getElem? (i := 620) (by decide +kernel), List.mem_of_getElem? (i := 879) (by decide +kernel), List.mem_of_getElem? (i := 880) (by decide +kernel)⟩
theorem lw_p37 : lw_okq (⟨"AnchoredCommentsModel", "covers", "(II)Z"⟩, 20) := ⟨⟨by decide +kernel, by decide +kernel⟩, List.mem_of_getElem? (i := 620) (by decide +kernel), List.mem_of_getElem? (i := 899) (by decide +kernel), List.mem_of_getElem? (i := 900) (by decide +kernel)⟩
theorem lw_p38 : lw_okq (⟨"AnchoredCommentsModel", "isBefore", "(II)Z"⟩, 20) := ⟨⟨by decide +kernel, by decide +kernel⟩, List.mem_of_getElem? (i := 620) (by decide +kernel), List.mem_of_getElem? (i := 903) (by decide +kernel), List.mem_of_getElem? (i := 904) (by decide +kernel)⟩
theorem lw_p39 : lw_okq (⟨"AnchoredCommentsModel", "moreOfPart", "(JII)J"⟩, 20) := ⟨⟨by decide +kernel, by decide +kernel⟩, List.mem_of_getElem? (i := 620) (by decide +kernel), List.mem_of_getElem? (i := 928) (by decide +kernel), List.mem_of_getElem? (i := 929) (by decide +kernel)⟩
def lw_privs_3 : List (MethodName × Nat) := [(⟨"AnchoredCommentsModel", "chosen", "(II)I"⟩, 20), (⟨"AnchoredCommentsModel", "isLike", "(II)Z"⟩, 20), (⟨"AnchoredCommentsModel", "isLetter", "(I)Z"⟩, 20), (⟨"AnchoredCommentsModel", "of", "(II)I"⟩, 20), (⟨"AnchoredCommentsModel", "distanceOf", "(III)I"⟩, 20), (⟨"AnchoredCommentsModel", "covers", "(II)Z"⟩, 20), (⟨"AnchoredCommentsModel", "isBefore", "(II)Z"⟩, 20), (⟨"AnchoredCommentsModel", "moreOfPart", "(JII)J"⟩, 20)]
theorem lw_r3 : ∀ q ∈ lw_privs_3, lw_okq q := List.forall_mem_cons.mpr ⟨lw_p32, List.forall_mem_cons.mpr ⟨lw_p33, List.forall_mem_cons.mpr ⟨lw_p34, List.forall_mem_cons.mpr ⟨lw_p35, List.forall_mem_cons.mpr ⟨lw_p36, List.forall_mem_cons.mpr ⟨lw_p37, List.forall_mem_cons.mpr ⟨lw_p38, List.forall_mem_cons.mpr ⟨lw_p39, fun _ h => absurd h List.not_mem_nil⟩⟩⟩⟩⟩⟩⟩⟩
def lw_privs : List (MethodName × Nat) := lw_privs_1 ++ (lw_privs_2 ++ (lw_privs_3))
def lw_tbl : List Cond := k2_sels lw_privs ++ tables_1
theorem lw_privs_ok : ∀ q ∈ lw_privs, lw_okq q := by
  show ∀ q ∈ lw_privs_1 ++ (lw_privs_2 ++ (lw_privs_3)), lw_okq q
  exact List.forall_mem_append.mpr ⟨lw_r1, List.forall_mem_append.mpr ⟨lw_r2, lw_r3⟩⟩
/-! ===== BEGIN words of one list among another's, by their places ===== -/
theorem goodIn_r {big : List Cond} (ws : List Cond) (ps : List Nat) (hp : ws = ps.filterMap (fun i => big[i]?)) (h : ws.all goodWord = true) : GoodIn big ws := by
  intro w hw
  have h1 := List.all_eq_true.mp h w hw
  rw [hp] at hw
  obtain ⟨i, -, hi⟩ := List.mem_filterMap.mp hw
  have hm : w ∈ big := by first | exact List.mem_of_getElem? hi | exact List.getElem?_mem hi
  exact ⟨hm, good_of_word h1⟩
theorem goodIn_app {big a b : List Cond} (ha : GoodIn big a) (hb : GoodIn big b) : GoodIn big (a ++ b) := fun w h => (List.mem_append.mp h).elim (ha w) (hb w)
theorem goodIn_ca {big a b : List Cond} {c : Cond} (ha : GoodIn big (c :: a)) (hb : GoodIn big b) : GoodIn big (c :: (a ++ b)) := fun w h => (List.mem_cons.mp h).elim (fun e => ha w (List.mem_cons.mpr (Or.inl e))) (fun h => (List.mem_append.mp h).elim (fun h => ha w (List.mem_cons.mpr (Or.inr h))) (hb w))
theorem goodIn_sub {big ws : List Cond} (hm : ∀ w ∈ ws, w ∈ big) (h : ws.all goodWord = true) : GoodIn big ws := fun w hw => ⟨hm w hw, good_of_word (List.all_eq_true.mp h w hw)⟩
/-! ===== END ===== -/

/-! ===== BEGIN printed: names, fields, word lists, decode rows ===== -/
def RX0 : String := "AnchoredComments$Choices"
def TX0 : u_T := fun k => match k with
  | 0 => ("AnchoredComments$Choices", "scores", "[I", true)
  | 1 => ("AnchoredComments$Choices", "ends", "[I", true)
  | 2 => ("AnchoredComments$Choices", "sums", "[I", true)
  | _ => ("AnchoredComments$Choices", "size", "I", false)
def tyX0 : Nat → FieldType := fun k => match k with
  | 0 => .array .int
  | 1 => .array .int
  | 2 => .array .int
  | _ => .int
abbrev wsX00 : List Cond := u_ws RX0 TX0 4
theorem nmX0 : ∀ a, a < 4 → ∀ b, b < 4 → a ≠ b → (TX0 a).2.1 ≠ (TX0 b).2.1 := by decide +kernel
theorem tyX0_ok : ∀ k, k < 4 → parseFieldDescriptor (TX0 k).2.2.1 = some (tyX0 k) := by decide +kernel
abbrev cX0_init : ByteArray := prog_2_method_1_code
def yX0_init : MethodName := ⟨RX0, "<init>", "()V"⟩
abbrev cX0_weigh : ByteArray := prog_2_method_2_code
def yX0_weigh : MethodName := ⟨RX0, "weigh", "(LAnchoredComments$Note;LAnchoredComments$Text;ILAnchoredComments$Finder;)V"⟩
abbrev cX0_beNothing : ByteArray := prog_2_method_3_code
def yX0_beNothing : MethodName := ⟨RX0, "beNothing", "()V"⟩
abbrev cX0_addUp : ByteArray := prog_2_method_4_code
def yX0_addUp : MethodName := ⟨RX0, "addUp", "(LAnchoredComments$Choices;)V"⟩
abbrev cX0_sumFrom : ByteArray := prog_2_method_5_code
def yX0_sumFrom : MethodName := ⟨RX0, "sumFrom", "(I)I"⟩
abbrev cX0_endAt : ByteArray := prog_2_method_6_code
def yX0_endAt : MethodName := ⟨RX0, "endAt", "(I)I"⟩
abbrev cX0_choose : ByteArray := prog_2_method_7_code
def yX0_choose : MethodName := ⟨RX0, "choose", "(ILAnchoredComments$Choices;)I"⟩
def RX1 : String := "AnchoredComments$Finder"
def TX1 : u_T := fun k => match k with
  | 0 => ("AnchoredComments$Finder", "row", "[I", true)
  | 1 => ("AnchoredComments$Finder", "bestScore", "I", false)
  | 2 => ("AnchoredComments$Finder", "bestStart", "I", false)
  | 3 => ("AnchoredComments$Finder", "bestEnd", "I", false)
  | _ => ("AnchoredComments$Finder", "endHere", "I", false)
def tyX1 : Nat → FieldType := fun k => match k with
  | 0 => .array .int
  | 1 => .int
  | 2 => .int
  | 3 => .int
  | _ => .int
abbrev wsX10 : List Cond := u_ws RX1 TX1 5
theorem nmX1 : ∀ a, a < 5 → ∀ b, b < 5 → a ≠ b → (TX1 a).2.1 ≠ (TX1 b).2.1 := by decide +kernel
theorem tyX1_ok : ∀ k, k < 5 → parseFieldDescriptor (TX1 k).2.2.1 = some (tyX1 k) := by decide +kernel
abbrev cX1_init : ByteArray := prog_3_method_1_code
def yX1_init : MethodName := ⟨RX1, "<init>", "()V"⟩
abbrev cX1_distanceTo : ByteArray := prog_3_method_2_code
def yX1_distanceTo : MethodName := ⟨RX1, "distanceTo", "(LAnchoredComments$Note;LAnchoredComments$Text;II)I"⟩
abbrev cX1_search : ByteArray := prog_3_method_3_code
def yX1_search : MethodName := ⟨RX1, "search", "(LAnchoredComments$Note;LAnchoredComments$Text;)V"⟩
abbrev cX1_searchAt : ByteArray := prog_3_method_4_code
def yX1_searchAt : MethodName := ⟨RX1, "searchAt", "(LAnchoredComments$Note;LAnchoredComments$Text;I)I"⟩
abbrev cX1_beginRow : ByteArray := prog_3_method_5_code
def yX1_beginRow : MethodName := ⟨RX1, "beginRow", "()V"⟩
abbrev cX1_takeLetter : ByteArray := prog_3_method_6_code
def yX1_takeLetter : MethodName := ⟨RX1, "takeLetter", "(LAnchoredComments$Text;I)V"⟩
abbrev cX1_endOfRow : ByteArray := prog_3_method_7_code
def yX1_endOfRow : MethodName := ⟨RX1, "endOfRow", "(LAnchoredComments$Text;)I"⟩
def RX2 : String := "AnchoredComments$History"
def TX2 : u_T := fun k => match k with
  | 0 => ("AnchoredComments$History", "pages", "[LAnchoredComments$Page;", true)
  | _ => ("AnchoredComments$History", "count", "I", false)
def tyX2 : Nat → FieldType := fun k => match k with
  | 0 => .array (.object "AnchoredComments$Page")
  | _ => .int
abbrev wsX20 : List Cond := u_ws RX2 TX2 2
theorem nmX2 : ∀ a, a < 2 → ∀ b, b < 2 → a ≠ b → (TX2 a).2.1 ≠ (TX2 b).2.1 := by decide +kernel
theorem tyX2_ok : ∀ k, k < 2 → parseFieldDescriptor (TX2 k).2.2.1 = some (tyX2 k) := by decide +kernel
abbrev cX2_init : ByteArray := prog_4_method_1_code
def yX2_init : MethodName := ⟨RX2, "<init>", "()V"⟩
abbrev cX2_record : ByteArray := prog_4_method_2_code
def yX2_record : MethodName := ⟨RX2, "record", "(LAnchoredComments$Page;)V"⟩
abbrev cX2_dropOldest : ByteArray := prog_4_method_3_code
def yX2_dropOldest : MethodName := ⟨RX2, "dropOldest", "()V"⟩
abbrev cX2_stepBack : ByteArray := prog_4_method_4_code
def yX2_stepBack : MethodName := ⟨RX2, "stepBack", "(LAnchoredComments$Page;)V"⟩
def RX3 : String := "AnchoredComments$Note"
def TX3 : u_T := fun k => match k with
  | 0 => ("AnchoredComments$Note", "prefix", "LAnchoredComments$Text;", true)
  | 1 => ("AnchoredComments$Note", "quote", "LAnchoredComments$Text;", true)
  | 2 => ("AnchoredComments$Note", "suffix", "LAnchoredComments$Text;", true)
  | 3 => ("AnchoredComments$Note", "number", "I", false)
  | 4 => ("AnchoredComments$Note", "kind", "I", false)
  | 5 => ("AnchoredComments$Note", "start", "I", false)
  | 6 => ("AnchoredComments$Note", "end", "I", false)
  | _ => ("AnchoredComments$Note", "weight", "I", false)
def tyX3 : Nat → FieldType := fun k => match k with
  | 0 => .object "AnchoredComments$Text"
  | 1 => .object "AnchoredComments$Text"
  | 2 => .object "AnchoredComments$Text"
  | 3 => .int
  | 4 => .int
  | 5 => .int
  | 6 => .int
  | _ => .int
abbrev wsX30 : List Cond := u_ws RX3 TX3 8
theorem nmX3 : ∀ a, a < 8 → ∀ b, b < 8 → a ≠ b → (TX3 a).2.1 ≠ (TX3 b).2.1 := by decide +kernel
theorem tyX3_ok : ∀ k, k < 8 → parseFieldDescriptor (TX3 k).2.2.1 = some (tyX3 k) := by decide +kernel
abbrev cX3_init : ByteArray := prog_5_method_1_code
def yX3_init : MethodName := ⟨RX3, "<init>", "()V"⟩
abbrev cX3_become : ByteArray := prog_5_method_2_code
def yX3_become : MethodName := ⟨RX3, "become", "(LAnchoredComments$Note;)V"⟩
abbrev cX3_begin : ByteArray := prog_5_method_3_code
def yX3_begin : MethodName := ⟨RX3, "begin", "(IIILAnchoredComments$Text;)V"⟩
abbrev cX3_attachTo : ByteArray := prog_5_method_4_code
def yX3_attachTo : MethodName := ⟨RX3, "attachTo", "(II)V"⟩
abbrev cX3_quoteFrom : ByteArray := prog_5_method_5_code
def yX3_quoteFrom : MethodName := ⟨RX3, "quoteFrom", "(LAnchoredComments$Text;)V"⟩
abbrev cX3_moveForInsert : ByteArray := prog_5_method_6_code
def yX3_moveForInsert : MethodName := ⟨RX3, "moveForInsert", "(II)V"⟩
abbrev cX3_moveForDelete : ByteArray := prog_5_method_7_code
def yX3_moveForDelete : MethodName := ⟨RX3, "moveForDelete", "(II)Z"⟩
abbrev cX3_boundAfterDelete : ByteArray := prog_5_method_8_code
def yX3_boundAfterDelete : MethodName := ⟨RX3, "boundAfterDelete", "(III)I"⟩
abbrev cX3_moveForReplacement : ByteArray := prog_5_method_9_code
def yX3_moveForReplacement : MethodName := ⟨RX3, "moveForReplacement", "(I)V"⟩
abbrev cX3_isTwinOf : ByteArray := prog_5_method_10_code
def yX3_isTwinOf : MethodName := ⟨RX3, "isTwinOf", "(LAnchoredComments$Note;)Z"⟩
abbrev cX3_covers : ByteArray := prog_5_method_11_code
def yX3_covers : MethodName := ⟨RX3, "covers", "(I)Z"⟩
abbrev cX3_standsBefore : ByteArray := prog_5_method_12_code
def yX3_standsBefore : MethodName := ⟨RX3, "standsBefore", "(LAnchoredComments$Note;)Z"⟩
abbrev cX3_scoreOf : ByteArray := prog_5_method_13_code
def yX3_scoreOf : MethodName := ⟨RX3, "scoreOf", "(ILAnchoredComments$Text;II)I"⟩
abbrev cX3_likeBefore : ByteArray := prog_5_method_14_code
def yX3_likeBefore : MethodName := ⟨RX3, "likeBefore", "(LAnchoredComments$Text;I)I"⟩
abbrev cX3_likeBehind : ByteArray := prog_5_method_15_code
def yX3_likeBehind : MethodName := ⟨RX3, "likeBehind", "(LAnchoredComments$Text;I)I"⟩
def RX4 : String := "AnchoredComments$Page"
def TX4 : u_T := fun k => match k with
  | 0 => ("AnchoredComments$Page", "document", "LAnchoredComments$Text;", true)
  | 1 => ("AnchoredComments$Page", "notes", "[LAnchoredComments$Note;", true)
  | 2 => ("AnchoredComments$Page", "count", "I", false)
  | _ => ("AnchoredComments$Page", "next", "I", false)
def tyX4 : Nat → FieldType := fun k => match k with
  | 0 => .object "AnchoredComments$Text"
  | 1 => .array (.object "AnchoredComments$Note")
  | 2 => .int
  | _ => .int
abbrev wsX40 : List Cond := u_ws RX4 TX4 4
theorem nmX4 : ∀ a, a < 4 → ∀ b, b < 4 → a ≠ b → (TX4 a).2.1 ≠ (TX4 b).2.1 := by decide +kernel
theorem tyX4_ok : ∀ k, k < 4 → parseFieldDescriptor (TX4 k).2.2.1 = some (tyX4 k) := by decide +kernel
abbrev cX4_init : ByteArray := prog_6_method_1_code
def yX4_init : MethodName := ⟨RX4, "<init>", "()V"⟩
abbrev cX4_become : ByteArray := prog_6_method_2_code
def yX4_become : MethodName := ⟨RX4, "become", "(LAnchoredComments$Page;)V"⟩
abbrev cX4_indexOf : ByteArray := prog_6_method_3_code
def yX4_indexOf : MethodName := ⟨RX4, "indexOf", "(I)I"⟩
abbrev cX4_find : ByteArray := prog_6_method_4_code
def yX4_find : MethodName := ⟨RX4, "find", "(I)LAnchoredComments$Note;"⟩
abbrev cX4_addNote : ByteArray := prog_6_method_5_code
def yX4_addNote : MethodName := ⟨RX4, "addNote", "(II)I"⟩
abbrev cX4_drop : ByteArray := prog_6_method_6_code
def yX4_drop : MethodName := ⟨RX4, "drop", "(I)V"⟩
abbrev cX4_replaceDocument : ByteArray := prog_6_method_7_code
def yX4_replaceDocument : MethodName := ⟨RX4, "replaceDocument", "(LAnchoredComments$Text;)V"⟩
abbrev cX4_putIn : ByteArray := prog_6_method_8_code
def yX4_putIn : MethodName := ⟨RX4, "putIn", "(ILAnchoredComments$Text;)V"⟩
abbrev cX4_cutOut : ByteArray := prog_6_method_9_code
def yX4_cutOut : MethodName := ⟨RX4, "cutOut", "(II)I"⟩
abbrev cX4_hasTwins : ByteArray := prog_6_method_10_code
def yX4_hasTwins : MethodName := ⟨RX4, "hasTwins", "()Z"⟩
abbrev cX4_mergeTwins : ByteArray := prog_6_method_11_code
def yX4_mergeTwins : MethodName := ⟨RX4, "mergeTwins", "()I"⟩
abbrev cX4_firstTwin : ByteArray := prog_6_method_12_code
def yX4_firstTwin : MethodName := ⟨RX4, "firstTwin", "(I)I"⟩
abbrev cX4_numberCovering : ByteArray := prog_6_method_13_code
def yX4_numberCovering : MethodName := ⟨RX4, "numberCovering", "(II)I"⟩
abbrev cX4_rankOf : ByteArray := prog_6_method_14_code
def yX4_rankOf : MethodName := ⟨RX4, "rankOf", "(LAnchoredComments$Note;I)I"⟩
def RX5 : String := "AnchoredComments$Planner"
def TX5 : u_T := fun k => match k with
  | 0 => ("AnchoredComments$Planner", "orphans", "[LAnchoredComments$Note;", true)
  | 1 => ("AnchoredComments$Planner", "choices", "[LAnchoredComments$Choices;", true)
  | _ => ("AnchoredComments$Planner", "count", "I", false)
def tyX5 : Nat → FieldType := fun k => match k with
  | 0 => .array (.object "AnchoredComments$Note")
  | 1 => .array (.object "AnchoredComments$Choices")
  | _ => .int
abbrev wsX50 : List Cond := u_ws RX5 TX5 3
theorem nmX5 : ∀ a, a < 3 → ∀ b, b < 3 → a ≠ b → (TX5 a).2.1 ≠ (TX5 b).2.1 := by decide +kernel
theorem tyX5_ok : ∀ k, k < 3 → parseFieldDescriptor (TX5 k).2.2.1 = some (tyX5 k) := by decide +kernel
abbrev cX5_init : ByteArray := prog_7_method_1_code
def yX5_init : MethodName := ⟨RX5, "<init>", "()V"⟩
abbrev cX5_gather : ByteArray := prog_7_method_2_code
def yX5_gather : MethodName := ⟨RX5, "gather", "(LAnchoredComments$Page;)I"⟩
abbrev cX5_takeIn : ByteArray := prog_7_method_3_code
def yX5_takeIn : MethodName := ⟨RX5, "takeIn", "(LAnchoredComments$Note;)V"⟩
abbrev cX5_plan : ByteArray := prog_7_method_4_code
def yX5_plan : MethodName := ⟨RX5, "plan", "(LAnchoredComments$Text;ILAnchoredComments$Finder;)V"⟩
abbrev cX5_carryOut : ByteArray := prog_7_method_5_code
def yX5_carryOut : MethodName := ⟨RX5, "carryOut", "()I"⟩
def RX6 : String := "AnchoredComments$Slot"
def TX6 : u_T := fun k => match k with
  | 0 => ("AnchoredComments$Slot", "page", "LAnchoredComments$Page;", true)
  | 1 => ("AnchoredComments$Slot", "threshold", "I", false)
  | _ => ("AnchoredComments$Slot", "used", "Z", false)
def tyX6 : Nat → FieldType := fun k => match k with
  | 0 => .object "AnchoredComments$Page"
  | 1 => .int
  | _ => .boolean
abbrev wsX60 : List Cond := u_ws RX6 TX6 3
theorem nmX6 : ∀ a, a < 3 → ∀ b, b < 3 → a ≠ b → (TX6 a).2.1 ≠ (TX6 b).2.1 := by decide +kernel
theorem tyX6_ok : ∀ k, k < 3 → parseFieldDescriptor (TX6 k).2.2.1 = some (tyX6 k) := by decide +kernel
abbrev cX6_init : ByteArray := prog_8_method_1_code
def yX6_init : MethodName := ⟨RX6, "<init>", "()V"⟩
def RX7 : String := "AnchoredComments$Text"
def TX7 : u_T := fun k => match k with
  | 0 => ("AnchoredComments$Text", "letters", "[I", true)
  | _ => ("AnchoredComments$Text", "size", "I", false)
def tyX7 : Nat → FieldType := fun k => match k with
  | 0 => .array .int
  | _ => .int
abbrev wsX70 : List Cond := u_ws RX7 TX7 2
theorem nmX7 : ∀ a, a < 2 → ∀ b, b < 2 → a ≠ b → (TX7 a).2.1 ≠ (TX7 b).2.1 := by decide +kernel
theorem tyX7_ok : ∀ k, k < 2 → parseFieldDescriptor (TX7 k).2.2.1 = some (tyX7 k) := by decide +kernel
abbrev cX7_init : ByteArray := prog_9_method_1_code
def yX7_init : MethodName := ⟨RX7, "<init>", "(I)V"⟩
abbrev cX7_at : ByteArray := prog_9_method_2_code
def yX7_at : MethodName := ⟨RX7, "at", "(I)I"⟩
abbrev cX7_empty : ByteArray := prog_9_method_3_code
def yX7_empty : MethodName := ⟨RX7, "empty", "()V"⟩
abbrev cX7_append : ByteArray := prog_9_method_4_code
def yX7_append : MethodName := ⟨RX7, "append", "(I)V"⟩
abbrev cX7_become : ByteArray := prog_9_method_5_code
def yX7_become : MethodName := ⟨RX7, "become", "(LAnchoredComments$Text;)V"⟩
abbrev cX7_copyPart : ByteArray := prog_9_method_6_code
def yX7_copyPart : MethodName := ⟨RX7, "copyPart", "(LAnchoredComments$Text;II)V"⟩
abbrev cX7_putLetters : ByteArray := prog_9_method_7_code
def yX7_putLetters : MethodName := ⟨RX7, "putLetters", "(ILAnchoredComments$Text;)V"⟩
abbrev cX7_cutLetters : ByteArray := prog_9_method_8_code
def yX7_cutLetters : MethodName := ⟨RX7, "cutLetters", "(II)V"⟩
def RX8 : String := "AnchoredComments"
def TX8 : u_T := fun k => match k with
  | 0 => ("AnchoredComments", "buffer", "LAnchoredComments$Text;", true)
  | 1 => ("AnchoredComments", "page", "LAnchoredComments$Page;", true)
  | 2 => ("AnchoredComments", "history", "LAnchoredComments$History;", true)
  | 3 => ("AnchoredComments", "slot0", "LAnchoredComments$Slot;", true)
  | 4 => ("AnchoredComments", "slot1", "LAnchoredComments$Slot;", true)
  | 5 => ("AnchoredComments", "finder", "LAnchoredComments$Finder;", true)
  | 6 => ("AnchoredComments", "planner", "LAnchoredComments$Planner;", true)
  | _ => ("AnchoredComments", "threshold", "I", false)
def tyX8 : Nat → FieldType := fun k => match k with
  | 0 => .object "AnchoredComments$Text"
  | 1 => .object "AnchoredComments$Page"
  | 2 => .object "AnchoredComments$History"
  | 3 => .object "AnchoredComments$Slot"
  | 4 => .object "AnchoredComments$Slot"
  | 5 => .object "AnchoredComments$Finder"
  | 6 => .object "AnchoredComments$Planner"
  | _ => .int
abbrev wsX80 : List Cond := u_ws RX8 TX8 8
theorem nmX8 : ∀ a, a < 8 → ∀ b, b < 8 → a ≠ b → (TX8 a).2.1 ≠ (TX8 b).2.1 := by decide +kernel
theorem tyX8_ok : ∀ k, k < 8 → parseFieldDescriptor (TX8 k).2.2.1 = some (tyX8 k) := by decide +kernel
abbrev cX8_init : ByteArray := prog_1_method_1_code
def yX8_init : MethodName := ⟨RX8, "<init>", "()V"⟩
abbrev cX8_type : ByteArray := prog_1_method_2_code
def yX8_type : MethodName := ⟨RX8, "type", "(I)I"⟩
abbrev cX8_clearBuffer : ByteArray := prog_1_method_3_code
def yX8_clearBuffer : MethodName := ⟨RX8, "clearBuffer", "()I"⟩
abbrev cX8_load : ByteArray := prog_1_method_4_code
def yX8_load : MethodName := ⟨RX8, "load", "()I"⟩
abbrev cX8_insert : ByteArray := prog_1_method_5_code
def yX8_insert : MethodName := ⟨RX8, "insert", "(I)I"⟩
abbrev cX8_delete : ByteArray := prog_1_method_6_code
def yX8_delete : MethodName := ⟨RX8, "delete", "(II)I"⟩
abbrev cX8_comment : ByteArray := prog_1_method_7_code
def yX8_comment : MethodName := ⟨RX8, "comment", "(II)I"⟩
abbrev cX8_remove : ByteArray := prog_1_method_8_code
def yX8_remove : MethodName := ⟨RX8, "remove", "(I)I"⟩
abbrev cX8_quoteAnew : ByteArray := prog_1_method_9_code
def yX8_quoteAnew : MethodName := ⟨RX8, "quoteAnew", "(I)I"⟩
abbrev cX8_attach : ByteArray := prog_1_method_10_code
def yX8_attach : MethodName := ⟨RX8, "attach", "(I)I"⟩
abbrev cX8_attachAll : ByteArray := prog_1_method_11_code
def yX8_attachAll : MethodName := ⟨RX8, "attachAll", "()I"⟩
abbrev cX8_merge : ByteArray := prog_1_method_12_code
def yX8_merge : MethodName := ⟨RX8, "merge", "()I"⟩
abbrev cX8_undo : ByteArray := prog_1_method_13_code
def yX8_undo : MethodName := ⟨RX8, "undo", "()I"⟩
abbrev cX8_length : ByteArray := prog_1_method_14_code
def yX8_length : MethodName := ⟨RX8, "length", "()I"⟩
abbrev cX8_letter : ByteArray := prog_1_method_15_code
def yX8_letter : MethodName := ⟨RX8, "letter", "(I)I"⟩
abbrev cX8_comments : ByteArray := prog_1_method_16_code
def yX8_comments : MethodName := ⟨RX8, "comments", "()I"⟩
abbrev cX8_commentAt : ByteArray := prog_1_method_17_code
def yX8_commentAt : MethodName := ⟨RX8, "commentAt", "(I)I"⟩
abbrev cX8_state : ByteArray := prog_1_method_18_code
def yX8_state : MethodName := ⟨RX8, "state", "(I)I"⟩
abbrev cX8_range : ByteArray := prog_1_method_19_code
def yX8_range : MethodName := ⟨RX8, "range", "(IZ)I"⟩
abbrev cX8_weight : ByteArray := prog_1_method_20_code
def yX8_weight : MethodName := ⟨RX8, "weight", "(I)I"⟩
abbrev cX8_quoted : ByteArray := prog_1_method_21_code
def yX8_quoted : MethodName := ⟨RX8, "quoted", "(III)I"⟩
abbrev cX8_distance : ByteArray := prog_1_method_22_code
def yX8_distance : MethodName := ⟨RX8, "distance", "(I)I"⟩
abbrev cX8_score : ByteArray := prog_1_method_23_code
def yX8_score : MethodName := ⟨RX8, "score", "(III)I"⟩
abbrev cX8_best : ByteArray := prog_1_method_24_code
def yX8_best : MethodName := ⟨RX8, "best", "(II)I"⟩
abbrev cX8_overlap : ByteArray := prog_1_method_25_code
def yX8_overlap : MethodName := ⟨RX8, "overlap", "(II)I"⟩
abbrev cX8_covering : ByteArray := prog_1_method_26_code
def yX8_covering : MethodName := ⟨RX8, "covering", "(II)I"⟩
abbrev cX8_setThreshold : ByteArray := prog_1_method_27_code
def yX8_setThreshold : MethodName := ⟨RX8, "setThreshold", "(I)I"⟩
abbrev cX8_save : ByteArray := prog_1_method_28_code
def yX8_save : MethodName := ⟨RX8, "save", "(I)I"⟩
abbrev cX8_restore : ByteArray := prog_1_method_29_code
def yX8_restore : MethodName := ⟨RX8, "restore", "(I)I"⟩
abbrev cX8_checksum : ByteArray := prog_1_method_30_code
def yX8_checksum : MethodName := ⟨RX8, "checksum", "()J"⟩
abbrev cX8_mixNote : ByteArray := prog_1_method_31_code
def yX8_mixNote : MethodName := ⟨RX8, "mixNote", "(JLAnchoredComments$Note;)J"⟩
abbrev cX8_mixText : ByteArray := prog_1_method_32_code
def yX8_mixText : MethodName := ⟨RX8, "mixText", "(JLAnchoredComments$Text;)J"⟩
abbrev cX8_mix : ByteArray := prog_1_method_33_code
def yX8_mix : MethodName := ⟨RX8, "mix", "(JI)J"⟩
abbrev cX8_isPosition : ByteArray := prog_1_method_34_code
def yX8_isPosition : MethodName := ⟨RX8, "isPosition", "(I)Z"⟩
abbrev cX8_isLetterIndex : ByteArray := prog_1_method_35_code
def yX8_isLetterIndex : MethodName := ⟨RX8, "isLetterIndex", "(I)Z"⟩
abbrev cX8_isRange : ByteArray := prog_1_method_36_code
def yX8_isRange : MethodName := ⟨RX8, "isRange", "(III)Z"⟩
def RX9 : String := "AnchoredCommentsModel"
def TX9 : u_T := fun k => match k with
  | 0 => ("AnchoredCommentsModel", "v", "[I", true)
  | 1 => ("AnchoredCommentsModel", "spare", "[I", true)
  | 2 => ("AnchoredCommentsModel", "past", "[I", true)
  | 3 => ("AnchoredCommentsModel", "pasts", "I", false)
  | 4 => ("AnchoredCommentsModel", "kept", "[I", true)
  | 5 => ("AnchoredCommentsModel", "isKept", "[Z", true)
  | 6 => ("AnchoredCommentsModel", "threshold", "I", false)
  | 7 => ("AnchoredCommentsModel", "buffer", "[I", true)
  | 8 => ("AnchoredCommentsModel", "buffered", "I", false)
  | 9 => ("AnchoredCommentsModel", "line", "[I", true)
  | 10 => ("AnchoredCommentsModel", "top", "I", false)
  | 11 => ("AnchoredCommentsModel", "topLength", "I", false)
  | 12 => ("AnchoredCommentsModel", "bestScore", "I", false)
  | 13 => ("AnchoredCommentsModel", "bestStart", "I", false)
  | 14 => ("AnchoredCommentsModel", "bestLength", "I", false)
  | 15 => ("AnchoredCommentsModel", "order", "[I", true)
  | 16 => ("AnchoredCommentsModel", "orphans", "I", false)
  | 17 => ("AnchoredCommentsModel", "scores", "[I", true)
  | 18 => ("AnchoredCommentsModel", "lengths", "[I", true)
  | _ => ("AnchoredCommentsModel", "sums", "[I", true)
def tyX9 : Nat → FieldType := fun k => match k with
  | 0 => .array .int
  | 1 => .array .int
  | 2 => .array .int
  | 3 => .int
  | 4 => .array .int
  | 5 => .array .boolean
  | 6 => .int
  | 7 => .array .int
  | 8 => .int
  | 9 => .array .int
  | 10 => .int
  | 11 => .int
  | 12 => .int
  | 13 => .int
  | 14 => .int
  | 15 => .array .int
  | 16 => .int
  | 17 => .array .int
  | 18 => .array .int
  | _ => .array .int
abbrev wsX90 : List Cond := u_ws RX9 TX9 20
theorem nmX9 : ∀ a, a < 20 → ∀ b, b < 20 → a ≠ b → (TX9 a).2.1 ≠ (TX9 b).2.1 := by decide +kernel
theorem tyX9_ok : ∀ k, k < 20 → parseFieldDescriptor (TX9 k).2.2.1 = some (tyX9 k) := by decide +kernel
abbrev cX9_init : ByteArray := prog_11_method_1_code
def yX9_init : MethodName := ⟨RX9, "<init>", "()V"⟩
abbrev cX9_in : ByteArray := prog_11_method_3_code
def yX9_in : MethodName := ⟨RX9, "in", "(III)Z"⟩
abbrev cX9_least : ByteArray := prog_11_method_4_code
def yX9_least : MethodName := ⟨RX9, "least", "(II)I"⟩
abbrev cX9_at : ByteArray := prog_11_method_5_code
def yX9_at : MethodName := ⟨RX9, "at", "(II)I"⟩
abbrev cX9_find : ByteArray := prog_11_method_6_code
def yX9_find : MethodName := ⟨RX9, "find", "(I)I"⟩
abbrev cX9_isPosition : ByteArray := prog_11_method_7_code
def yX9_isPosition : MethodName := ⟨RX9, "isPosition", "(I)Z"⟩
abbrev cX9_copies : ByteArray := prog_11_method_8_code
def yX9_copies : MethodName := ⟨RX9, "copies", "([II[II)V"⟩
abbrev cX9_begins : ByteArray := prog_11_method_9_code
def yX9_begins : MethodName := ⟨RX9, "begins", "()V"⟩
abbrev cX9_made : ByteArray := prog_11_method_10_code
def yX9_made : MethodName := ⟨RX9, "made", "(I)I"⟩
abbrev cX9_type : ByteArray := prog_11_method_11_code
def yX9_type : MethodName := ⟨RX9, "type", "(I)I"⟩
abbrev cX9_clearBuffer : ByteArray := prog_11_method_12_code
def yX9_clearBuffer : MethodName := ⟨RX9, "clearBuffer", "()I"⟩
abbrev cX9_load : ByteArray := prog_11_method_13_code
def yX9_load : MethodName := ⟨RX9, "load", "()I"⟩
abbrev cX9_insert : ByteArray := prog_11_method_14_code
def yX9_insert : MethodName := ⟨RX9, "insert", "(I)I"⟩
abbrev cX9_without : ByteArray := prog_11_method_15_code
def yX9_without : MethodName := ⟨RX9, "without", "(III)I"⟩
abbrev cX9_delete : ByteArray := prog_11_method_16_code
def yX9_delete : MethodName := ⟨RX9, "delete", "(II)I"⟩
abbrev cX9_quotesPart : ByteArray := prog_11_method_17_code
def yX9_quotesPart : MethodName := ⟨RX9, "quotesPart", "(IIII)V"⟩
abbrev cX9_quotes : ByteArray := prog_11_method_18_code
def yX9_quotes : MethodName := ⟨RX9, "quotes", "(I)V"⟩
abbrev cX9_comment : ByteArray := prog_11_method_19_code
def yX9_comment : MethodName := ⟨RX9, "comment", "(II)I"⟩
abbrev cX9_removes : ByteArray := prog_11_method_20_code
def yX9_removes : MethodName := ⟨RX9, "removes", "(I)V"⟩
abbrev cX9_remove : ByteArray := prog_11_method_21_code
def yX9_remove : MethodName := ⟨RX9, "remove", "(I)I"⟩
abbrev cX9_quoteAnew : ByteArray := prog_11_method_22_code
def yX9_quoteAnew : MethodName := ⟨RX9, "quoteAnew", "(I)I"⟩
abbrev cX9_startsLine : ByteArray := prog_11_method_23_code
def yX9_startsLine : MethodName := ⟨RX9, "startsLine", "(I)V"⟩
abbrev cX9_goesOn : ByteArray := prog_11_method_24_code
def yX9_goesOn : MethodName := ⟨RX9, "goesOn", "(II)V"⟩
abbrev cX9_distanceOf : ByteArray := prog_11_method_25_code
def yX9_distanceOf : MethodName := ⟨RX9, "distanceOf", "(III)I"⟩
abbrev cX9_before : ByteArray := prog_11_method_26_code
def yX9_before : MethodName := ⟨RX9, "before", "(II)I"⟩
abbrev cX9_behind : ByteArray := prog_11_method_27_code
def yX9_behind : MethodName := ⟨RX9, "behind", "(II)I"⟩
abbrev cX9_scored : ByteArray := prog_11_method_28_code
def yX9_scored : MethodName := ⟨RX9, "scored", "(IIII)I"⟩
abbrev cX9_bestAt : ByteArray := prog_11_method_29_code
def yX9_bestAt : MethodName := ⟨RX9, "bestAt", "(II)Z"⟩
abbrev cX9_findBest : ByteArray := prog_11_method_30_code
def yX9_findBest : MethodName := ⟨RX9, "findBest", "(I)Z"⟩
abbrev cX9_attaches : ByteArray := prog_11_method_31_code
def yX9_attaches : MethodName := ⟨RX9, "attaches", "(III)V"⟩
abbrev cX9_attach : ByteArray := prog_11_method_32_code
def yX9_attach : MethodName := ⟨RX9, "attach", "(I)I"⟩
abbrev cX9_findOrder : ByteArray := prog_11_method_33_code
def yX9_findOrder : MethodName := ⟨RX9, "findOrder", "()V"⟩
abbrev cX9_findScores : ByteArray := prog_11_method_34_code
def yX9_findScores : MethodName := ⟨RX9, "findScores", "()V"⟩
abbrev cX9_worth : ByteArray := prog_11_method_35_code
def yX9_worth : MethodName := ⟨RX9, "worth", "(II)I"⟩
abbrev cX9_findSums : ByteArray := prog_11_method_36_code
def yX9_findSums : MethodName := ⟨RX9, "findSums", "()V"⟩
abbrev cX9_chosen : ByteArray := prog_11_method_37_code
def yX9_chosen : MethodName := ⟨RX9, "chosen", "(II)I"⟩
abbrev cX9_attachAll : ByteArray := prog_11_method_38_code
def yX9_attachAll : MethodName := ⟨RX9, "attachAll", "()I"⟩
abbrev cX9_isLike : ByteArray := prog_11_method_39_code
def yX9_isLike : MethodName := ⟨RX9, "isLike", "(II)Z"⟩
abbrev cX9_merge : ByteArray := prog_11_method_40_code
def yX9_merge : MethodName := ⟨RX9, "merge", "()I"⟩
abbrev cX9_undo : ByteArray := prog_11_method_41_code
def yX9_undo : MethodName := ⟨RX9, "undo", "()I"⟩
abbrev cX9_length : ByteArray := prog_11_method_42_code
def yX9_length : MethodName := ⟨RX9, "length", "()I"⟩
abbrev cX9_isLetter : ByteArray := prog_11_method_43_code
def yX9_isLetter : MethodName := ⟨RX9, "isLetter", "(I)Z"⟩
abbrev cX9_letter : ByteArray := prog_11_method_44_code
def yX9_letter : MethodName := ⟨RX9, "letter", "(I)I"⟩
abbrev cX9_comments : ByteArray := prog_11_method_45_code
def yX9_comments : MethodName := ⟨RX9, "comments", "()I"⟩
abbrev cX9_commentAt : ByteArray := prog_11_method_46_code
def yX9_commentAt : MethodName := ⟨RX9, "commentAt", "(I)I"⟩
abbrev cX9_of : ByteArray := prog_11_method_47_code
def yX9_of : MethodName := ⟨RX9, "of", "(II)I"⟩
abbrev cX9_state : ByteArray := prog_11_method_48_code
def yX9_state : MethodName := ⟨RX9, "state", "(I)I"⟩
abbrev cX9_range : ByteArray := prog_11_method_49_code
def yX9_range : MethodName := ⟨RX9, "range", "(IZ)I"⟩
abbrev cX9_weight : ByteArray := prog_11_method_50_code
def yX9_weight : MethodName := ⟨RX9, "weight", "(I)I"⟩
abbrev cX9_quoted : ByteArray := prog_11_method_51_code
def yX9_quoted : MethodName := ⟨RX9, "quoted", "(III)I"⟩
abbrev cX9_distance : ByteArray := prog_11_method_52_code
def yX9_distance : MethodName := ⟨RX9, "distance", "(I)I"⟩
abbrev cX9_score : ByteArray := prog_11_method_53_code
def yX9_score : MethodName := ⟨RX9, "score", "(III)I"⟩
abbrev cX9_best : ByteArray := prog_11_method_54_code
def yX9_best : MethodName := ⟨RX9, "best", "(II)I"⟩
abbrev cX9_overlap : ByteArray := prog_11_method_55_code
def yX9_overlap : MethodName := ⟨RX9, "overlap", "(II)I"⟩
abbrev cX9_isBefore : ByteArray := prog_11_method_56_code
def yX9_isBefore : MethodName := ⟨RX9, "isBefore", "(II)Z"⟩
abbrev cX9_covers : ByteArray := prog_11_method_57_code
def yX9_covers : MethodName := ⟨RX9, "covers", "(II)Z"⟩
abbrev cX9_covering : ByteArray := prog_11_method_58_code
def yX9_covering : MethodName := ⟨RX9, "covering", "(II)I"⟩
abbrev cX9_setThreshold : ByteArray := prog_11_method_59_code
def yX9_setThreshold : MethodName := ⟨RX9, "setThreshold", "(I)I"⟩
abbrev cX9_save : ByteArray := prog_11_method_60_code
def yX9_save : MethodName := ⟨RX9, "save", "(I)I"⟩
abbrev cX9_restore : ByteArray := prog_11_method_61_code
def yX9_restore : MethodName := ⟨RX9, "restore", "(I)I"⟩
abbrev cX9_more : ByteArray := prog_11_method_62_code
def yX9_more : MethodName := ⟨RX9, "more", "(JI)J"⟩
abbrev cX9_moreOfPart : ByteArray := prog_11_method_63_code
def yX9_moreOfPart : MethodName := ⟨RX9, "moreOfPart", "(JII)J"⟩
abbrev cX9_checksum : ByteArray := prog_11_method_64_code
def yX9_checksum : MethodName := ⟨RX9, "checksum", "()J"⟩
def RJ9 : String := "java/lang/Math"
def TJ9 : u_T := fun k => match k with
  | _ => ("", "", "", false)
def tyJ9 : Nat → FieldType := fun k => match k with
  | _ => .int
theorem nmJ9 : ∀ a, a < 0 → ∀ b, b < 0 → a ≠ b → (TJ9 a).2.1 ≠ (TJ9 b).2.1 := by decide +kernel
theorem tyJ9_ok : ∀ k, k < 0 → parseFieldDescriptor (TJ9 k).2.2.1 = some (tyJ9 k) := by decide +kernel
abbrev cJ9_abs_0f7a4 : ByteArray := prog_12_method_59_code
def yJ9_abs_0f7a4 : MethodName := ⟨RJ9, "abs", "(I)I"⟩
abbrev cJ9_max_7cf53 : ByteArray := prog_12_method_65_code
def yJ9_max_7cf53 : MethodName := ⟨RJ9, "max", "(II)I"⟩
abbrev cJ9_min_7cf53 : ByteArray := prog_12_method_69_code
def yJ9_min_7cf53 : MethodName := ⟨RJ9, "min", "(II)I"⟩
def RL : String := "AnchoredCommentsLaw"
abbrev cL_law : ByteArray := code
def yL_law : MethodName := ⟨RL, "law", "([I)Z"⟩
abbrev vwCl : List vw_C := [(RX0, TX0, 4), (RX1, TX1, 5), (RX2, TX2, 2), (RX3, TX3, 8), (RX4, TX4, 4), (RX5, TX5, 3), (RX6, TX6, 3), (RX7, TX7, 2), (RX8, TX8, 8), (RX9, TX9, 20)]
end
section
/-! worlds as functions of the address; the judgement Wp; its rules -/
def iI (z : Int) : Int32 := Int32.ofInt z
def bI (b : Bool) : Int32 := if b then 1 else 0
/-! small numbers as machine ints -/
theorem iI_nat (k : Nat) : iI (k : Int) = nI k := by
  first | rfl | (simp [iI, nI]; done) | (unfold iI nI; exact Int32.ofInt_eq_ofNat)
theorem iI_toInt {a : Int} (h : -2147483648 ≤ a ∧ a < 2147483648) : (iI a).toInt = a := Int32.toInt_ofInt_of_le (by have := h.1; omega) (by have := h.2; omega)
theorem iI_of (x : Int32) : iI x.toInt = x := by simp [iI]
theorem iI_bd (x : Int32) : -2147483648 ≤ x.toInt ∧ x.toInt < 2147483648 := ⟨Int32.le_toInt x, Int32.toInt_lt x⟩
theorem iI_add (a b : Int) : iI a + iI b = iI (a + b) := (Int32.ofInt_add a b).symm
theorem iI_sub (a b : Int) : iI a - iI b = iI (a - b) := (Int32.ofInt_sub a b).symm
theorem iI_mul (a b : Int) : iI a * iI b = iI (a * b) := (Int32.ofInt_mul a b).symm
theorem iI_neg (a : Int) : -iI a = iI (-a) := (Int32.ofInt_neg a).symm
theorem iI_inj {a b : Int} (ha : -2147483648 ≤ a ∧ a < 2147483648) (hb : -2147483648 ≤ b ∧ b < 2147483648) (h : iI a = iI b) : a = b := by
  have := congrArg Int32.toInt h
  rwa [iI_toInt ha, iI_toInt hb] at this
theorem iI_cmp_lt {a b : Int} (ha : -2147483648 ≤ a ∧ a < 2147483648) (hb : -2147483648 ≤ b ∧ b < 2147483648) : iI a < iI b ↔ a < b := by
  rw [Int32.lt_iff_toInt_lt, iI_toInt ha, iI_toInt hb]
theorem iI_cmp_le {a b : Int} (ha : -2147483648 ≤ a ∧ a < 2147483648) (hb : -2147483648 ≤ b ∧ b < 2147483648) : iI a ≤ iI b ↔ a ≤ b := by
  rw [Int32.le_iff_toInt_le, iI_toInt ha, iI_toInt hb]
theorem iI_eq_t {a b : Int} (ha : -2147483648 ≤ a ∧ a < 2147483648) (hb : -2147483648 ≤ b ∧ b < 2147483648) (h : iI a = iI b) : a = b := iI_inj ha hb h
theorem iI_eq_f {a b : Int} (ha : -2147483648 ≤ a ∧ a < 2147483648) (hb : -2147483648 ≤ b ∧ b < 2147483648) (h : ¬ iI a = iI b) : ¬ a = b := fun e => h (by rw [e])
theorem iI_ne_t {a b : Int} (ha : -2147483648 ≤ a ∧ a < 2147483648) (hb : -2147483648 ≤ b ∧ b < 2147483648) (h : iI a ≠ iI b) : ¬ a = b := fun e => h (by rw [e])
theorem iI_ne_f {a b : Int} (ha : -2147483648 ≤ a ∧ a < 2147483648) (hb : -2147483648 ≤ b ∧ b < 2147483648) (h : iI a = iI b) : a = b := iI_inj ha hb h
theorem iI_lt_t {a b : Int} (ha : -2147483648 ≤ a ∧ a < 2147483648) (hb : -2147483648 ≤ b ∧ b < 2147483648) (h : iI a < iI b) : a < b := (iI_cmp_lt ha hb).mp h
theorem iI_lt_f {a b : Int} (ha : -2147483648 ≤ a ∧ a < 2147483648) (hb : -2147483648 ≤ b ∧ b < 2147483648) (h : ¬ iI a < iI b) : b ≤ a := Int.not_lt.mp (fun e => h ((iI_cmp_lt ha hb).mpr e))
theorem iI_gt_t {a b : Int} (ha : -2147483648 ≤ a ∧ a < 2147483648) (hb : -2147483648 ≤ b ∧ b < 2147483648) (h : iI b < iI a) : b < a := (iI_cmp_lt hb ha).mp h
theorem iI_gt_f {a b : Int} (ha : -2147483648 ≤ a ∧ a < 2147483648) (hb : -2147483648 ≤ b ∧ b < 2147483648) (h : ¬ iI b < iI a) : a ≤ b := Int.not_lt.mp (fun e => h ((iI_cmp_lt hb ha).mpr e))
theorem iI_le_t {a b : Int} (ha : -2147483648 ≤ a ∧ a < 2147483648) (hb : -2147483648 ≤ b ∧ b < 2147483648) (h : iI a ≤ iI b) : a ≤ b := (iI_cmp_le ha hb).mp h
theorem iI_le_f {a b : Int} (ha : -2147483648 ≤ a ∧ a < 2147483648) (hb : -2147483648 ≤ b ∧ b < 2147483648) (h : ¬ iI a ≤ iI b) : b < a := Int.not_le.mp (fun e => h ((iI_cmp_le ha hb).mpr e))
theorem iI_ge_t {a b : Int} (ha : -2147483648 ≤ a ∧ a < 2147483648) (hb : -2147483648 ≤ b ∧ b < 2147483648) (h : iI b ≤ iI a) : b ≤ a := (iI_cmp_le hb ha).mp h
theorem iI_ge_f {a b : Int} (ha : -2147483648 ≤ a ∧ a < 2147483648) (hb : -2147483648 ≤ b ∧ b < 2147483648) (h : ¬ iI b ≤ iI a) : a < b := Int.not_le.mp (fun e => h ((iI_cmp_le hb ha).mpr e))
theorem iI_clamp {j : Nat} (h : j < 2147483648) : (iI (j : Int)).toNatClampNeg = j := by rw [iI_nat]; exact nI_clamp h
theorem iI_vpin {j N : Nat} (h : j < N) (hN : N < 2147483648) : vp_in (iI (j : Int)) N := by rw [iI_nat]; exact vp_in_nI h hN
theorem bI_eq_t {b : Bool} (h : bI b = 0) : b = false := by cases b <;> first | rfl | (exact absurd h (by decide))
theorem bI_eq_f {b : Bool} (h : ¬ bI b = 0) : b = true := by cases b <;> first | rfl | (exact absurd rfl h)
theorem bI_ne_t {b : Bool} (h : bI b ≠ 0) : b = true := bI_eq_f h
theorem bI_ne_f {b : Bool} (h : bI b = 0) : b = false := bI_eq_t h
abbrev PE : Type := (Nat × vp_A) ⊕ (Nat × List Value)
abbrev PW : Type := Nat → Option PE
abbrev PD : Type := (Nat → ClassId) × (Nat → Nat → Nat) × (Nat → ClassId)
abbrev eI (n : Nat) (f : Nat → Int32) : PE := .inl (0, n, .inl f)
abbrev eZ (n : Nat) (f : Nat → Int32) : PE := .inl (1, n, .inl f)
abbrev eQ (k n : Nat) (f : Nat → Option Nat) : PE := .inl (k, n, .inr (.inr (.inr (.inr f))))
abbrev eO (ci : Nat) (fs : List Value) : PE := .inr (ci, fs)
def pE (D : PD) : PE → va_E
  | .inl x => .inl (D.2.2 x.1, x.2)
  | .inr x => .inr x
def pG (D : PD) : va_G := (D.1, D.2.1)
def pT (D : PD) : List (ClassId × FieldType) := [(D.2.2 0, .int), (D.2.2 1, .boolean), (D.2.2 2, .object RX0), (D.2.2 3, .object RX3), (D.2.2 4, .object RX4)]
def pH (D : PD) (w : PW) (H : Heap) : Prop := ∀ (a : Nat) (e : PE), w a = some e → va_at (pG D) vwCl (a, pE D e) H
def pset (w : PW) (a : Nat) (e : PE) : PW := fun q => if q = a then some e else w q
theorem pset_eq (w : PW) (a : Nat) (e : PE) : pset w a e a = some e := by simp [pset]
theorem pset_ne (w : PW) {a b : Nat} (e : PE) (h : b ≠ a) : pset w a e b = w b := by simp [pset, h]
def pNest : Cond → Bool
  | .fieldLinkNest _ _ _ _ _ _ => true
  | .arrayOver (.object _) => true
  | _ => false
def PT : List Cond := lw_tbl.filter goodWord
def PN : List Cond := tables_1.filter pNest
theorem PT_of {x : Cond} (h : x ∈ lw_tbl) (g : goodWord x = true) : x ∈ PT := List.mem_filter.mpr ⟨h, g⟩
theorem PT_t {x : Cond} (i : Nat) (h : tables_1[i]? = some x) (g : goodWord x = true) : x ∈ PT := PT_of (List.mem_append_right _ (List.mem_of_getElem? h)) g
theorem PN_t {x : Cond} (i : Nat) (h : tables_1[i]? = some x) (g : pNest x = true) : x ∈ PN := List.mem_filter.mpr ⟨List.mem_of_getElem? h, g⟩
theorem PT_good {x : Cond} (h : x ∈ PT) : goodWord x = true := (List.mem_filter.mp h).2
theorem PT_in : GoodIn PT PT := fun _ h => ⟨h, good_of_word (PT_good h)⟩
theorem PT_cons {x : Cond} (h : x ∈ PT) : GoodIn PT (x :: PT) := fun _ hw => (List.mem_cons.mp hw).elim (fun e => e ▸ ⟨h, good_of_word (PT_good h)⟩) (fun h => PT_in _ h)
def pK (D : PD) (U : State) : Prop := va_K (pG D) vwCl (pT D) U ∧ ∀ x ∈ PN, va_Nw x U
theorem pK.moved {D : PD} {u U : State} (hW : u.WarmedH U.vm) (h : pK D u) : pK D U := by
  refine ⟨va_K.moved hW.alike h.1, fun x hx => ?_⟩
  have h2 := h.2 x hx
  obtain ⟨-, hn⟩ := List.mem_filter.mp hx
  cases x <;> first | (cases hn; done) | exact va_Nw.warmF hW h2 | skip
  rename_i ty
  cases ty <;> first | (cases hn; done) | exact va_AO.moved hW.alike h2
/-- code, own class, locals, what it returns, name; room; which cells it may write; where it goes -/
abbrev PS : Type := (ByteArray × String × Nat × Option FieldType × String) × Room × (Nat → Prop) × (PD → List Frame → Array Value → State → (State → Prop) → Prop)
def pC (S : PS) (D : PD) (p : Program) (s : State) (m : MethodId) (args : Array Value) (meth : Method) (c : Code) : Prop :=
  p.tables.exec = Jvm.exec ∧ c.code = S.1.1 ∧ c.maxLocals = S.1.2.2.1 ∧ s.vm.findClass S.1.2.1 = some m.cls ∧ (∀ x ∈ PT, x.before args s = true) ∧ meth.sig.returnType = S.1.2.2.2.1 ∧ meth.name = S.1.2.2.2.2 ∧ meth.locks = false ∧ pK D s
def pA (w : PW) (n : Nat) : Nat → Prop := fun q => (w q).isSome = true ∨ n ≤ q
def Wp (S : PS) (pc : Nat) (lv : List (Nat × Value)) (st : List Value) (w : PW) (n ce sl : Nat) : Prop :=
  ∀ (D : PD) (p : Program) (l : Launch) (e : Env) (s : State) (m : MethodId) (args : Array Value) (below : List Frame) (meth : Method) (c : Code) (H : Heap) (locs : List Loc) (ls : Array Slot) (Q : State → Prop),
    pC S D p s m args meth c → S.2.2.2 D below args s Q → lv_has ls S.1.2.2.1 lv → pH D w H → H.size = n → (∀ a, (w a).isSome = true → S.2.2.1 a) → (∀ q, s.heap.size ≤ q → S.2.2.1 q) → va_S S.2.2.1 s.heap H locs →
    W p l e S.2.1 s m args below meth c H locs ce sl Q (F0 m pc ls st)
/-- a method's end -/
def pQ (D : PD) (A : Nat → Prop) (Q : Option Value → PW → Nat → Prop) : Array Value → State → Outcome → State → Prop := fun _ st oc t => (∃ (v : Option Value) (w : PW), oc = .returned v ∧ Q v w t.heap.size ∧ pH D w t.heap ∧ (∀ a, (w a).isSome = true → A a) ∧ pK D t) ∧ va_F A st t
def mS (code : ByteArray) (own : String) (nL : Nat) (ret : Option FieldType) (name : String) (rm : Room) (A : Nat → Prop) (Q : Option Value → PW → Nat → Prop) : PS :=
  ((code, own, nL, ret, name), rm, A, fun D below args s Z => Z = MQ below (pQ D A Q) args s rm.cells rm.slots A)
/-- method y, called with args in the world w of n cells, comes back with Q -/
def Ctr (y : MethodName) (b : ByteArray) (L : Nat) (r : Option FieldType) (rm : Room) (args : List Value) (w : PW) (n : Nat) (Q : Option Value → PW → Nat → Prop) : Prop :=
  ∀ (l : Launch) (D : PD), Met l y (Cond.code y b L r :: PT) rm (va_Pc args (fun U => U.heap.size = n ∧ pH D w U.heap ∧ pK D U)) (pQ D (pA w n) Q) rm.cells rm.slots (pA w n)
def Ct1 (y : MethodName) (b : ByteArray) (L : Nat) (r : Option FieldType) (rm : Room) (args : List Value) (w : PW) (n : Nat) (Q : Value → PW → Nat → Prop) : Prop :=
  Ctr y b L r rm args w n (fun v w' n' => ∃ x, v = some x ∧ Q x w' n')
def Ct0 (y : MethodName) (b : ByteArray) (L : Nat) (r : Option FieldType) (rm : Room) (args : List Value) (w : PW) (n : Nat) (Q : PW → Nat → Prop) : Prop :=
  Ctr y b L r rm args w n (fun v w' n' => v = none ∧ Q w' n')
/-- a method that only reads -/
def CtR (y : MethodName) (b : ByteArray) (L : Nat) (r : Option FieldType) (rm : Room) (args : List Value) (w : PW) (n : Nat) (x : Value) : Prop :=
  Ct1 y b L r rm args w n (fun x' w' n' => x' = x ∧ w' = w ∧ n' = n)
theorem Ctr.of {y : MethodName} {b : ByteArray} {L : Nat} {r : Option FieldType} {rm : Room} {args : List Value} {w : PW} {n : Nat} {Q : Option Value → PW → Nat → Prop} (hy : plainName y.cls = true) (hL : (lg_sl args).length ≤ L)
    (body : ∀ S : PS, S = mS b y.cls L r y.name rm (pA w n) Q → Wp S 0 (lv_args 0 args) [] w n 0 0) : Ctr y b L r rm args w n Q := by
  intro l D
  refine Met.ofW (cc := b) (maxL := L) (ret := r) hy rfl ?_
  intro p e s m args' below meth c s₁ B hml hv
  obtain ⟨rfl, hsz, hP, hK⟩ := hv
  have hts := atoms_spec (ws := Cond.code y b L r :: PT) B.pre
  have hl := lv_entry args hL
  rw [lg_entry_eq]
  exact body _ rfl D p l e s m args.toArray below meth c s.heap [] _ _
    ⟨B.exec, B.bytes, hml, findClass_of_methodNamed B.named, fun x hx => hts x (List.mem_cons_of_mem _ hx), B.returns, (name_of_methodNamed B.named B.method).1, B.notSynchronized, hK⟩
    rfl hl hP hsz (fun a ha => Or.inl ha) (fun q hq => Or.inr (by rw [← hsz]; exact hq)) va_S.rf

theorem r_iconst {S : PS} {cc : ByteArray} {pc : Nat} {lv : List (Nat × Value)} {st : List Value} {w : PW} {n ce sl : Nat} {z : Int} (hb : S.1.1 = cc) (q : Nat) (hd : decode cc pc = .ok (.iconst z, 1)) (hq : pc + 1 = q)  (kk : Wp S q lv (.int (iI z) :: st) w n ce sl) : Wp S pc lv (st) w n ce sl := by
  intro D p l e s m args below meth c H locs ls Q hC hX hl hH hn hdm hs hS
  subst hb
  subst hq
  exact lv_iconst hC.1 hC.2.1 hd rfl (kk D p l e s m args below meth c H locs ls Q hC hX hl hH hn hdm hs hS)
theorem r_bipush {S : PS} {cc : ByteArray} {pc : Nat} {lv : List (Nat × Value)} {st : List Value} {w : PW} {n ce sl : Nat} {z : Int} (y : Int) (hb : S.1.1 = cc) (q : Nat) (hd : decode cc pc = .ok (.bipush z, 2)) (hq : pc + 2 = q) (hv : (Int8.ofInt z).toInt32 = iI y) (kk : Wp S q lv (.int (iI y) :: st) w n ce sl) : Wp S pc lv (st) w n ce sl := by
  intro D p l e s m args below meth c H locs ls Q hC hX hl hH hn hdm hs hS
  subst hb
  subst hq
  exact lv_bipush hC.1 hC.2.1 hd hv (kk D p l e s m args below meth c H locs ls Q hC hX hl hH hn hdm hs hS)
theorem r_sipush {S : PS} {cc : ByteArray} {pc : Nat} {lv : List (Nat × Value)} {st : List Value} {w : PW} {n ce sl : Nat} {z : Int} (y : Int) (hb : S.1.1 = cc) (q : Nat) (hd : decode cc pc = .ok (.sipush z, 3)) (hq : pc + 3 = q) (hv : (Int16.ofInt z).toInt32 = iI y) (kk : Wp S q lv (.int (iI y) :: st) w n ce sl) : Wp S pc lv (st) w n ce sl := by
  intro D p l e s m args below meth c H locs ls Q hC hX hl hH hn hdm hs hS
  subst hb
  subst hq
  exact lv_sipush hC.1 hC.2.1 hd hv (kk D p l e s m args below meth c H locs ls Q hC hX hl hH hn hdm hs hS)
theorem r_null {S : PS} {cc : ByteArray} {pc : Nat} {lv : List (Nat × Value)} {st : List Value} {w : PW} {n ce sl : Nat}  (hb : S.1.1 = cc) (q : Nat) (hd : decode cc pc = .ok (.aconst_null, 1)) (hq : pc + 1 = q)  (kk : Wp S q lv (.null :: st) w n ce sl) : Wp S pc lv (st) w n ce sl := by
  intro D p l e s m args below meth c H locs ls Q hC hX hl hH hn hdm hs hS
  subst hb
  subst hq
  exact lv_null hC.1 hC.2.1 hd (kk D p l e s m args below meth c H locs ls Q hC hX hl hH hn hdm hs hS)
theorem r_iload_n {S : PS} {cc : ByteArray} {pc : Nat} {lv : List (Nat × Value)} {st : List Value} {w : PW} {n ce sl : Nat} {k : Fin 4} {x : Int32} (hb : S.1.1 = cc) (q : Nat) (hd : decode cc pc = .ok (.iload_n k, 1)) (hq : pc + 1 = q) (i : Nat) (hl0 : lv[i]? = some ((k : Nat), Value.int x)) (kk : Wp S q lv (.int x :: st) w n ce sl) : Wp S pc lv (st) w n ce sl := by
  intro D p l e s m args below meth c H locs ls Q hC hX hl hH hn hdm hs hS
  subst hb
  subst hq
  exact lv_iload_n hC.1 hC.2.1 hd rfl (lv_at hl i hl0) (kk D p l e s m args below meth c H locs ls Q hC hX hl hH hn hdm hs hS)
theorem r_iload {S : PS} {cc : ByteArray} {pc : Nat} {lv : List (Nat × Value)} {st : List Value} {w : PW} {n ce sl : Nat} {k : Nat} {x : Int32} (hb : S.1.1 = cc) (q : Nat) (hd : decode cc pc = .ok (.iload k, 2)) (hq : pc + 2 = q) (i : Nat) (hl0 : lv[i]? = some (k, Value.int x)) (kk : Wp S q lv (.int x :: st) w n ce sl) : Wp S pc lv (st) w n ce sl := by
  intro D p l e s m args below meth c H locs ls Q hC hX hl hH hn hdm hs hS
  subst hb
  subst hq
  exact lv_iload hC.1 hC.2.1 hd (lv_at hl i hl0) (kk D p l e s m args below meth c H locs ls Q hC hX hl hH hn hdm hs hS)
theorem r_aload_n {S : PS} {cc : ByteArray} {pc : Nat} {lv : List (Nat × Value)} {st : List Value} {w : PW} {n ce sl : Nat} {k : Fin 4} {x : Nat} (hb : S.1.1 = cc) (q : Nat) (hd : decode cc pc = .ok (.aload_n k, 1)) (hq : pc + 1 = q) (i : Nat) (hl0 : lv[i]? = some ((k : Nat), Value.ref x)) (kk : Wp S q lv (.ref x :: st) w n ce sl) : Wp S pc lv (st) w n ce sl := by
  intro D p l e s m args below meth c H locs ls Q hC hX hl hH hn hdm hs hS
  subst hb
  subst hq
  exact lv_aload_n hC.1 hC.2.1 hd rfl (lv_at hl i hl0) (kk D p l e s m args below meth c H locs ls Q hC hX hl hH hn hdm hs hS)
theorem r_aload {S : PS} {cc : ByteArray} {pc : Nat} {lv : List (Nat × Value)} {st : List Value} {w : PW} {n ce sl : Nat} {k : Nat} {x : Nat} (hb : S.1.1 = cc) (q : Nat) (hd : decode cc pc = .ok (.aload k, 2)) (hq : pc + 2 = q) (i : Nat) (hl0 : lv[i]? = some (k, Value.ref x)) (kk : Wp S q lv (.ref x :: st) w n ce sl) : Wp S pc lv (st) w n ce sl := by
  intro D p l e s m args below meth c H locs ls Q hC hX hl hH hn hdm hs hS
  subst hb
  subst hq
  exact lv_aload hC.1 hC.2.1 hd (lv_at hl i hl0) (kk D p l e s m args below meth c H locs ls Q hC hX hl hH hn hdm hs hS)
theorem r_lload_n {S : PS} {cc : ByteArray} {pc : Nat} {lv : List (Nat × Value)} {st : List Value} {w : PW} {n ce sl : Nat} {k : Fin 4} {x : Int64} (hb : S.1.1 = cc) (q : Nat) (hd : decode cc pc = .ok (.lload_n k, 1)) (hq : pc + 1 = q) (i : Nat) (hl0 : lv[i]? = some ((k : Nat), Value.long x)) (kk : Wp S q lv (.long x :: st) w n ce sl) : Wp S pc lv (st) w n ce sl := by
  intro D p l e s m args below meth c H locs ls Q hC hX hl hH hn hdm hs hS
  subst hb
  subst hq
  exact lv_lload_n hC.1 hC.2.1 hd rfl (lv_at hl i hl0) (kk D p l e s m args below meth c H locs ls Q hC hX hl hH hn hdm hs hS)
theorem r_lload {S : PS} {cc : ByteArray} {pc : Nat} {lv : List (Nat × Value)} {st : List Value} {w : PW} {n ce sl : Nat} {k : Nat} {x : Int64} (hb : S.1.1 = cc) (q : Nat) (hd : decode cc pc = .ok (.lload k, 2)) (hq : pc + 2 = q) (i : Nat) (hl0 : lv[i]? = some (k, Value.long x)) (kk : Wp S q lv (.long x :: st) w n ce sl) : Wp S pc lv (st) w n ce sl := by
  intro D p l e s m args below meth c H locs ls Q hC hX hl hH hn hdm hs hS
  subst hb
  subst hq
  exact lv_lload hC.1 hC.2.1 hd (lv_at hl i hl0) (kk D p l e s m args below meth c H locs ls Q hC hX hl hH hn hdm hs hS)
theorem r_aload_nN {S : PS} {cc : ByteArray} {pc : Nat} {lv : List (Nat × Value)} {st : List Value} {w : PW} {n ce sl : Nat} {k : Fin 4} (hb : S.1.1 = cc) (q : Nat) (hd : decode cc pc = .ok (.aload_n k, 1)) (hq : pc + 1 = q) (i : Nat) (hl0 : lv[i]? = some ((k : Nat), Value.null)) (kk : Wp S q lv (.null :: st) w n ce sl) : Wp S pc lv (st) w n ce sl := by
  intro D p l e s m args below meth c H locs ls Q hC hX hl hH hn hdm hs hS
  subst hb
  subst hq
  exact lv_aload_nN hC.1 hC.2.1 hd rfl (lv_at hl i hl0) (kk D p l e s m args below meth c H locs ls Q hC hX hl hH hn hdm hs hS)
theorem r_aloadN {S : PS} {cc : ByteArray} {pc : Nat} {lv : List (Nat × Value)} {st : List Value} {w : PW} {n ce sl : Nat} {k : Nat} (hb : S.1.1 = cc) (q : Nat) (hd : decode cc pc = .ok (.aload k, 2)) (hq : pc + 2 = q) (i : Nat) (hl0 : lv[i]? = some (k, Value.null)) (kk : Wp S q lv (.null :: st) w n ce sl) : Wp S pc lv (st) w n ce sl := by
  intro D p l e s m args below meth c H locs ls Q hC hX hl hH hn hdm hs hS
  subst hb
  subst hq
  exact lv_aloadN hC.1 hC.2.1 hd (lv_at hl i hl0) (kk D p l e s m args below meth c H locs ls Q hC hX hl hH hn hdm hs hS)
def lset1 (lv : List (Nat × Value)) (i : Nat) (v : Value) : List (Nat × Value) := (i, v) :: lv.filter (fun q => !(q.1 == i) && !(q.1 + 1 == i && q.2.category == 2))
def lset2 (lv : List (Nat × Value)) (i : Nat) (v : Value) : List (Nat × Value) := (i, v) :: lv.filter (fun q => !(q.1 == i) && (!(q.1 == i + 1) && !(q.1 + 1 == i && q.2.category == 2)))
theorem r_istore_n {S : PS} {cc : ByteArray} {pc : Nat} {lv : List (Nat × Value)} {st : List Value} {w : PW} {n ce sl : Nat} {k : Fin 4} {i : Nat} {x : Int32} (lv1 : List (Nat × Value)) (hb : S.1.1 = cc) (q nL : Nat) (hd : decode cc pc = .ok (.istore_n k, 1)) (hq : pc + 1 = q) (hk : (k : Nat) = i) (hnL : S.1.2.2.1 = nL) (hi : i < nL) (hl1 : lset1 lv i (.int x) = lv1) (kk : Wp S q lv1 st w n ce sl) : Wp S pc lv (.int x :: st) w n ce sl := by
  intro D p l e s m args below meth c H locs ls Q hC hX hl hH hn hdm hs hS
  subst hb
  subst hq; subst hnL
  exact lv_istore_n hC.1 hC.2.1 hd hk hl hi hl1 (fun ls' hl => kk D p l e s m args below meth c H locs ls' Q hC hX hl hH hn hdm hs hS)
theorem r_istore {S : PS} {cc : ByteArray} {pc : Nat} {lv : List (Nat × Value)} {st : List Value} {w : PW} {n ce sl : Nat} {i : Nat} {x : Int32} (lv1 : List (Nat × Value)) (hb : S.1.1 = cc) (q nL : Nat) (hd : decode cc pc = .ok (.istore i, 2)) (hq : pc + 2 = q)  (hnL : S.1.2.2.1 = nL) (hi : i < nL) (hl1 : lset1 lv i (.int x) = lv1) (kk : Wp S q lv1 st w n ce sl) : Wp S pc lv (.int x :: st) w n ce sl := by
  intro D p l e s m args below meth c H locs ls Q hC hX hl hH hn hdm hs hS
  subst hb
  subst hq; subst hnL
  exact lv_istore hC.1 hC.2.1 hd  hl hi hl1 (fun ls' hl => kk D p l e s m args below meth c H locs ls' Q hC hX hl hH hn hdm hs hS)
theorem r_astore_n {S : PS} {cc : ByteArray} {pc : Nat} {lv : List (Nat × Value)} {st : List Value} {w : PW} {n ce sl : Nat} {k : Fin 4} {i : Nat} {x : Nat} (lv1 : List (Nat × Value)) (hb : S.1.1 = cc) (q nL : Nat) (hd : decode cc pc = .ok (.astore_n k, 1)) (hq : pc + 1 = q) (hk : (k : Nat) = i) (hnL : S.1.2.2.1 = nL) (hi : i < nL) (hl1 : lset1 lv i (.ref x) = lv1) (kk : Wp S q lv1 st w n ce sl) : Wp S pc lv (.ref x :: st) w n ce sl := by
  intro D p l e s m args below meth c H locs ls Q hC hX hl hH hn hdm hs hS
  subst hb
  subst hq; subst hnL
  exact lv_astore_n hC.1 hC.2.1 hd hk hl hi hl1 (fun ls' hl => kk D p l e s m args below meth c H locs ls' Q hC hX hl hH hn hdm hs hS)
theorem r_astore {S : PS} {cc : ByteArray} {pc : Nat} {lv : List (Nat × Value)} {st : List Value} {w : PW} {n ce sl : Nat} {i : Nat} {x : Nat} (lv1 : List (Nat × Value)) (hb : S.1.1 = cc) (q nL : Nat) (hd : decode cc pc = .ok (.astore i, 2)) (hq : pc + 2 = q)  (hnL : S.1.2.2.1 = nL) (hi : i < nL) (hl1 : lset1 lv i (.ref x) = lv1) (kk : Wp S q lv1 st w n ce sl) : Wp S pc lv (.ref x :: st) w n ce sl := by
  intro D p l e s m args below meth c H locs ls Q hC hX hl hH hn hdm hs hS
  subst hb
  subst hq; subst hnL
  exact lv_astore hC.1 hC.2.1 hd  hl hi hl1 (fun ls' hl => kk D p l e s m args below meth c H locs ls' Q hC hX hl hH hn hdm hs hS)
theorem r_lstore_n {S : PS} {cc : ByteArray} {pc : Nat} {lv : List (Nat × Value)} {st : List Value} {w : PW} {n ce sl : Nat} {k : Fin 4} {i : Nat} {x : Int64} (lv1 : List (Nat × Value)) (hb : S.1.1 = cc) (q nL : Nat) (hd : decode cc pc = .ok (.lstore_n k, 1)) (hq : pc + 1 = q) (hk : (k : Nat) = i) (hnL : S.1.2.2.1 = nL) (hi : i + 1 < nL) (hl1 : lset2 lv i (.long x) = lv1) (kk : Wp S q lv1 st w n ce sl) : Wp S pc lv (.long x :: st) w n ce sl := by
  intro D p l e s m args below meth c H locs ls Q hC hX hl hH hn hdm hs hS
  subst hb
  subst hq; subst hnL
  exact lv_lstore_n hC.1 hC.2.1 hd hk hl hi hl1 (fun ls' hl => kk D p l e s m args below meth c H locs ls' Q hC hX hl hH hn hdm hs hS)
theorem r_lstore {S : PS} {cc : ByteArray} {pc : Nat} {lv : List (Nat × Value)} {st : List Value} {w : PW} {n ce sl : Nat} {i : Nat} {x : Int64} (lv1 : List (Nat × Value)) (hb : S.1.1 = cc) (q nL : Nat) (hd : decode cc pc = .ok (.lstore i, 2)) (hq : pc + 2 = q)  (hnL : S.1.2.2.1 = nL) (hi : i + 1 < nL) (hl1 : lset2 lv i (.long x) = lv1) (kk : Wp S q lv1 st w n ce sl) : Wp S pc lv (.long x :: st) w n ce sl := by
  intro D p l e s m args below meth c H locs ls Q hC hX hl hH hn hdm hs hS
  subst hb
  subst hq; subst hnL
  exact lv_lstore hC.1 hC.2.1 hd  hl hi hl1 (fun ls' hl => kk D p l e s m args below meth c H locs ls' Q hC hX hl hH hn hdm hs hS)
theorem r_astore_nN {S : PS} {cc : ByteArray} {pc : Nat} {lv : List (Nat × Value)} {st : List Value} {w : PW} {n ce sl : Nat} {k : Fin 4} {i : Nat} (lv1 : List (Nat × Value)) (hb : S.1.1 = cc) (q nL : Nat) (hd : decode cc pc = .ok (.astore_n k, 1)) (hq : pc + 1 = q) (hk : (k : Nat) = i) (hnL : S.1.2.2.1 = nL) (hi : i < nL) (hl1 : lset1 lv i .null = lv1) (kk : Wp S q lv1 st w n ce sl) : Wp S pc lv (.null :: st) w n ce sl := by
  intro D p l e s m args below meth c H locs ls Q hC hX hl hH hn hdm hs hS
  subst hb
  subst hq; subst hnL
  exact lv_astore_nN hC.1 hC.2.1 hd hk hl hi hl1 (fun ls' hl => kk D p l e s m args below meth c H locs ls' Q hC hX hl hH hn hdm hs hS)
theorem r_astoreN {S : PS} {cc : ByteArray} {pc : Nat} {lv : List (Nat × Value)} {st : List Value} {w : PW} {n ce sl : Nat} {i : Nat} (lv1 : List (Nat × Value)) (hb : S.1.1 = cc) (q nL : Nat) (hd : decode cc pc = .ok (.astore i, 2)) (hq : pc + 2 = q)  (hnL : S.1.2.2.1 = nL) (hi : i < nL) (hl1 : lset1 lv i .null = lv1) (kk : Wp S q lv1 st w n ce sl) : Wp S pc lv (.null :: st) w n ce sl := by
  intro D p l e s m args below meth c H locs ls Q hC hX hl hH hn hdm hs hS
  subst hb
  subst hq; subst hnL
  exact lv_astoreN hC.1 hC.2.1 hd  hl hi hl1 (fun ls' hl => kk D p l e s m args below meth c H locs ls' Q hC hX hl hH hn hdm hs hS)
theorem r_iinc {S : PS} {cc : ByteArray} {pc : Nat} {lv : List (Nat × Value)} {st : List Value} {w : PW} {n ce sl : Nat} {i : Nat} {z : Int} {a : Int} (lv1 : List (Nat × Value)) (hb : S.1.1 = cc) (q nL k : Nat) (hd : decode cc pc = .ok (.iinc i z, 3)) (hq : pc + 3 = q) (hk : lv[k]? = some (i, .int (iI a))) (hnL : S.1.2.2.1 = nL) (hi : i < nL) (b : Int) (hab : a + z = b) (hl1 : lset1 lv i (.int (iI b)) = lv1) (kk : Wp S q lv1 st w n ce sl) : Wp S pc lv st w n ce sl := by
  intro D p l e s m args below meth c H locs ls Q hC hX hl hH hn hdm hs hS
  subst hb
  subst hq; subst hnL; subst hab
  exact lv_iinc hC.1 hC.2.1 hd hl hk (iI_add a z) hi hl1 (fun ls' hl => kk D p l e s m args below meth c H locs ls' Q hC hX hl hH hn hdm hs hS)
theorem r_lv {S : PS} {pc : Nat} {lv : List (Nat × Value)} {st : List Value} {w : PW} {n ce sl : Nat} (lv1 : List (Nat × Value)) (ks : List Nat) (hl1 : lv_pick lv ks = lv1) (kk : Wp S pc lv1 st w n ce sl) : Wp S pc lv st w n ce sl := by
  intro D p l e s m args below meth c H locs ls Q hC hX hl hH hn hdm hs hS
  exact kk D p l e s m args below meth c H locs ls Q hC hX (lv_sub hl ks hl1) hH hn hdm hs hS
theorem r_iadd {S : PS} {cc : ByteArray} {pc : Nat} {lv : List (Nat × Value)} {st : List Value} {w : PW} {n ce sl : Nat} {x y : Int32} (hb : S.1.1 = cc) (q : Nat) (hd : decode cc pc = .ok (.iadd, 1)) (hq : pc + 1 = q)  (kk : Wp S q lv (.int (x + y) :: st) w n ce sl) : Wp S pc lv (.int y :: .int x :: st) w n ce sl := by
  intro D p l e s m args below meth c H locs ls Q hC hX hl hH hn hdm hs hS
  subst hb
  subst hq
  exact lv_iadd hC.1 hC.2.1 hd (kk D p l e s m args below meth c H locs ls Q hC hX hl hH hn hdm hs hS)
theorem r_iaddZ {S : PS} {cc : ByteArray} {pc : Nat} {lv : List (Nat × Value)} {st : List Value} {w : PW} {n ce sl : Nat} {a b : Int} (hb : S.1.1 = cc) (q : Nat) (z : Int) (hd : decode cc pc = .ok (.iadd, 1)) (hq : pc + 1 = q) (hz : a + b = z) (kk : Wp S q lv (.int (iI z) :: st) w n ce sl) : Wp S pc lv (.int (iI b) :: .int (iI a) :: st) w n ce sl := by
  subst hz
  refine r_iadd hb q hd hq ?_
  rw [iI_add]
  exact kk
theorem r_isub {S : PS} {cc : ByteArray} {pc : Nat} {lv : List (Nat × Value)} {st : List Value} {w : PW} {n ce sl : Nat} {x y : Int32} (hb : S.1.1 = cc) (q : Nat) (hd : decode cc pc = .ok (.isub, 1)) (hq : pc + 1 = q)  (kk : Wp S q lv (.int (x - y) :: st) w n ce sl) : Wp S pc lv (.int y :: .int x :: st) w n ce sl := by
  intro D p l e s m args below meth c H locs ls Q hC hX hl hH hn hdm hs hS
  subst hb
  subst hq
  exact lv_isub hC.1 hC.2.1 hd (kk D p l e s m args below meth c H locs ls Q hC hX hl hH hn hdm hs hS)
theorem r_isubZ {S : PS} {cc : ByteArray} {pc : Nat} {lv : List (Nat × Value)} {st : List Value} {w : PW} {n ce sl : Nat} {a b : Int} (hb : S.1.1 = cc) (q : Nat) (z : Int) (hd : decode cc pc = .ok (.isub, 1)) (hq : pc + 1 = q) (hz : a - b = z) (kk : Wp S q lv (.int (iI z) :: st) w n ce sl) : Wp S pc lv (.int (iI b) :: .int (iI a) :: st) w n ce sl := by
  subst hz
  refine r_isub hb q hd hq ?_
  rw [iI_sub]
  exact kk
theorem r_imul {S : PS} {cc : ByteArray} {pc : Nat} {lv : List (Nat × Value)} {st : List Value} {w : PW} {n ce sl : Nat} {x y : Int32} (hb : S.1.1 = cc) (q : Nat) (hd : decode cc pc = .ok (.imul, 1)) (hq : pc + 1 = q)  (kk : Wp S q lv (.int (x * y) :: st) w n ce sl) : Wp S pc lv (.int y :: .int x :: st) w n ce sl := by
  intro D p l e s m args below meth c H locs ls Q hC hX hl hH hn hdm hs hS
  subst hb
  subst hq
  exact lv_imul hC.1 hC.2.1 hd (kk D p l e s m args below meth c H locs ls Q hC hX hl hH hn hdm hs hS)
theorem r_imulZ {S : PS} {cc : ByteArray} {pc : Nat} {lv : List (Nat × Value)} {st : List Value} {w : PW} {n ce sl : Nat} {a b : Int} (hb : S.1.1 = cc) (q : Nat) (z : Int) (hd : decode cc pc = .ok (.imul, 1)) (hq : pc + 1 = q) (hz : a * b = z) (kk : Wp S q lv (.int (iI z) :: st) w n ce sl) : Wp S pc lv (.int (iI b) :: .int (iI a) :: st) w n ce sl := by
  subst hz
  refine r_imul hb q hd hq ?_
  rw [iI_mul]
  exact kk
theorem r_ineg {S : PS} {cc : ByteArray} {pc : Nat} {lv : List (Nat × Value)} {st : List Value} {w : PW} {n ce sl : Nat} {x : Int32} (hb : S.1.1 = cc) (q : Nat) (hd : decode cc pc = .ok (.ineg, 1)) (hq : pc + 1 = q)  (kk : Wp S q lv (.int (-x) :: st) w n ce sl) : Wp S pc lv (.int x :: st) w n ce sl := by
  intro D p l e s m args below meth c H locs ls Q hC hX hl hH hn hdm hs hS
  subst hb
  subst hq
  exact lv_ineg hC.1 hC.2.1 hd (kk D p l e s m args below meth c H locs ls Q hC hX hl hH hn hdm hs hS)
theorem r_iand {S : PS} {cc : ByteArray} {pc : Nat} {lv : List (Nat × Value)} {st : List Value} {w : PW} {n ce sl : Nat} {x y : Int32} (hb : S.1.1 = cc) (q : Nat) (hd : decode cc pc = .ok (.iand, 1)) (hq : pc + 1 = q)  (kk : Wp S q lv (.int (x &&& y) :: st) w n ce sl) : Wp S pc lv (.int y :: .int x :: st) w n ce sl := by
  intro D p l e s m args below meth c H locs ls Q hC hX hl hH hn hdm hs hS
  subst hb
  subst hq
  exact lv_iand hC.1 hC.2.1 hd (kk D p l e s m args below meth c H locs ls Q hC hX hl hH hn hdm hs hS)
theorem r_idiv {S : PS} {cc : ByteArray} {pc : Nat} {lv : List (Nat × Value)} {st : List Value} {w : PW} {n ce sl : Nat} {x y : Int32} (hb : S.1.1 = cc) (q : Nat) (hd : decode cc pc = .ok (.idiv, 1)) (hq : pc + 1 = q) (hne : ¬ y = 0) (kk : Wp S q lv (.int (x / y) :: st) w n ce sl) : Wp S pc lv (.int y :: .int x :: st) w n ce sl := by
  intro D p l e s m args below meth c H locs ls Q hC hX hl hH hn hdm hs hS
  subst hb
  subst hq
  exact lv_idiv hC.1 hC.2.1 hd hne (kk D p l e s m args below meth c H locs ls Q hC hX hl hH hn hdm hs hS)
theorem r_ladd {S : PS} {cc : ByteArray} {pc : Nat} {lv : List (Nat × Value)} {st : List Value} {w : PW} {n ce sl : Nat} {x y : Int64} (hb : S.1.1 = cc) (q : Nat) (hd : decode cc pc = .ok (.ladd, 1)) (hq : pc + 1 = q)  (kk : Wp S q lv (.long (x + y) :: st) w n ce sl) : Wp S pc lv (.long y :: .long x :: st) w n ce sl := by
  intro D p l e s m args below meth c H locs ls Q hC hX hl hH hn hdm hs hS
  subst hb
  subst hq
  exact lv_ladd hC.1 hC.2.1 hd (kk D p l e s m args below meth c H locs ls Q hC hX hl hH hn hdm hs hS)
theorem r_lmul {S : PS} {cc : ByteArray} {pc : Nat} {lv : List (Nat × Value)} {st : List Value} {w : PW} {n ce sl : Nat} {x y : Int64} (hb : S.1.1 = cc) (q : Nat) (hd : decode cc pc = .ok (.lmul, 1)) (hq : pc + 1 = q)  (kk : Wp S q lv (.long (x * y) :: st) w n ce sl) : Wp S pc lv (.long y :: .long x :: st) w n ce sl := by
  intro D p l e s m args below meth c H locs ls Q hC hX hl hH hn hdm hs hS
  subst hb
  subst hq
  exact lv_lmul hC.1 hC.2.1 hd (kk D p l e s m args below meth c H locs ls Q hC hX hl hH hn hdm hs hS)
theorem r_i2l {S : PS} {cc : ByteArray} {pc : Nat} {lv : List (Nat × Value)} {st : List Value} {w : PW} {n ce sl : Nat} {x : Int32} (hb : S.1.1 = cc) (q : Nat) (hd : decode cc pc = .ok (.i2l, 1)) (hq : pc + 1 = q)  (kk : Wp S q lv (.long x.toInt64 :: st) w n ce sl) : Wp S pc lv (.int x :: st) w n ce sl := by
  intro D p l e s m args below meth c H locs ls Q hC hX hl hH hn hdm hs hS
  subst hb
  subst hq
  exact lv_i2l hC.1 hC.2.1 hd rfl (kk D p l e s m args below meth c H locs ls Q hC hX hl hH hn hdm hs hS)
theorem r_lcmp {S : PS} {cc : ByteArray} {pc : Nat} {lv : List (Nat × Value)} {st : List Value} {w : PW} {n ce sl : Nat} {x y : Int64} (hb : S.1.1 = cc) (q : Nat) (hd : decode cc pc = .ok (.lcmp, 1)) (hq : pc + 1 = q)  (kk : Wp S q lv (.int (lg_cmp x y) :: st) w n ce sl) : Wp S pc lv (.long y :: .long x :: st) w n ce sl := by
  intro D p l e s m args below meth c H locs ls Q hC hX hl hH hn hdm hs hS
  subst hb
  subst hq
  exact W.lcmp hC.1 hC.2.1 hd (kk D p l e s m args below meth c H locs ls Q hC hX hl hH hn hdm hs hS)
theorem r_dup {S : PS} {cc : ByteArray} {pc : Nat} {lv : List (Nat × Value)} {st : List Value} {w : PW} {n ce sl : Nat} {x : Value} (hb : S.1.1 = cc) (q : Nat) (hd : decode cc pc = .ok (.dup, 1)) (hq : pc + 1 = q) (hx : x.category = 1) (kk : Wp S q lv (x :: x :: st) w n ce sl) : Wp S pc lv (x :: st) w n ce sl := by
  intro D p l e s m args below meth c H locs ls Q hC hX hl hH hn hdm hs hS
  subst hb
  subst hq
  exact lv_dup hC.1 hC.2.1 hd hx (kk D p l e s m args below meth c H locs ls Q hC hX hl hH hn hdm hs hS)
theorem r_dup2 {S : PS} {cc : ByteArray} {pc : Nat} {lv : List (Nat × Value)} {st : List Value} {w : PW} {n ce sl : Nat} {x y : Value} (hb : S.1.1 = cc) (q : Nat) (hd : decode cc pc = .ok (.dup2, 1)) (hq : pc + 1 = q) (hx : x.category = 1) (hy : y.category = 1) (kk : Wp S q lv (x :: y :: x :: y :: st) w n ce sl) : Wp S pc lv (x :: y :: st) w n ce sl := by
  intro D p l e s m args below meth c H locs ls Q hC hX hl hH hn hdm hs hS
  subst hb
  subst hq
  exact lv_dup2_11 hC.1 hC.2.1 hd hx hy (kk D p l e s m args below meth c H locs ls Q hC hX hl hH hn hdm hs hS)
theorem r_topz {S : PS} {pc : Nat} {lv : List (Nat × Value)} {st : List Value} {w : PW} {n ce sl : Nat} {x : Int32} (z : Int) (h : x = iI z) (kk : Wp S pc lv (.int (iI z) :: st) w n ce sl) : Wp S pc lv (.int x :: st) w n ce sl := by rw [h]; exact kk
theorem r_topv {S : PS} {pc : Nat} {lv : List (Nat × Value)} {st : List Value} {w : PW} {n ce sl : Nat} {x : Value} (y : Value) (h : x = y) (kk : Wp S pc lv (y :: st) w n ce sl) : Wp S pc lv (x :: st) w n ce sl := by rw [h]; exact kk
theorem r_goto {S : PS} {cc : ByteArray} {pc : Nat} {lv : List (Nat × Value)} {st : List Value} {w : PW} {n ce sl : Nat} {off : Int} (hb : S.1.1 = cc) (tgt : Nat) (hd : decode cc pc = .ok (.goto off, 3)) (ht : (pc : Int) + off = (tgt : Int)) (kk : Wp S tgt lv st w n ce sl) : Wp S pc lv st w n ce sl := by
  intro D p l e s m args below meth c H locs ls Q hC hX hl hH hn hdm hs hS
  subst hb
  exact lv_goto hC.1 hC.2.1 hd ht (kk D p l e s m args below meth c H locs ls Q hC hX hl hH hn hdm hs hS)
theorem r_icmp_eq {S : PS} {cc : ByteArray} {pc : Nat} {lv : List (Nat × Value)} {st : List Value} {w : PW} {n ce sl : Nat} {a b off : Int} (hb : S.1.1 = cc) (q tgt : Nat) (hd : decode cc pc = .ok (.if_icmp .eq off, 3)) (hq : pc + 3 = q) (ht : (pc : Int) + off = (tgt : Int)) (ha : (-2147483648 ≤ a ∧ a < 2147483648)) (hbb : (-2147483648 ≤ b ∧ b < 2147483648)) (kt : a = b → Wp S tgt lv st w n ce sl) (kf : ¬ a = b → Wp S q lv st w n ce sl) : Wp S pc lv (.int (iI b) :: .int (iI a) :: st) w n ce sl := by
  intro D p l e s m args below meth c H locs ls Q hC hX hl hH hn hdm hs hS
  subst hb
  subst hq
  exact lv_icmp_eq hC.1 hC.2.1 hd ht (fun h => kt (iI_eq_t ha hbb h) D p l e s m args below meth c H locs ls Q hC hX hl hH hn hdm hs hS) (fun h => kf (iI_eq_f ha hbb h) D p l e s m args below meth c H locs ls Q hC hX hl hH hn hdm hs hS)
theorem r_if_eq {S : PS} {cc : ByteArray} {pc : Nat} {lv : List (Nat × Value)} {st : List Value} {w : PW} {n ce sl : Nat} {a off : Int} (hb : S.1.1 = cc) (q tgt : Nat) (hd : decode cc pc = .ok (.ifCond .eq off, 3)) (hq : pc + 3 = q) (ht : (pc : Int) + off = (tgt : Int)) (ha : (-2147483648 ≤ a ∧ a < 2147483648)) (kt : a = 0 → Wp S tgt lv st w n ce sl) (kf : ¬ a = 0 → Wp S q lv st w n ce sl) : Wp S pc lv (.int (iI a) :: st) w n ce sl := by
  intro D p l e s m args below meth c H locs ls Q hC hX hl hH hn hdm hs hS
  subst hb
  subst hq
  exact lv_if_eq hC.1 hC.2.1 hd ht (fun h => kt (iI_eq_t ha (by decide) h) D p l e s m args below meth c H locs ls Q hC hX hl hH hn hdm hs hS) (fun h => kf (iI_eq_f ha (by decide) h) D p l e s m args below meth c H locs ls Q hC hX hl hH hn hdm hs hS)
theorem r_icmp_ne {S : PS} {cc : ByteArray} {pc : Nat} {lv : List (Nat × Value)} {st : List Value} {w : PW} {n ce sl : Nat} {a b off : Int} (hb : S.1.1 = cc) (q tgt : Nat) (hd : decode cc pc = .ok (.if_icmp .ne off, 3)) (hq : pc + 3 = q) (ht : (pc : Int) + off = (tgt : Int)) (ha : (-2147483648 ≤ a ∧ a < 2147483648)) (hbb : (-2147483648 ≤ b ∧ b < 2147483648)) (kt : ¬ a = b → Wp S tgt lv st w n ce sl) (kf : a = b → Wp S q lv st w n ce sl) : Wp S pc lv (.int (iI b) :: .int (iI a) :: st) w n ce sl := by
  intro D p l e s m args below meth c H locs ls Q hC hX hl hH hn hdm hs hS
  subst hb
  subst hq
  exact lv_icmp_ne hC.1 hC.2.1 hd ht (fun h => kt (iI_ne_t ha hbb h) D p l e s m args below meth c H locs ls Q hC hX hl hH hn hdm hs hS) (fun h => kf (iI_ne_f ha hbb h) D p l e s m args below meth c H locs ls Q hC hX hl hH hn hdm hs hS)
theorem r_if_ne {S : PS} {cc : ByteArray} {pc : Nat} {lv : List (Nat × Value)} {st : List Value} {w : PW} {n ce sl : Nat} {a off : Int} (hb : S.1.1 = cc) (q tgt : Nat) (hd : decode cc pc = .ok (.ifCond .ne off, 3)) (hq : pc + 3 = q) (ht : (pc : Int) + off = (tgt : Int)) (ha : (-2147483648 ≤ a ∧ a < 2147483648)) (kt : ¬ a = 0 → Wp S tgt lv st w n ce sl) (kf : a = 0 → Wp S q lv st w n ce sl) : Wp S pc lv (.int (iI a) :: st) w n ce sl := by
  intro D p l e s m args below meth c H locs ls Q hC hX hl hH hn hdm hs hS
  subst hb
  subst hq
  exact lv_if_ne hC.1 hC.2.1 hd ht (fun h => kt (iI_ne_t ha (by decide) h) D p l e s m args below meth c H locs ls Q hC hX hl hH hn hdm hs hS) (fun h => kf (iI_ne_f ha (by decide) h) D p l e s m args below meth c H locs ls Q hC hX hl hH hn hdm hs hS)
theorem r_icmp_lt {S : PS} {cc : ByteArray} {pc : Nat} {lv : List (Nat × Value)} {st : List Value} {w : PW} {n ce sl : Nat} {a b off : Int} (hb : S.1.1 = cc) (q tgt : Nat) (hd : decode cc pc = .ok (.if_icmp .lt off, 3)) (hq : pc + 3 = q) (ht : (pc : Int) + off = (tgt : Int)) (ha : (-2147483648 ≤ a ∧ a < 2147483648)) (hbb : (-2147483648 ≤ b ∧ b < 2147483648)) (kt : a < b → Wp S tgt lv st w n ce sl) (kf : b ≤ a → Wp S q lv st w n ce sl) : Wp S pc lv (.int (iI b) :: .int (iI a) :: st) w n ce sl := by
  intro D p l e s m args below meth c H locs ls Q hC hX hl hH hn hdm hs hS
  subst hb
  subst hq
  exact lv_icmp_lt hC.1 hC.2.1 hd ht (fun h => kt (iI_lt_t ha hbb h) D p l e s m args below meth c H locs ls Q hC hX hl hH hn hdm hs hS) (fun h => kf (iI_lt_f ha hbb h) D p l e s m args below meth c H locs ls Q hC hX hl hH hn hdm hs hS)
theorem r_if_lt {S : PS} {cc : ByteArray} {pc : Nat} {lv : List (Nat × Value)} {st : List Value} {w : PW} {n ce sl : Nat} {a off : Int} (hb : S.1.1 = cc) (q tgt : Nat) (hd : decode cc pc = .ok (.ifCond .lt off, 3)) (hq : pc + 3 = q) (ht : (pc : Int) + off = (tgt : Int)) (ha : (-2147483648 ≤ a ∧ a < 2147483648)) (kt : a < 0 → Wp S tgt lv st w n ce sl) (kf : 0 ≤ a → Wp S q lv st w n ce sl) : Wp S pc lv (.int (iI a) :: st) w n ce sl := by
  intro D p l e s m args below meth c H locs ls Q hC hX hl hH hn hdm hs hS
  subst hb
  subst hq
  exact lv_if_lt hC.1 hC.2.1 hd ht (fun h => kt (iI_lt_t ha (by decide) h) D p l e s m args below meth c H locs ls Q hC hX hl hH hn hdm hs hS) (fun h => kf (iI_lt_f ha (by decide) h) D p l e s m args below meth c H locs ls Q hC hX hl hH hn hdm hs hS)
theorem r_icmp_ge {S : PS} {cc : ByteArray} {pc : Nat} {lv : List (Nat × Value)} {st : List Value} {w : PW} {n ce sl : Nat} {a b off : Int} (hb : S.1.1 = cc) (q tgt : Nat) (hd : decode cc pc = .ok (.if_icmp .ge off, 3)) (hq : pc + 3 = q) (ht : (pc : Int) + off = (tgt : Int)) (ha : (-2147483648 ≤ a ∧ a < 2147483648)) (hbb : (-2147483648 ≤ b ∧ b < 2147483648)) (kt : b ≤ a → Wp S tgt lv st w n ce sl) (kf : a < b → Wp S q lv st w n ce sl) : Wp S pc lv (.int (iI b) :: .int (iI a) :: st) w n ce sl := by
  intro D p l e s m args below meth c H locs ls Q hC hX hl hH hn hdm hs hS
  subst hb
  subst hq
  exact lv_icmp_ge hC.1 hC.2.1 hd ht (fun h => kt (iI_ge_t ha hbb h) D p l e s m args below meth c H locs ls Q hC hX hl hH hn hdm hs hS) (fun h => kf (iI_ge_f ha hbb h) D p l e s m args below meth c H locs ls Q hC hX hl hH hn hdm hs hS)
theorem r_if_ge {S : PS} {cc : ByteArray} {pc : Nat} {lv : List (Nat × Value)} {st : List Value} {w : PW} {n ce sl : Nat} {a off : Int} (hb : S.1.1 = cc) (q tgt : Nat) (hd : decode cc pc = .ok (.ifCond .ge off, 3)) (hq : pc + 3 = q) (ht : (pc : Int) + off = (tgt : Int)) (ha : (-2147483648 ≤ a ∧ a < 2147483648)) (kt : 0 ≤ a → Wp S tgt lv st w n ce sl) (kf : a < 0 → Wp S q lv st w n ce sl) : Wp S pc lv (.int (iI a) :: st) w n ce sl := by
  intro D p l e s m args below meth c H locs ls Q hC hX hl hH hn hdm hs hS
  subst hb
  subst hq
  exact lv_if_ge hC.1 hC.2.1 hd ht (fun h => kt (iI_ge_t ha (by decide) h) D p l e s m args below meth c H locs ls Q hC hX hl hH hn hdm hs hS) (fun h => kf (iI_ge_f ha (by decide) h) D p l e s m args below meth c H locs ls Q hC hX hl hH hn hdm hs hS)
theorem r_icmp_gt {S : PS} {cc : ByteArray} {pc : Nat} {lv : List (Nat × Value)} {st : List Value} {w : PW} {n ce sl : Nat} {a b off : Int} (hb : S.1.1 = cc) (q tgt : Nat) (hd : decode cc pc = .ok (.if_icmp .gt off, 3)) (hq : pc + 3 = q) (ht : (pc : Int) + off = (tgt : Int)) (ha : (-2147483648 ≤ a ∧ a < 2147483648)) (hbb : (-2147483648 ≤ b ∧ b < 2147483648)) (kt : b < a → Wp S tgt lv st w n ce sl) (kf : a ≤ b → Wp S q lv st w n ce sl) : Wp S pc lv (.int (iI b) :: .int (iI a) :: st) w n ce sl := by
  intro D p l e s m args below meth c H locs ls Q hC hX hl hH hn hdm hs hS
  subst hb
  subst hq
  exact lv_icmp_gt hC.1 hC.2.1 hd ht (fun h => kt (iI_gt_t ha hbb h) D p l e s m args below meth c H locs ls Q hC hX hl hH hn hdm hs hS) (fun h => kf (iI_gt_f ha hbb h) D p l e s m args below meth c H locs ls Q hC hX hl hH hn hdm hs hS)
theorem r_if_gt {S : PS} {cc : ByteArray} {pc : Nat} {lv : List (Nat × Value)} {st : List Value} {w : PW} {n ce sl : Nat} {a off : Int} (hb : S.1.1 = cc) (q tgt : Nat) (hd : decode cc pc = .ok (.ifCond .gt off, 3)) (hq : pc + 3 = q) (ht : (pc : Int) + off = (tgt : Int)) (ha : (-2147483648 ≤ a ∧ a < 2147483648)) (kt : 0 < a → Wp S tgt lv st w n ce sl) (kf : a ≤ 0 → Wp S q lv st w n ce sl) : Wp S pc lv (.int (iI a) :: st) w n ce sl := by
  intro D p l e s m args below meth c H locs ls Q hC hX hl hH hn hdm hs hS
  subst hb
  subst hq
  exact lv_if_gt hC.1 hC.2.1 hd ht (fun h => kt (iI_gt_t ha (by decide) h) D p l e s m args below meth c H locs ls Q hC hX hl hH hn hdm hs hS) (fun h => kf (iI_gt_f ha (by decide) h) D p l e s m args below meth c H locs ls Q hC hX hl hH hn hdm hs hS)
theorem r_icmp_le {S : PS} {cc : ByteArray} {pc : Nat} {lv : List (Nat × Value)} {st : List Value} {w : PW} {n ce sl : Nat} {a b off : Int} (hb : S.1.1 = cc) (q tgt : Nat) (hd : decode cc pc = .ok (.if_icmp .le off, 3)) (hq : pc + 3 = q) (ht : (pc : Int) + off = (tgt : Int)) (ha : (-2147483648 ≤ a ∧ a < 2147483648)) (hbb : (-2147483648 ≤ b ∧ b < 2147483648)) (kt : a ≤ b → Wp S tgt lv st w n ce sl) (kf : b < a → Wp S q lv st w n ce sl) : Wp S pc lv (.int (iI b) :: .int (iI a) :: st) w n ce sl := by
  intro D p l e s m args below meth c H locs ls Q hC hX hl hH hn hdm hs hS
  subst hb
  subst hq
  exact lv_icmp_le hC.1 hC.2.1 hd ht (fun h => kt (iI_le_t ha hbb h) D p l e s m args below meth c H locs ls Q hC hX hl hH hn hdm hs hS) (fun h => kf (iI_le_f ha hbb h) D p l e s m args below meth c H locs ls Q hC hX hl hH hn hdm hs hS)
theorem r_if_le {S : PS} {cc : ByteArray} {pc : Nat} {lv : List (Nat × Value)} {st : List Value} {w : PW} {n ce sl : Nat} {a off : Int} (hb : S.1.1 = cc) (q tgt : Nat) (hd : decode cc pc = .ok (.ifCond .le off, 3)) (hq : pc + 3 = q) (ht : (pc : Int) + off = (tgt : Int)) (ha : (-2147483648 ≤ a ∧ a < 2147483648)) (kt : a ≤ 0 → Wp S tgt lv st w n ce sl) (kf : 0 < a → Wp S q lv st w n ce sl) : Wp S pc lv (.int (iI a) :: st) w n ce sl := by
  intro D p l e s m args below meth c H locs ls Q hC hX hl hH hn hdm hs hS
  subst hb
  subst hq
  exact lv_if_le hC.1 hC.2.1 hd ht (fun h => kt (iI_le_t ha (by decide) h) D p l e s m args below meth c H locs ls Q hC hX hl hH hn hdm hs hS) (fun h => kf (iI_le_f ha (by decide) h) D p l e s m args below meth c H locs ls Q hC hX hl hH hn hdm hs hS)
theorem r_icmpR_eq {S : PS} {cc : ByteArray} {pc : Nat} {lv : List (Nat × Value)} {st : List Value} {w : PW} {n ce sl : Nat} {x y : Int32} {off : Int} (hb : S.1.1 = cc) (q tgt : Nat) (hd : decode cc pc = .ok (.if_icmp .eq off, 3)) (hq : pc + 3 = q) (ht : (pc : Int) + off = (tgt : Int)) (kt : x = y → Wp S tgt lv st w n ce sl) (kf : ¬ (x = y) → Wp S q lv st w n ce sl) : Wp S pc lv (.int y :: .int x :: st) w n ce sl := by
  intro D p l e s m args below meth c H locs ls Q hC hX hl hH hn hdm hs hS
  subst hb
  subst hq
  exact lv_icmp_eq hC.1 hC.2.1 hd ht (fun h => kt h D p l e s m args below meth c H locs ls Q hC hX hl hH hn hdm hs hS) (fun h => kf h D p l e s m args below meth c H locs ls Q hC hX hl hH hn hdm hs hS)
theorem r_icmpR_ne {S : PS} {cc : ByteArray} {pc : Nat} {lv : List (Nat × Value)} {st : List Value} {w : PW} {n ce sl : Nat} {x y : Int32} {off : Int} (hb : S.1.1 = cc) (q tgt : Nat) (hd : decode cc pc = .ok (.if_icmp .ne off, 3)) (hq : pc + 3 = q) (ht : (pc : Int) + off = (tgt : Int)) (kt : x ≠ y → Wp S tgt lv st w n ce sl) (kf : x = y → Wp S q lv st w n ce sl) : Wp S pc lv (.int y :: .int x :: st) w n ce sl := by
  intro D p l e s m args below meth c H locs ls Q hC hX hl hH hn hdm hs hS
  subst hb
  subst hq
  exact lv_icmp_ne hC.1 hC.2.1 hd ht (fun h => kt h D p l e s m args below meth c H locs ls Q hC hX hl hH hn hdm hs hS) (fun h => kf h D p l e s m args below meth c H locs ls Q hC hX hl hH hn hdm hs hS)
theorem r_icmpR_lt {S : PS} {cc : ByteArray} {pc : Nat} {lv : List (Nat × Value)} {st : List Value} {w : PW} {n ce sl : Nat} {x y : Int32} {off : Int} (hb : S.1.1 = cc) (q tgt : Nat) (hd : decode cc pc = .ok (.if_icmp .lt off, 3)) (hq : pc + 3 = q) (ht : (pc : Int) + off = (tgt : Int)) (kt : x < y → Wp S tgt lv st w n ce sl) (kf : ¬ (x < y) → Wp S q lv st w n ce sl) : Wp S pc lv (.int y :: .int x :: st) w n ce sl := by
  intro D p l e s m args below meth c H locs ls Q hC hX hl hH hn hdm hs hS
  subst hb
  subst hq
  exact lv_icmp_lt hC.1 hC.2.1 hd ht (fun h => kt h D p l e s m args below meth c H locs ls Q hC hX hl hH hn hdm hs hS) (fun h => kf h D p l e s m args below meth c H locs ls Q hC hX hl hH hn hdm hs hS)
theorem r_icmpR_ge {S : PS} {cc : ByteArray} {pc : Nat} {lv : List (Nat × Value)} {st : List Value} {w : PW} {n ce sl : Nat} {x y : Int32} {off : Int} (hb : S.1.1 = cc) (q tgt : Nat) (hd : decode cc pc = .ok (.if_icmp .ge off, 3)) (hq : pc + 3 = q) (ht : (pc : Int) + off = (tgt : Int)) (kt : y ≤ x → Wp S tgt lv st w n ce sl) (kf : ¬ (y ≤ x) → Wp S q lv st w n ce sl) : Wp S pc lv (.int y :: .int x :: st) w n ce sl := by
  intro D p l e s m args below meth c H locs ls Q hC hX hl hH hn hdm hs hS
  subst hb
  subst hq
  exact lv_icmp_ge hC.1 hC.2.1 hd ht (fun h => kt h D p l e s m args below meth c H locs ls Q hC hX hl hH hn hdm hs hS) (fun h => kf h D p l e s m args below meth c H locs ls Q hC hX hl hH hn hdm hs hS)
theorem r_icmpR_gt {S : PS} {cc : ByteArray} {pc : Nat} {lv : List (Nat × Value)} {st : List Value} {w : PW} {n ce sl : Nat} {x y : Int32} {off : Int} (hb : S.1.1 = cc) (q tgt : Nat) (hd : decode cc pc = .ok (.if_icmp .gt off, 3)) (hq : pc + 3 = q) (ht : (pc : Int) + off = (tgt : Int)) (kt : y < x → Wp S tgt lv st w n ce sl) (kf : ¬ (y < x) → Wp S q lv st w n ce sl) : Wp S pc lv (.int y :: .int x :: st) w n ce sl := by
  intro D p l e s m args below meth c H locs ls Q hC hX hl hH hn hdm hs hS
  subst hb
  subst hq
  exact lv_icmp_gt hC.1 hC.2.1 hd ht (fun h => kt h D p l e s m args below meth c H locs ls Q hC hX hl hH hn hdm hs hS) (fun h => kf h D p l e s m args below meth c H locs ls Q hC hX hl hH hn hdm hs hS)
theorem r_icmpR_le {S : PS} {cc : ByteArray} {pc : Nat} {lv : List (Nat × Value)} {st : List Value} {w : PW} {n ce sl : Nat} {x y : Int32} {off : Int} (hb : S.1.1 = cc) (q tgt : Nat) (hd : decode cc pc = .ok (.if_icmp .le off, 3)) (hq : pc + 3 = q) (ht : (pc : Int) + off = (tgt : Int)) (kt : x ≤ y → Wp S tgt lv st w n ce sl) (kf : ¬ (x ≤ y) → Wp S q lv st w n ce sl) : Wp S pc lv (.int y :: .int x :: st) w n ce sl := by
  intro D p l e s m args below meth c H locs ls Q hC hX hl hH hn hdm hs hS
  subst hb
  subst hq
  exact lv_icmp_le hC.1 hC.2.1 hd ht (fun h => kt h D p l e s m args below meth c H locs ls Q hC hX hl hH hn hdm hs hS) (fun h => kf h D p l e s m args below meth c H locs ls Q hC hX hl hH hn hdm hs hS)
theorem r_ifb_eq {S : PS} {cc : ByteArray} {pc : Nat} {lv : List (Nat × Value)} {st : List Value} {w : PW} {n ce sl : Nat} {b : Bool} {off : Int} (hb : S.1.1 = cc) (q tgt : Nat) (hd : decode cc pc = .ok (.ifCond .eq off, 3)) (hq : pc + 3 = q) (ht : (pc : Int) + off = (tgt : Int)) (kt : b = false → Wp S tgt lv st w n ce sl) (kf : b = true → Wp S q lv st w n ce sl) : Wp S pc lv (.int (bI b) :: st) w n ce sl := by
  intro D p l e s m args below meth c H locs ls Q hC hX hl hH hn hdm hs hS
  subst hb
  subst hq
  exact lv_if_eq hC.1 hC.2.1 hd ht (fun h => kt (bI_eq_t h) D p l e s m args below meth c H locs ls Q hC hX hl hH hn hdm hs hS) (fun h => kf (bI_eq_f h) D p l e s m args below meth c H locs ls Q hC hX hl hH hn hdm hs hS)
theorem r_ifb_ne {S : PS} {cc : ByteArray} {pc : Nat} {lv : List (Nat × Value)} {st : List Value} {w : PW} {n ce sl : Nat} {b : Bool} {off : Int} (hb : S.1.1 = cc) (q tgt : Nat) (hd : decode cc pc = .ok (.ifCond .ne off, 3)) (hq : pc + 3 = q) (ht : (pc : Int) + off = (tgt : Int)) (kt : b = true → Wp S tgt lv st w n ce sl) (kf : b = false → Wp S q lv st w n ce sl) : Wp S pc lv (.int (bI b) :: st) w n ce sl := by
  intro D p l e s m args below meth c H locs ls Q hC hX hl hH hn hdm hs hS
  subst hb
  subst hq
  exact lv_if_ne hC.1 hC.2.1 hd ht (fun h => kt (bI_ne_t h) D p l e s m args below meth c H locs ls Q hC hX hl hH hn hdm hs hS) (fun h => kf (bI_ne_f h) D p l e s m args below meth c H locs ls Q hC hX hl hH hn hdm hs hS)
theorem r_if0_ne {S : PS} {cc : ByteArray} {pc : Nat} {lv : List (Nat × Value)} {st : List Value} {w : PW} {n ce sl : Nat} {x : Int32} {off : Int} (hb : S.1.1 = cc) (q tgt : Nat) (hd : decode cc pc = .ok (.ifCond .ne off, 3)) (hq : pc + 3 = q) (ht : (pc : Int) + off = (tgt : Int)) (kt : ¬ x = 0 → Wp S tgt lv st w n ce sl) (kf : x = 0 → Wp S q lv st w n ce sl) : Wp S pc lv (.int x :: st) w n ce sl := by
  intro D p l e s m args below meth c H locs ls Q hC hX hl hH hn hdm hs hS
  subst hb
  subst hq
  exact lv_if_ne hC.1 hC.2.1 hd ht (fun h => kt h D p l e s m args below meth c H locs ls Q hC hX hl hH hn hdm hs hS) (fun h => kf h D p l e s m args below meth c H locs ls Q hC hX hl hH hn hdm hs hS)
theorem r_if0_eq {S : PS} {cc : ByteArray} {pc : Nat} {lv : List (Nat × Value)} {st : List Value} {w : PW} {n ce sl : Nat} {x : Int32} {off : Int} (hb : S.1.1 = cc) (q tgt : Nat) (hd : decode cc pc = .ok (.ifCond .eq off, 3)) (hq : pc + 3 = q) (ht : (pc : Int) + off = (tgt : Int)) (kt : x = 0 → Wp S tgt lv st w n ce sl) (kf : ¬ x = 0 → Wp S q lv st w n ce sl) : Wp S pc lv (.int x :: st) w n ce sl := by
  intro D p l e s m args below meth c H locs ls Q hC hX hl hH hn hdm hs hS
  subst hb
  subst hq
  exact lv_if_eq hC.1 hC.2.1 hd ht (fun h => kt h D p l e s m args below meth c H locs ls Q hC hX hl hH hn hdm hs hS) (fun h => kf h D p l e s m args below meth c H locs ls Q hC hX hl hH hn hdm hs hS)
theorem r_ifnonnull {S : PS} {cc : ByteArray} {pc : Nat} {lv : List (Nat × Value)} {st : List Value} {w : PW} {n ce sl : Nat} {a : Nat} {off : Int} (hb : S.1.1 = cc) (tgt : Nat) (hd : decode cc pc = .ok (.ifnonnull off, 3)) (ht : (pc : Int) + off = (tgt : Int)) (kk : Wp S tgt lv st w n ce sl) : Wp S pc lv (.ref a :: st) w n ce sl := by
  intro D p l e s m args below meth c H locs ls Q hC hX hl hH hn hdm hs hS
  subst hb
  exact lv_ifnonnull hC.1 hC.2.1 hd ht (kk D p l e s m args below meth c H locs ls Q hC hX hl hH hn hdm hs hS)
theorem r_ifnull {S : PS} {cc : ByteArray} {pc : Nat} {lv : List (Nat × Value)} {st : List Value} {w : PW} {n ce sl : Nat} {a : Nat} {off : Int} (hb : S.1.1 = cc) (q : Nat) (hd : decode cc pc = .ok (.ifnull off, 3)) (hq : pc + 3 = q) (kk : Wp S q lv st w n ce sl) : Wp S pc lv (.ref a :: st) w n ce sl := by
  intro D p l e s m args below meth c H locs ls Q hC hX hl hH hn hdm hs hS
  subst hb
  subst hq
  exact lv_ifnull hC.1 hC.2.1 hd (kk D p l e s m args below meth c H locs ls Q hC hX hl hH hn hdm hs hS)
theorem r_ifnonnullN {S : PS} {cc : ByteArray} {pc : Nat} {lv : List (Nat × Value)} {st : List Value} {w : PW} {n ce sl : Nat} {off : Int} (hb : S.1.1 = cc) (q : Nat) (hd : decode cc pc = .ok (.ifnonnull off, 3)) (hq : pc + 3 = q) (kk : Wp S q lv st w n ce sl) : Wp S pc lv (.null :: st) w n ce sl := by
  intro D p l e s m args below meth c H locs ls Q hC hX hl hH hn hdm hs hS
  subst hb
  subst hq
  exact lv_ifnonnullN hC.1 hC.2.1 hd (kk D p l e s m args below meth c H locs ls Q hC hX hl hH hn hdm hs hS)
theorem r_ifnullN {S : PS} {cc : ByteArray} {pc : Nat} {lv : List (Nat × Value)} {st : List Value} {w : PW} {n ce sl : Nat} {off : Int} (hb : S.1.1 = cc) (tgt : Nat) (hd : decode cc pc = .ok (.ifnull off, 3)) (ht : (pc : Int) + off = (tgt : Int)) (kk : Wp S tgt lv st w n ce sl) : Wp S pc lv (.null :: st) w n ce sl := by
  intro D p l e s m args below meth c H locs ls Q hC hX hl hH hn hdm hs hS
  subst hb
  exact lv_ifnullN hC.1 hC.2.1 hd ht (kk D p l e s m args below meth c H locs ls Q hC hX hl hH hn hdm hs hS)
end
section
/-! rules for fields, arrays, new cells, calls and ends -/
theorem pK.same {D : PD} {u U : State} (h : u.vm = U.vm) (hk : pK D u) : pK D U := by
  refine ⟨va_K.moved (by rw [h]; exact Vm.Alike.refl _) hk.1, fun x hx => ?_⟩
  obtain ⟨-, hn⟩ := List.mem_filter.mp hx
  have h2 := hk.2 x hx
  cases x <;> first | (cases hn; done) | exact va_Nw.same rfl h h2 | skip
  rename_i ty
  cases ty <;> first | (cases hn; done) | exact va_AO.moved (by rw [h]; exact Vm.Alike.refl _) h2
theorem pH.one {D : PD} {w : PW} {H : Heap} {a : Nat} {e : PE} (h : pH D w H) (hw : w a = some e) : va_P (pG D) vwCl [(a, pE D e)] H := by
  intro k q hk
  cases k with
  | zero => cases hk; exact h a e hw
  | succ k => simp at hk
theorem pH.set {D : PD} {w : PW} {H H1 : Heap} {a : Nat} {e : PE} (h : pH D w H) (he : va_at (pG D) vwCl (a, pE D e) H1) (oq : ∀ q : Nat, q ≠ a → H1[q]? = H[q]?) : pH D (pset w a e) H1 := by
  intro b x hb
  by_cases hba : b = a
  · subst hba
    rw [pset_eq] at hb
    cases hb
    exact he
  · rw [pset_ne w e hba] at hb
    exact (h b x hb).kept (oq b hba)
theorem pH.push {D : PD} {w : PW} {H H1 : Heap} {a : Nat} {e : PE} (h : pH D w H) (ha : H.size = a) (he : va_at (pG D) vwCl (a, pE D e) H1) (oq : ∀ q : Nat, q < H.size → H1[q]? = H[q]?) : pH D (pset w a e) H1 := by
  intro b x hb
  by_cases hba : b = a
  · subst hba
    rw [pset_eq] at hb
    cases hb
    exact he
  · rw [pset_ne w e hba] at hb
    exact (h b x hb).kept (oq b (h b x hb).lt)
theorem pset_dom {w : PW} {a : Nat} {e : PE} {A : Nat → Prop} (h : ∀ q, (w q).isSome = true → A q) (ha : A a) : ∀ q, (pset w a e q).isSome = true → A q := by
  intro q hq
  by_cases hqa : q = a
  · rw [hqa]; exact ha
  · rw [pset_ne w e hqa] at hq
    exact h q hq
/-- field k of the class of number ci: its type, whether it is final -/
def pFd (ci k : Nat) (q : vw_C) (ty : FieldType) (fin : Bool) : Prop := vwCl[ci]? = some q ∧ (∀ x ∈ u_ws q.1 q.2.1 q.2.2, x ∈ PT) ∧ k < q.2.2 ∧ (q.2.1 k).1 = q.1 ∧ parseFieldDescriptor (q.2.1 k).2.2.1 = some ty ∧ (q.2.1 k).2.2.2 = fin ∧
  (∃ tyf : Nat → FieldType, ∀ j, j < q.2.2 → parseFieldDescriptor (q.2.1 j).2.2.1 = some (tyf j)) ∧ ∀ a, a < q.2.2 → ∀ b, b < q.2.2 → a ≠ b → (q.2.1 a).2.1 ≠ (q.2.1 b).2.1
/-- entry idx of the pool of class own names it -/
def pLk (own : String) (idx : Nat) (q : vw_C) (k : Nat) : Prop := Cond.fieldLink own idx q.1 (q.2.1 k).2.1 (q.2.1 k).2.2.1 ∈ PT ∨ ∃ host, Cond.fieldLinkNest own idx q.1 (q.2.1 k).2.1 (q.2.1 k).2.2.1 host ∈ PN
section PHR
variable {S : PS} {cc : ByteArray} {pc : Nat} {lv : List (Nat × Value)} {st : List Value} {w : PW} {n ce sl : Nat}
theorem r_get {own : String} {idx a ci k : Nat} {qc : vw_C} {ty : FieldType} {fin : Bool} {fs : List Value} {v : Value} (hb : S.1.1 = cc) (ho : S.1.2.1 = own) (q : Nat) (hd : decode cc pc = .ok (.getfield idx, 3)) (hq : pc + 3 = q) (hl0 : pLk own idx qc k) (hf : pFd ci k qc ty fin) (hw : w a = some (eO ci fs)) (hv : fs[k]? = some v)
    (kk : Wp S q lv (v :: st) w n ce sl) : Wp S pc lv (.ref a :: st) w n ce sl := by
  intro D p l e s m args below meth c H locs ls Q hC hX hl hH hn hdm hs hS
  subst hq; subst hb; subst ho
  obtain ⟨f1, f2, f3, f4, -⟩ := hf
  obtain ⟨hx, hcd, hml, hown, hts, hret, hnm, hlk, hK, hN⟩ := id hC
  have hk := kk D p l e s m args below meth c H locs ls Q hC hX hl hH hn hdm hs hS
  rcases hl0 with h | ⟨host, h⟩
  · exact va_get (C := qc.1) (T := qc.2.1) (N := qc.2.2) (ci := ci) hx hcd hts f2 hown hK (hH.one hw) 0 (fs := fs) rfl f1 k f3 (hts _ h) (fun _ h9 => by rw [f4] at h9; exact h9) hv hd hk
  · exact va_getN (C := qc.1) (T := qc.2.1) (N := qc.2.2) (ci := ci) (host := host) hx hcd hts f2 hown hK (hH.one hw) 0 (fs := fs) rfl f1 k f3 (va_Nw.use rfl (hN _ h)) (fun _ h9 => by rw [f4] at h9; exact h9) hv hd hk
theorem r_put {own : String} {idx a ci k : Nat} {qc : vw_C} {ty : FieldType} {fs : List Value} {v : Value} (hb : S.1.1 = cc) (ho : S.1.2.1 = own) (q : Nat) (hd : decode cc pc = .ok (.putfield idx, 3)) (hq : pc + 3 = q) (hl0 : pLk own idx qc k) (hf : pFd ci k qc ty false) (hw : w a = some (eO ci fs)) (hkl : k < fs.length) (hty : narrow ty v = v ∧ fits ty v = true)
    (kk : ∀ w1, w1 = pset w a (eO ci (fs.set k v)) → Wp S q lv st w1 n ce sl) : Wp S pc lv (v :: .ref a :: st) w n ce sl := by
  intro D p l e s m args below meth c H locs ls Q hC hX hl hH hn hdm hs hS
  subst hq; subst hb; subst ho
  obtain ⟨f1, f2, f3, f4, f5, f6, ⟨tyf, f7⟩, f8⟩ := hf
  obtain ⟨hx, hcd, hml, hown, hts, hret, hnm, hlk, hK, hN⟩ := id hC
  have hA : S.2.2.1 a := hdm a (by rw [hw]; rfl)
  have hap := va_apart (own := S.1.2.1) (C := qc.1) (T := qc.2.1) (N := qc.2.2) hts f2 tyf f7 f8 hK f1
  obtain ⟨r, h1, cell, q1, q2, q3, q4⟩ := hH a _ hw
  have hr : r = (qc.1, qc.2.1, qc.2.2) := Option.some.inj (h1.symm.trans f1)
  subst hr
  obtain ⟨hSl, hfc, kC, hkC, hkind⟩ := hK.1 ci _ f1
  obtain ⟨cf, kf, fi, f, hi, hsl⟩ := hSl k f3
  have hlay := hts _ (f2 _ (u_in_lay f3))
  unfold u_lay at hlay
  rw [if_neg (by rw [f6]; decide)] at hlay
  have hst := (u_facts hfc hkC (u_lays hts f2 f3) hi).1
  have h6 := u_store hfc hkC hkind hlay hi f5 hty.1 hty.2
  have hi2 := hi
  rw [f4] at hi2
  have key : ∀ H' : Heap, H'[a]? = some (cell.setSlot f.slot v) → H'.size = H.size → (∀ q, q ≠ a → H'[q]? = H[q]?) → W p l e S.2.1 s m args below meth c H' (locs ++ [⟨a, f.slot⟩]) ce sl Q (F0 m (pc + 3) ls st) := by
    intro H' e1 e2 e3
    rw [hsl] at e1 ⊢
    exact kk _ rfl D p l e s m args below meth c H' _ ls Q hC hX hl (hH.set ⟨_, f1, t_OB.to (V := updV (vp_V fs) k v) ⟨_, e1, q2, q3, t_set q4 hap f3 v⟩ (fun j _ => vp_updV_set hkl v j)⟩ e3) (e2.trans hn) (pset_dom hdm hA) hs (hS.put e2 e3 hA)
  rcases hl0 with h | ⟨host, h⟩
  · exact W.putK hx hcd (f := f) ⟨hown, hts _ h, ⟨_, _, _, hi2⟩, hst⟩ (by rw [q2]; exact h6) q1 q3 (by rw [hsl]; exact k2_hasslot (q4 k f3)) rfl rfl hd key
  · exact va_WputK hx hcd (f := f) hown (va_Nw.use rfl (hN _ h)) hi2 hst (by rw [q2]; exact h6) q1 q3 (by rw [hsl]; exact k2_hasslot (q4 k f3)) rfl rfl hd key
theorem r_putF {own : String} {idx a ci k : Nat} {qc : vw_C} {ty : FieldType} {fs : List Value} {v : Value} (hb : S.1.1 = cc) (ho : S.1.2.1 = own) (hname : S.1.2.2.2.2 = "<init>") (hoc : qc.1 = own) (q : Nat) (hd : decode cc pc = .ok (.putfield idx, 3)) (hq : pc + 3 = q) (hl0 : Cond.fieldLink own idx qc.1 (qc.2.1 k).2.1 (qc.2.1 k).2.2.1 ∈ PT) (hf : pFd ci k qc ty true) (hw : w a = some (eO ci fs)) (hkl : k < fs.length) (hty : narrow ty v = v ∧ fits ty v = true)
    (kk : ∀ w1, w1 = pset w a (eO ci (fs.set k v)) → Wp S q lv st w1 n ce sl) : Wp S pc lv (v :: .ref a :: st) w n ce sl := by
  intro D p l e s m args below meth c H locs ls Q hC hX hl hH hn hdm hs hS
  subst hq; subst hb; subst ho
  obtain ⟨f1, f2, f3, f4, f5, f6, ⟨tyf, f7⟩, f8⟩ := hf
  obtain ⟨hx, hcd, hml, hown, hts, hret, hnm, hlk, hK, hN⟩ := id hC
  have hA : S.2.2.1 a := hdm a (by rw [hw]; rfl)
  have hap := va_apart (own := S.1.2.1) (C := qc.1) (T := qc.2.1) (N := qc.2.2) hts f2 tyf f7 f8 hK f1
  obtain ⟨r, h1, cell, q1, q2, q3, q4⟩ := hH a _ hw
  have hr : r = (qc.1, qc.2.1, qc.2.2) := Option.some.inj (h1.symm.trans f1)
  subst hr
  obtain ⟨hSl, hfc, kC, hkC, hkind⟩ := hK.1 ci _ f1
  obtain ⟨cf, kf, fi, f, hi, hsl⟩ := hSl k f3
  have hlay := hts _ (f2 _ (u_in_lay f3))
  unfold u_lay at hlay
  rw [if_pos f6] at hlay
  have hst := (u_facts hfc hkC (u_lays hts f2 f3) hi).1
  have hcf : m.cls = cf := by
    obtain ⟨_, _, c', _, _, _, -, -, hf', -, -, -, hown2, -⟩ := Cond.laysFinal_spec hlay
    have e1 : c' = cf := by have := hi.symm.trans hf'; simp at this; exact this.1.symm
    rw [f4, hoc] at hown2
    rw [← e1]; exact Option.some.inj (hown.symm.trans hown2)
  have h6 := u_fits hfc hkC hkind (Or.inr hlay) hi f5 hty.1 hty.2
  have hi2 := hi
  rw [f4] at hi2
  refine W.putFinK hx hcd hown (hts _ hl0) hi2 hst hcf (hnm.trans hname) (by rw [q2]; exact h6) q1 q3 (by rw [hsl]; exact k2_hasslot (q4 k f3)) rfl rfl hd fun H' e1 e2 e3 => ?_
  rw [hsl] at e1 ⊢
  exact kk _ rfl D p l e s m args below meth c H' _ ls Q hC hX hl (hH.set ⟨_, f1, t_OB.to (V := updV (vp_V fs) k v) ⟨_, e1, q2, q3, t_set q4 hap f3 v⟩ (fun j _ => vp_updV_set hkl v j)⟩ e3) (e2.trans hn) (pset_dom hdm hA) hs (hS.put e2 e3 hA)
theorem r_alen {a k : Nat} {x : vp_A} (hb : S.1.1 = cc) (q : Nat) (hd : decode cc pc = .ok (.arraylength, 1)) (hq : pc + 1 = q) (hw : w a = some (.inl (k, x))) (hk5 : k < 5) (z : Int) (hz : (x.1 : Int) = z) (kk : Wp S q lv (.int (iI z) :: st) w n ce sl) : Wp S pc lv (.ref a :: st) w n ce sl := by
  intro D p l e s m args below meth c H locs ls Q hC hX hl hH hn hdm hs hS
  subst hq; subst hb; subst hz
  obtain ⟨hx, hcd, hml, hown, hts, hret, hnm, hlk, hK, hN⟩ := id hC
  have hk := kk D p l e s m args below meth c H locs ls Q hC hX hl hH hn hdm hs hS
  rw [iI_nat] at hk
  have hP := hH.one hw
  have h5 : k = 0 ∨ k = 1 ∨ k = 2 ∨ k = 3 ∨ k = 4 := by omega
  rcases h5 with rfl | rfl | rfl | rfl | rfl
  · exact va_alen hx hcd hK hP 0 0 rfl rfl rfl hd hk
  · exact va_alen hx hcd hK hP 0 1 rfl rfl rfl hd hk
  · exact va_alen hx hcd hK hP 0 2 rfl rfl rfl hd hk
  · exact va_alen hx hcd hK hP 0 3 rfl rfl rfl hd hk
  · exact va_alen hx hcd hK hP 0 4 rfl rfl rfl hd hk
theorem r_iald {a N : Nat} {f : Nat → Int32} {z : Int} (hb : S.1.1 = cc) (q : Nat) (hd : decode cc pc = .ok (.iaload, 1)) (hq : pc + 1 = q) (hw : w a = some (eI N f)) (j : Nat) (hz : z = (j : Int)) (hj : j < N ∧ N < 2147483648) (kk : Wp S q lv (.int (f j) :: st) w n ce sl) : Wp S pc lv (.int (iI z) :: .ref a :: st) w n ce sl := by
  intro D p l e s m args below meth c H locs ls Q hC hX hl hH hn hdm hs hS
  subst hq; subst hb; subst hz
  obtain ⟨hx, hcd, hml, hown, hts, hret, hnm, hlk, hK, hN⟩ := id hC
  refine va_iald hx hcd hK (hH.one hw) 0 0 rfl rfl (iI_vpin hj.1 hj.2) hd ?_
  rw [iI_clamp (by omega)]
  exact kk D p l e s m args below meth c H locs ls Q hC hX hl hH hn hdm hs hS
theorem r_zald {a N : Nat} {f : Nat → Int32} {z : Int} (hb : S.1.1 = cc) (q : Nat) (hd : decode cc pc = .ok (.baload, 1)) (hq : pc + 1 = q) (hw : w a = some (eZ N f)) (j : Nat) (hz : z = (j : Int)) (hj : j < N ∧ N < 2147483648) (kk : Wp S q lv (.int (f j) :: st) w n ce sl) : Wp S pc lv (.int (iI z) :: .ref a :: st) w n ce sl := by
  intro D p l e s m args below meth c H locs ls Q hC hX hl hH hn hdm hs hS
  subst hq; subst hb; subst hz
  obtain ⟨hx, hcd, hml, hown, hts, hret, hnm, hlk, hK, hN⟩ := id hC
  refine va_zald hx hcd hK (hH.one hw) 0 1 rfl rfl (iI_vpin hj.1 hj.2) hd ?_
  rw [iI_clamp (by omega)]
  exact kk D p l e s m args below meth c H locs ls Q hC hX hl hH hn hdm hs hS
theorem r_aald {a k N : Nat} {f : Nat → Option Nat} {z : Int} (hb : S.1.1 = cc) (q : Nat) (hd : decode cc pc = .ok (.aaload, 1)) (hq : pc + 1 = q) (hw : w a = some (eQ k N f)) (hk5 : 2 ≤ k ∧ k < 5) (j : Nat) (hz : z = (j : Int)) (hj : j < N ∧ N < 2147483648) (b : Nat) (hf : f j = some b) (kk : Wp S q lv (.ref b :: st) w n ce sl) : Wp S pc lv (.int (iI z) :: .ref a :: st) w n ce sl := by
  intro D p l e s m args below meth c H locs ls Q hC hX hl hH hn hdm hs hS
  subst hq; subst hb; subst hz
  obtain ⟨hx, hcd, hml, hown, hts, hret, hnm, hlk, hK, hN⟩ := id hC
  have hk := kk D p l e s m args below meth c H locs ls Q hC hX hl hH hn hdm hs hS
  have hk2 : W p l e S.2.1 s m args below meth c H locs ce sl Q (F0 m (pc + 1) ls (va_rf (f (iI (j : Int)).toNatClampNeg) :: st)) := by
    rw [iI_clamp (by omega), hf]
    exact hk
  have hP := hH.one hw
  have h5 : k = 2 ∨ k = 3 ∨ k = 4 := by omega
  rcases h5 with rfl | rfl | rfl
  · exact va_aldq hx hcd hK hP 0 2 rfl rfl (iI_vpin hj.1 hj.2) hd hk2
  · exact va_aldq hx hcd hK hP 0 3 rfl rfl (iI_vpin hj.1 hj.2) hd hk2
  · exact va_aldq hx hcd hK hP 0 4 rfl rfl (iI_vpin hj.1 hj.2) hd hk2
theorem p_notin {j N : Nat} (h : j < N ∧ N < 2147483648) {cA : ClassId} {g : Nat → Value} : ¬ (iI (j : Int) < 0 ∨ (arrV cA N g).slots.size ≤ (iI (j : Int)).toNatClampNeg) := by
  rw [arrV_size]
  exact iI_vpin h.1 h.2
theorem r_iast {a N : Nat} {f : Nat → Int32} {z : Int} {x : Int32} (hb : S.1.1 = cc) (q : Nat) (hd : decode cc pc = .ok (.iastore, 1)) (hq : pc + 1 = q) (hw : w a = some (eI N f)) (j : Nat) (hz : z = (j : Int)) (hj : j < N ∧ N < 2147483648) (kk : ∀ w1, w1 = pset w a (eI N (upd f j x)) → Wp S q lv st w1 n ce sl) : Wp S pc lv (.int x :: .int (iI z) :: .ref a :: st) w n ce sl := by
  intro D p l e s m args below meth c H locs ls Q hC hX hl hH hn hdm hs hS
  subst hq; subst hb; subst hz
  obtain ⟨hx, hcd, hml, hown, hts, hret, hnm, hlk, hK, hN⟩ := id hC
  have hA : S.2.2.1 a := hdm a (by rw [hw]; rfl)
  have hcell : H[a]? = some (arrV (D.2.2 0) N (fun j => .int (f j))) := hH a _ hw
  refine W.iast hx hcd hcell ((hK.2 0 _ rfl).1 N (fun j => .int (f j))) (fun q => by cases q) (p_notin hj) rfl rfl hd fun H1 e1 z1 oq => ?_
  refine kk _ rfl D p l e s m args below meth c H1 _ ls Q hC hX hl (hH.set ?_ oq) (z1.trans hn) (pset_dom hdm hA) hs (hS.put z1 oq hA)
  show H1[a]? = some (vp_cell _ _)
  rw [e1, iI_clamp (by omega), vp_cell_i, arrV_store]
  congr 2
  funext q
  by_cases hq : q = j
  · subst hq; simp [updV, upd]
  · simp [updV, upd, hq]
theorem r_zast {a N : Nat} {f : Nat → Int32} {z : Int} {x : Int32} (hx01 : narrow .boolean (.int x) = .int x) (hb : S.1.1 = cc) (q : Nat) (hd : decode cc pc = .ok (.bastore, 1)) (hq : pc + 1 = q) (hw : w a = some (eZ N f)) (j : Nat) (hz : z = (j : Int)) (hj : j < N ∧ N < 2147483648) (kk : ∀ w1, w1 = pset w a (eZ N (upd f j x)) → Wp S q lv st w1 n ce sl) : Wp S pc lv (.int x :: .int (iI z) :: .ref a :: st) w n ce sl := by
  intro D p l e s m args below meth c H locs ls Q hC hX hl hH hn hdm hs hS
  subst hq; subst hb; subst hz
  obtain ⟨hx, hcd, hml, hown, hts, hret, hnm, hlk, hK, hN⟩ := id hC
  have hA : S.2.2.1 a := hdm a (by rw [hw]; rfl)
  have hcell : H[a]? = some (arrV (D.2.2 1) N (fun j => .int (f j))) := hH a _ hw
  refine W.zast hx hcd hcell ((hK.2 1 _ rfl).1 N (fun j => .int (f j))) (fun q => by cases q) (p_notin hj) rfl rfl hd fun H1 e1 z1 oq => ?_
  refine kk _ rfl D p l e s m args below meth c H1 _ ls Q hC hX hl (hH.set ?_ oq) (z1.trans hn) (pset_dom hdm hA) hs (hS.put z1 oq hA)
  show H1[a]? = some (vp_cell _ _)
  rw [e1, hx01, iI_clamp (by omega), vp_cell_i, arrV_store]
  congr 2
  funext q
  by_cases hq : q = j
  · subst hq; simp [updV, upd]
  · simp [updV, upd, hq]
theorem r_aast {a k N b ci : Nat} {qc : vw_C} {fsb : List Value} {f : Nat → Option Nat} {z : Int} (hb : S.1.1 = cc) (q : Nat) (hd : decode cc pc = .ok (.aastore, 1)) (hq : pc + 1 = q) (hw : w a = some (eQ k N f)) (hwb : w b = some (eO ci fsb)) (hci : vwCl[ci]? = some qc) (hkc : (k = 2 ∧ qc.1 = RX0) ∨ (k = 3 ∧ qc.1 = RX3) ∨ (k = 4 ∧ qc.1 = RX4)) (j : Nat) (hz : z = (j : Int)) (hj : j < N ∧ N < 2147483648) (kk : ∀ w1, w1 = pset w a (eQ k N (va_up f j (some b))) → Wp S q lv st w1 n ce sl) : Wp S pc lv (.ref b :: .int (iI z) :: .ref a :: st) w n ce sl := by
  intro D p l e s m args below meth c H locs ls Q hC hX hl hH hn hdm hs hS
  subst hq; subst hb; subst hz
  obtain ⟨hx, hcd, hml, hown, hts, hret, hnm, hlk, hK, hN⟩ := id hC
  have hA : S.2.2.1 a := hdm a (by rw [hw]; rfl)
  have hcell : H[a]? = some (arrV (D.2.2 k) N (fun j => va_rf (f j))) := hH a _ hw
  obtain ⟨r', hr', cellV, g1, g2, g3, -⟩ := hH b _ hwb
  have hcls := (hK.1 ci qc hci).2
  have hRA : va_RA s (D.2.2 k) (.object qc.1) := by
    rcases hkc with ⟨rfl, h⟩ | ⟨rfl, h⟩ | ⟨rfl, h⟩ <;> rw [h]
    · exact (hK.2 2 _ rfl).2
    · exact (hK.2 3 _ rfl).2
    · exact (hK.2 4 _ rfl).2
  obtain ⟨kA, comp, k1, k2, k3, -⟩ := hRA
  have hcomp : comp = D.1 ci := Option.some.inj (k3.symm.trans hcls.1)
  subst hcomp
  obtain ⟨kC, hkC, -⟩ := hcls.2
  have h0 : ¬ (iI (j : Int)) < 0 := fun q => (iI_vpin hj.1 hj.2) (Or.inl q)
  have hjs : (iI (j : Int)).toNatClampNeg < (arrV (D.2.2 k) N (fun j => va_rf (f j))).slots.size := by rw [arrV_size, iI_clamp (by omega)]; exact hj.1
  refine W.aast hx hcd hcell (fun q h => by cases h) (fun h => by cases h) k1 k2 rfl hkC ⟨h0, hjs⟩ g1 (fun q h => by rw [g3] at h; cases h) (by rw [g2]; exact hkC) (by rw [g2]; exact va_assign hcls) rfl rfl hd fun H1 e1 z1 oq => ?_
  refine kk _ rfl D p l e s m args below meth c H1 _ ls Q hC hX hl (hH.set ?_ oq) (z1.trans hn) (pset_dom hdm hA) hs (hS.put z1 oq hA)
  show H1[a]? = some (vp_cell _ _)
  rw [e1, iI_clamp (by omega), vp_cell_q, arrV_store]
  congr 2
  funext q
  by_cases hq : q = j
  · subst hq; simp [updV, va_up, va_rf]
  · simp [updV, va_up, hq]
/-- what a new object of the class of number ci holds -/
def pNw (own : String) (idx ci : Nat) (q : vw_C) (fs : List Value) : Prop := vwCl[ci]? = some q ∧ (∀ x ∈ u_ws q.1 q.2.1 q.2.2, x ∈ PT) ∧ (∃ tyf : Nat → FieldType, (∀ j, j < q.2.2 → parseFieldDescriptor (q.2.1 j).2.2.1 = some (tyf j)) ∧ ∀ j, j < q.2.2 → defaultValue (tyf j) = vp_V fs j) ∧
  Cond.classLink own idx q.1 ∈ PT ∧ Cond.instantiable q.1 q.2.2 ∈ PT ∧ Cond.initialized q.1 ∈ PT
theorem r_new {own : String} {idx ci : Nat} {qc : vw_C} {fs : List Value} (hb : S.1.1 = cc) (ho : S.1.2.1 = own) (q : Nat) (hd : decode cc pc = .ok (.new idx, 3)) (hq : pc + 3 = q) (hN0 : pNw own idx ci qc fs) (hce : ce + 1 ≤ S.2.1.cells) (hsl : sl + qc.2.2 ≤ S.2.1.slots)
    (kk : ∀ w1, w1 = pset w n (eO ci fs) → Wp S q lv (.ref n :: st) w1 (n + 1) (ce + 1) (sl + qc.2.2)) : Wp S pc lv st w n ce sl := by
  intro D p l e s m args below meth c H locs ls Q hC hX hl hH hn hdm hs hS
  subst hq; subst hb; subst ho
  obtain ⟨f1, f2, ⟨tyf, f3, f4⟩, f5, f6, f7⟩ := hN0
  obtain ⟨hx, hcd, hml, hown, hts, hret, hnm, hlk, hK, hN⟩ := id hC
  have hKn := hK.1 ci _ f1
  refine W.newcK hx hcd hown (hts _ f5) (hts _ f6) (hts _ f7) rfl hd hce hsl hKn.2.1 hn fun H1 kC hkC e1 z1 o1 => ?_
  refine kk _ rfl D p l e s m args below meth c H1 locs ls Q hC hX hl (hH.push hn ⟨_, f1, (u_born tyf hts f2 hKn hkC e1 f3).to f4⟩ (fun q hq => o1 q (by omega))) z1 (pset_dom hdm (hs _ (by rw [← hn]; exact hS.1))) hs ⟨Nat.le_trans hS.1 (by omega), fun x h1 h2 => (o1 x (by have := hS.1; omega)).trans (hS.2.1 x h1 h2), hS.2.2⟩
theorem p_newarr {k N : Nat} {ty : FieldType} {at0 : ArrayType} (x : (Nat → Int32) ⊕ (Nat → Int64) ⊕ (Nat → UInt32) ⊕ (Nat → UInt64) ⊕ (Nat → Option Nat)) (hb : S.1.1 = cc) (q : Nat) (hd : decode cc pc = .ok (.newarray at0, 2)) (hq : pc + 2 = q) (hty : newarray.typeOf at0 = ty) (hT : ∀ D : PD, (pT D)[k]? = some (D.2.2 k, ty)) (hra : ∀ (s : State) (cA : ClassId), va_RA s cA ty → s.vm.findClass ("[" ++ ty.toString) = some cA) (hac : Cond.arrayClass ty ∈ PT)
    (hx0 : ∀ cA : ClassId, vp_cell cA (N, x) = arrV cA N (fun _ => defaultValue ty)) {z : Int} (hz : z = (N : Int)) (hN2 : N < 2147483647) (hbytes : N * componentBytes ty ≤ 536870912) (hce : ce + 1 ≤ S.2.1.cells) (hsl : sl + N ≤ S.2.1.slots)
    (kk : ∀ w1, w1 = pset w n (.inl (k, N, x)) → Wp S q lv (.ref n :: st) w1 (n + 1) (ce + 1) (sl + N)) : Wp S pc lv (.int (iI z) :: st) w n ce sl := by
  intro D p l e s m args below meth c H locs ls Q hC hX hl hH hn hdm hs hS
  subst hq; subst hb; subst hz; subst hty
  obtain ⟨hx, hcd, hml, hown, hts, hret, hnm, hlk, hK, hN⟩ := id hC
  refine va_newaK (N := N) hx hcd (hts _ hac) rfl hd rfl (fun h => (iI_vpin (N := N + 1) (j := N) (by omega) (by omega) : vp_in _ _) (Or.inl h)) (iI_clamp (by omega)) hbytes hce hsl hn fun H1 cA e1 z1 o1 hAr hNm => ?_
  have hcA : cA = D.2.2 k := Option.some.inj (hNm.symm.trans (hra s _ (hK.2 k _ (hT D)).2))
  subst hcA
  refine kk _ rfl D p l e s m args below meth c H1 locs ls Q hC hX hl (hH.push hn ?_ (fun q hq => o1 q (by omega))) z1 (pset_dom hdm (hs _ (by rw [← hn]; exact hS.1))) hs ⟨Nat.le_trans hS.1 (by omega), fun x h1 h2 => (o1 x (by have := hS.1; omega)).trans (hS.2.1 x h1 h2), hS.2.2⟩
  show H1[n]? = some (vp_cell _ _)
  rw [hx0]
  exact e1
theorem r_newI {N : Nat} {z : Int} (hb : S.1.1 = cc) (q : Nat) (hd : decode cc pc = .ok (.newarray .int, 2)) (hq : pc + 2 = q) (hac : Cond.arrayClass .int ∈ PT) (hz : z = (N : Int)) (hN2 : N ≤ 134217728) (hce : ce + 1 ≤ S.2.1.cells) (hsl : sl + N ≤ S.2.1.slots)
    (kk : ∀ w1, w1 = pset w n (eI N (fun _ => 0)) → Wp S q lv (.ref n :: st) w1 (n + 1) (ce + 1) (sl + N)) : Wp S pc lv (.int (iI z) :: st) w n ce sl :=
  p_newarr (k := 0) (ty := .int) (.inl fun _ => 0) hb q hd hq rfl (fun _ => rfl) (fun _ _ h => h) hac (fun _ => rfl) hz (by omega) (by show N * 4 ≤ _; omega) hce hsl kk
theorem r_newZ {N : Nat} {z : Int} (hb : S.1.1 = cc) (q : Nat) (hd : decode cc pc = .ok (.newarray .boolean, 2)) (hq : pc + 2 = q) (hac : Cond.arrayClass .boolean ∈ PT) (hz : z = (N : Int)) (hN2 : N ≤ 134217728) (hce : ce + 1 ≤ S.2.1.cells) (hsl : sl + N ≤ S.2.1.slots)
    (kk : ∀ w1, w1 = pset w n (eZ N (fun _ => 0)) → Wp S q lv (.ref n :: st) w1 (n + 1) (ce + 1) (sl + N)) : Wp S pc lv (.int (iI z) :: st) w n ce sl :=
  p_newarr (k := 1) (ty := .boolean) (.inl fun _ => 0) hb q hd hq rfl (fun _ => rfl) (fun _ _ h => h) hac (fun _ => rfl) hz (by omega) (by show N * 1 ≤ _; omega) hce hsl kk
theorem r_newQ {own C : String} {idx k N : Nat} {z : Int} (hb : S.1.1 = cc) (ho : S.1.2.1 = own) (q : Nat) (hd : decode cc pc = .ok (.anewarray idx, 3)) (hq : pc + 3 = q) (hT : ∀ D : PD, (pT D)[k]? = some (D.2.2 k, .object C)) (hcl : Cond.classLink own idx C ∈ PT) (hao : Cond.arrayOver (.object C) ∈ PN) (hz : z = (N : Int)) (hN2 : N ≤ 134217728) (hce : ce + 1 ≤ S.2.1.cells) (hsl : sl + N ≤ S.2.1.slots)
    (kk : ∀ w1, w1 = pset w n (eQ k N (fun _ => none)) → Wp S q lv (.ref n :: st) w1 (n + 1) (ce + 1) (sl + N)) : Wp S pc lv (.int (iI z) :: st) w n ce sl := by
  intro D p l e s m args below meth c H locs ls Q hC hX hl hH hn hdm hs hS
  subst hq; subst hb; subst hz; subst ho
  obtain ⟨hx, hcd, hml, hown, hts, hret, hnm, hlk, hK, hN⟩ := id hC
  have hcl2 := iI_clamp (j := N) (by omega)
  refine W.anew hx hcd hown (hts _ hcl) (va_AO.use (hN _ hao)) rfl hd rfl (fun h => (iI_vpin (N := N + 1) (j := N) (by omega) (by omega) : vp_in _ _) (Or.inl h)) (by rw [hcl2]; omega) hce (by rw [hcl2]; exact hsl) fun cA kA comp f1 f2 f3 f4 => ?_
  rw [hcl2]
  obtain ⟨kA', comp', g1, g2, g3, g4⟩ := (hK.2 k _ (hT D)).2
  have hcA : cA = D.2.2 k := Option.some.inj (by first | exact f1.symm.trans g4 | exact f4.symm.trans g4)
  subst hcA
  generalize hH1 : H.push ({ cls := D.2.2 k, slots := Array.replicate N .null, vm := .none } : Cell) = H1
  have z1 : H1.size = H.size + 1 := by rw [← hH1, Array.size_push]
  have e1 : H1[H.size]? = some (arrV (D.2.2 k) N (fun _ => .null)) := by rw [← hH1, Array.getElem?_push_size, ← arrV_new]
  have o1 : ∀ q : Nat, q < H.size → H1[q]? = H[q]? := fun q hq => by rw [← hH1, Array.getElem?_push, if_neg (Nat.ne_of_lt hq)]
  rw [hn] at e1 z1
  have hk := kk _ rfl D p l e s m args below meth c H1 locs ls Q hC hX hl (hH.push hn e1 (fun q hq => o1 q (by omega))) z1 (pset_dom hdm (hs _ (by rw [← hn]; exact hS.1))) hs ⟨Nat.le_trans hS.1 (by omega), fun x h1 h2 => (o1 x (by have := hS.1; omega)).trans (hS.2.1 x h1 h2), hS.2.2⟩
  rw [← hn] at hk
  exact hk
theorem r_objInit {own : String} {idx a : Nat} (hb : S.1.1 = cc) (ho : S.1.2.1 = own) (q : Nat) (hd : decode cc pc = .ok (.invokespecial idx, 3)) (hq : pc + 3 = q) (h1 : Cond.methodLink own idx objectInit ∈ PT) (h2 : Cond.instanceMethod objectInit ∈ PT) (h3 : Cond.code objectInit ⟨#[0xb1]⟩ 1 none ∈ PT) (hfr : 1 ≤ S.2.1.frames) (hlo : (st.map fun v => v.category).sum + 12 ≤ S.2.1.locals)
    (kk : Wp S q lv st w n ce sl) : Wp S pc lv (.ref a :: st) w n ce sl := by
  intro D p l e s m args below meth c H locs ls Q hC hX hl hH hn hdm hs hS
  subst hq; subst hb; subst ho
  obtain ⟨hx, hcd, hml, hown, hts, hret, hnm, hlk, hK, hN⟩ := id hC
  exact W.objInit hx hcd hown (hts _ h1) (hts _ h2) (hts _ h3) rfl (by rw [hml]; exact hl.1) rfl hd hfr (by show 2 * 0 + _ + 12 ≤ _; omega) (kk D p l e s m args below meth c H locs ls Q hC hX hl hH hn hdm hs hS)
def pMx (own : String) (idx : Nat) (y : MethodName) (b : ByteArray) (L : Nat) : Prop := Cond.methodLink own idx y ∈ PT ∧ Cond.static y ∈ PT ∧ Cond.initialized "java/lang/Math" ∈ PT ∧ Cond.code y b L (some .int) ∈ PT
theorem r_max {own : String} {idx : Nat} {a b : Int} (hb : S.1.1 = cc) (ho : S.1.2.1 = own) (q : Nat) (hd : decode cc pc = .ok (.invokestatic idx, 3)) (hq : pc + 3 = q) (hM : pMx own idx Lib.Math.max.name Lib.Math.max.code 2) (hfr : 1 ≤ S.2.1.frames) (hlo : (st.map fun v => v.category).sum + 13 ≤ S.2.1.locals) (hce : ce ≤ S.2.1.cells) (hsl : sl ≤ S.2.1.slots) (ha : -2147483648 ≤ a ∧ a < 2147483648) (hbb : -2147483648 ≤ b ∧ b < 2147483648) (z : Int) (hz : (if a < b then b else a) = z)
    (kk : Wp S q lv (.int (iI z) :: st) w n ce sl) : Wp S pc lv (.int (iI b) :: .int (iI a) :: st) w n ce sl := by
  intro D p l e s m args below meth c H locs ls Q hC hX hl hH hn hdm hs hS
  subst hq; subst hb; subst ho; subst hz
  obtain ⟨hx, hcd, hml, hown, hts, hret, hnm, hlk, hK, hN⟩ := id hC
  refine va_mmax hx hcd (by rw [hml]; exact hl.1.symm) hown (hts _ hM.1) (hts _ hM.2.1) (hts _ hM.2.2.1) (hts _ hM.2.2.2) hfr hlo hce hsl hd ?_
  have hk := kk D p l e s m args below meth c H locs ls Q hC hX hl hH hn hdm hs hS
  simp only [iI_cmp_lt ha hbb]
  split <;> rename_i h <;> simp only [h, if_true, if_false] at hk <;> exact hk
theorem r_min {own : String} {idx : Nat} {a b : Int} (hb : S.1.1 = cc) (ho : S.1.2.1 = own) (q : Nat) (hd : decode cc pc = .ok (.invokestatic idx, 3)) (hq : pc + 3 = q) (hM : pMx own idx Lib.Math.min.name Lib.Math.min.code 2) (hfr : 1 ≤ S.2.1.frames) (hlo : (st.map fun v => v.category).sum + 13 ≤ S.2.1.locals) (hce : ce ≤ S.2.1.cells) (hsl : sl ≤ S.2.1.slots) (ha : -2147483648 ≤ a ∧ a < 2147483648) (hbb : -2147483648 ≤ b ∧ b < 2147483648) (z : Int) (hz : (if b < a then b else a) = z)
    (kk : Wp S q lv (.int (iI z) :: st) w n ce sl) : Wp S pc lv (.int (iI b) :: .int (iI a) :: st) w n ce sl := by
  intro D p l e s m args below meth c H locs ls Q hC hX hl hH hn hdm hs hS
  subst hq; subst hb; subst ho; subst hz
  obtain ⟨hx, hcd, hml, hown, hts, hret, hnm, hlk, hK, hN⟩ := id hC
  refine va_mmin hx hcd (by rw [hml]; exact hl.1.symm) hown (hts _ hM.1) (hts _ hM.2.1) (hts _ hM.2.2.1) (hts _ hM.2.2.2) hfr hlo hce hsl hd ?_
  have hk := kk D p l e s m args below meth c H locs ls Q hC hX hl hH hn hdm hs hS
  simp only [iI_cmp_lt hbb ha]
  split <;> rename_i h <;> simp only [h, if_true, if_false] at hk <;> exact hk
theorem r_abs {own : String} {idx : Nat} {a : Int} (hb : S.1.1 = cc) (ho : S.1.2.1 = own) (q : Nat) (hd : decode cc pc = .ok (.invokestatic idx, 3)) (hq : pc + 3 = q) (hM : pMx own idx Lib.Math.abs.name Lib.Math.abs.code 1) (hfr : 1 ≤ S.2.1.frames) (hlo : (st.map fun v => v.category).sum + 13 ≤ S.2.1.locals) (hce : ce ≤ S.2.1.cells) (hsl : sl ≤ S.2.1.slots) (ha : -2147483648 ≤ a ∧ a < 2147483648) (z : Int) (hz : (if 0 ≤ a then a else -a) = z)
    (kk : Wp S q lv (.int (iI z) :: st) w n ce sl) : Wp S pc lv (.int (iI a) :: st) w n ce sl := by
  intro D p l e s m args below meth c H locs ls Q hC hX hl hH hn hdm hs hS
  subst hq; subst hb; subst ho; subst hz
  obtain ⟨hx, hcd, hml, hown, hts, hret, hnm, hlk, hK, hN⟩ := id hC
  refine va_mabs hx hcd (by rw [hml]; exact hl.1.symm) hown (hts _ hM.1) (hts _ hM.2.1) (hts _ hM.2.2.1) (hts _ hM.2.2.2) hfr hlo hce hsl hd ?_
  have hk := kk D p l e s m args below meth c H locs ls Q hC hX hl hH hn hdm hs hS
  have h0 : (0 : Int32) ≤ iI a ↔ 0 ≤ a := iI_cmp_le (a := 0) (b := a) (by decide) ha
  have h1 : (0 : Int32) - iI a = iI (-a) := by rw [show (0 : Int32) = iI 0 from rfl, iI_sub, Int.zero_sub]
  simp only [h0, h1]
  split <;> rename_i h <;> simp only [h, if_true, if_false] at hk <;> exact hk
theorem r_ldc2 {own : String} {idx : Nat} {v : Int64} (hb : S.1.1 = cc) (ho : S.1.2.1 = own) (q : Nat) (hd : decode cc pc = .ok (.ldc2_w idx, 3)) (hq : pc + 3 = q) (h1 : Cond.constantLong own idx v ∈ PT) (kk : Wp S q lv (.long v :: st) w n ce sl) : Wp S pc lv st w n ce sl := by
  intro D p l e s m args below meth c H locs ls Q hC hX hl hH hn hdm hs hS
  subst hq; subst hb; subst ho
  obtain ⟨hx, hcd, hml, hown, hts, hret, hnm, hlk, hK, hN⟩ := id hC
  exact lv_ldc2 hx hcd hown (hts _ h1) hd (kk D p l e s m args below meth c H locs ls Q hC hX hl hH hn hdm hs hS)
/-! ends -/
section PRET
variable {b : ByteArray} {own name : String} {nL : Nat} {ret : Option FieldType} {rm : Room} {A : Nat → Prop} {Q : Option Value → PW → Nat → Prop}
theorem r_iret {v : Int32} {ty : FieldType} (hS0 : S = mS b own nL ret name rm A Q) (hd : decode b pc = .ok (.ireturn, 1)) (hr : ret = some ty) (hnw : narrow ty (.int v) = .int v) (hce : ce ≤ rm.cells) (hsl : sl ≤ rm.slots) (hq : Q (some (.int v)) w n) : Wp S pc lv [.int v] w n ce sl := by
  intro D p l e s m args below meth c H locs ls Q' hC hX hl hH hn hdm hs hS
  subst hS0
  obtain ⟨hx, hcd, hml, hown, hts, hret, hnm, hlk, hK⟩ := id hC
  cases hX
  refine W.widen hce hsl ?_
  exact W.zret hx hcd (hret.trans hr) hnw (fun t ht hW => ⟨⟨_, w, rfl, by rw [ht, hn]; exact hq, by rw [ht]; exact hH, hdm, pK.moved hW hK⟩, hS.F ht⟩) hS.2.2 hd hlk
theorem r_lret {v : Int64} (hS0 : S = mS b own nL ret name rm A Q) (hd : decode b pc = .ok (.lreturn, 1)) (hr : ret = some .long) (hce : ce ≤ rm.cells) (hsl : sl ≤ rm.slots) (hq : Q (some (.long v)) w n) : Wp S pc lv [.long v] w n ce sl := by
  intro D p l e s m args below meth c H locs ls Q' hC hX hl hH hn hdm hs hS
  subst hS0
  obtain ⟨hx, hcd, hml, hown, hts, hret, hnm, hlk, hK⟩ := id hC
  cases hX
  refine W.widen hce hsl ?_
  exact W.lret hx hcd (hret.trans hr) (fun t ht hW => ⟨⟨_, w, rfl, by rw [ht, hn]; exact hq, by rw [ht]; exact hH, hdm, pK.moved hW hK⟩, hS.F ht⟩) hS.2.2 hd hlk
theorem r_vret (hS0 : S = mS b own nL ret name rm A Q) (hd : decode b pc = .ok (.return_, 1)) (hr : ret = none) (hce : ce ≤ rm.cells) (hsl : sl ≤ rm.slots) (hq : Q none w n) : Wp S pc lv [] w n ce sl := by
  intro D p l e s m args below meth c H locs ls Q' hC hX hl hH hn hdm hs hS
  subst hS0
  obtain ⟨hx, hcd, hml, hown, hts, hret, hnm, hlk, hK⟩ := id hC
  cases hX
  refine W.widen hce hsl ?_
  exact W.vret hx hcd (hret.trans hr) (fun t ht hW => ⟨⟨_, w, rfl, by rw [ht, hn]; exact hq, by rw [ht]; exact hH, hdm, pK.moved hW hK⟩, hS.F ht⟩) hS.2.2 hd hlk
theorem r_aret {v : Value} {C : String} (hS0 : S = mS b own nL ret name rm A Q) (hd : decode b pc = .ok (.areturn, 1)) (hr : ret = some (.object C)) (hv : v = .null ∨ ∃ a, v = .ref a) (hce : ce ≤ rm.cells) (hsl : sl ≤ rm.slots) (hq : Q (some v) w n) : Wp S pc lv [v] w n ce sl := by
  intro D p l e s m args below meth c H locs ls Q' hC hX hl hH hn hdm hs hS
  subst hS0
  obtain ⟨hx, hcd, hml, hown, hts, hret, hnm, hlk, hK⟩ := id hC
  cases hX
  refine W.widen hce hsl ?_
  exact W.aret hx hcd (hret.trans hr) (Or.inl ⟨_, rfl⟩) hv (fun t ht hW => ⟨⟨_, w, rfl, by rw [ht, hn]; exact hq, by rw [ht]; exact hH, hdm, pK.moved hW hK⟩, hS.F ht⟩) hS.2.2 hd hlk
end PRET
/-! calls -/
theorem p_call {p : Program} {l : Launch} {e : Env} {R : Room} {s : State} {m : MethodId} {args a : Array Value} {below : List Frame} {meth : Method} {c : Code} {H : Heap} {locs : List Loc} {ls : Array Slot} {st0 rest : List Value} {Q : State → Prop} {D : PD} {A0 A1 : Nat → Prop} {Q1 : Option Value → PW → Nat → Prop} {mc ms : Nat} (hr : va_Run p l e R s m args below meth c H locs ce sl mc ms (F0 m pc ls st0) rest (pQ D A1 Q1 a) A1) (hS : va_S A0 s.heap H locs) (hA : ∀ q, A1 q → A0 q)
    (kk : ∀ (v : Option Value) (w1 : PW) (H1 : Heap) (locs1 : List Loc), Q1 v w1 H1.size → pH D w1 H1 → (∀ a, (w1 a).isSome = true → A1 a) → va_S A0 s.heap H1 locs1 → W p l e R s m args below meth c H1 locs1 (ce + mc) (sl + ms) Q (F0 m (pc + 3) ls (v.toList ++ rest))) : W p l e R s m args below meth c H locs ce sl Q (F0 m pc ls st0) := by
  intro T hT X
  obtain ⟨v, st₀, t, T', L, h0, X', hL, e1, e2, ⟨⟨v', w1, hv, hp, hb, hd1, -⟩, hz, hk⟩, st⟩ := hr T hT X
  cases hv
  rw [h0] at hz hk
  obtain ⟨t2, a1, b1⟩ := kk v w1 T'.heap (locs ++ L) (by rw [e1]; exact hp) (by rw [e1]; exact hb) hd1
    ⟨Nat.le_trans hS.1 (by rw [e1]; exact hz), fun q h1 h2 => by rw [e1, hk q (Nat.lt_of_lt_of_le h1 hS.1) (fun z => h2 (hA q z))]; exact hS.2.1 q h1 h2, fun q hq => by
      rcases List.mem_append.mp hq with h | h
      · exact hS.2.2 q h
      · exact hA _ (hL q h)⟩ T' rfl X'
  exact ⟨t2, st t2 a1, b1⟩
def pMt (y : MethodName) (b : ByteArray) (L : Nat) (r : Option FieldType) (k : Nat) : Prop := Cond.code y b L r ∈ PT ∧ Cond.initialized y.cls ∈ PT ∧ (y.cls ≠ "java/lang/invoke/MethodHandle" ∧ y.cls ≠ "java/lang/invoke/VarHandle") ∧ (parseMethodDescriptor y.desc).map (fun d => d.parameters.length) = some k
def pCV (own : String) (idx : Nat) (y : MethodName) (b : ByteArray) (L : Nat) (r : Option FieldType) (k : Nat) : Prop := pMt y b L r k ∧ Cond.methodLink own idx y ∈ PT ∧ Cond.instanceMethod y ∈ PT ∧ Cond.selects y.cls y y ∈ PT
def pCS (own : String) (idx : Nat) (y : MethodName) (b : ByteArray) (L : Nat) (r : Option FieldType) (k : Nat) : Prop := pMt y b L r k ∧ Cond.methodLink own idx y ∈ PT ∧ Cond.static y ∈ PT
def pCN (own : String) (idx : Nat) (y : MethodName) (b : ByteArray) (L : Nat) (k : Nat) : Prop := pMt y b L none k ∧ Cond.methodLink own idx y ∈ PT ∧ Cond.instanceMethod y ∈ PT ∧ y.name = "<init>"
theorem pMt.cb {R : Room} {s : State} {args : Array Value} {own : String} {idx : Nat} {y : MethodName} {b : ByteArray} {L : Nat} {r : Option FieldType} {k : Nat} {rm : Room} (h : pMt y b L r k) (hl : Cond.methodLink own idx y ∈ PT) (hts : ∀ x ∈ PT, x.before args s = true) (hR : rm.frames + 1 ≤ R.frames ∧ 8 + (L + 11) + rm.locals ≤ R.locals) : CallB R s args own idx y b L r (Cond.code y b L r :: PT) rm rm.cells rm.slots k := by
  refine ⟨rfl, rfl, hR.1, hR.2, pay_in hts (PT_cons h.1), List.mem_cons_self, hts _ h.1, hts _ h.2.1, h.2.2.1, fun sig hsig => ?_, hts _ hl⟩
  have h2 := h.2.2.2
  rw [hsig] at h2
  exact (Option.some.inj h2).symm
theorem p_blind {D : PD} {w : PW} {n : Nat} (av : List Value) : FrameBlind (va_Pc av (fun U => U.heap.size = n ∧ pH D w U.heap ∧ pK D U)) := fun a U g mk q => ⟨q.1, q.2.1, q.2.2.1, pK.same (u := U) (U := U.calling g mk a) rfl q.2.2.2⟩
theorem p_pA {S : PS} {s : State} {H : Heap} {locs : List Loc} {w : PW} {n : Nat} (hn : H.size = n) (hdm : ∀ a, (w a).isSome = true → S.2.2.1 a) (hs : ∀ q, s.heap.size ≤ q → S.2.2.1 q) (hS : va_S S.2.2.1 s.heap H locs) : ∀ q, pA w n q → S.2.2.1 q := fun q hq => hq.elim (hdm q) (fun h => hs q (Nat.le_trans hS.1 (by rw [hn]; exact h)))
section PCALL
variable {own : String} {idx : Nat} {y : MethodName} {b : ByteArray} {L : Nat} {r : Option FieldType} {rm : Room} {k a ci : Nat} {As : List Value} {qc : vw_C} {fs : List Value} {st0 : List Value} {Q : Option Value → PW → Nat → Prop}
theorem r_callV (hb : S.1.1 = cc) (ho : S.1.2.1 = own) (q : Nat) (hd : decode cc pc = .ok (.invokevirtual idx, 3)) (hq : pc + 3 = q) (hl0 : pCV own idx y b L r k) (hc : Ctr y b L r rm (.ref a :: As) w n Q) (hk : As.length = k) (hst : st0 = As.reverse ++ .ref a :: st) (hw : w a = some (eO ci fs)) (hci : vwCl[ci]? = some qc) (hqc : qc.1 = y.cls) (hR : rm.frames + 1 ≤ S.2.1.frames ∧ 8 + (L + 11) + rm.locals ≤ S.2.1.locals) (hcat : (st.map fun v => v.category).sum ≤ 8) (hce : ce + rm.cells ≤ S.2.1.cells) (hsl : sl + rm.slots ≤ S.2.1.slots)
    (kk : ∀ v w1 n1, Q v w1 n1 → Wp S q lv (v.toList ++ st) w1 n1 (ce + rm.cells) (sl + rm.slots)) : Wp S pc lv st0 w n ce sl := by
  intro D p l e s m args below meth c H locs ls Q' hC hX hl hH hn hdm hs hS
  subst hq; subst hb; subst ho
  obtain ⟨hx, hcd, hml, hown, hts, hret, hnm, hlk, hK⟩ := id hC
  obtain ⟨m1, m2, m3, m4⟩ := hl0
  obtain ⟨cell, c1, c2, c3⟩ := va_recv hK.1 (hH.one hw) hci (q0 := 0) rfl
  rw [hqc] at c3
  refine p_call (va_runV (C := y.cls) (rest := st) ⟨hx, hcd, hml, hown, hts⟩ (hc l D) ⟨pMt.cb m1 m2 hts hR, hts _ m3, hts _ m4⟩ ⟨p_blind _, ⟨cell, c1, c2, c3⟩, fun U hU hW => ⟨rfl, by rw [hU, hn], by rw [hU]; exact hH, pK.moved hW hK⟩⟩ rfl hk hl.1 hst (lv_room hcat) hd ⟨hce, hsl⟩) hS (p_pA hn hdm hs hS) fun v w1 H1 locs1 g1 g2 g3 g4 => ?_
  exact kk v w1 _ g1 D p l e s m args below meth c H1 locs1 ls Q' hC hX hl g2 rfl (fun q hq => p_pA hn hdm hs hS q (g3 q hq)) hs g4
theorem r_callS (hb : S.1.1 = cc) (ho : S.1.2.1 = own) (q : Nat) (hd : decode cc pc = .ok (.invokestatic idx, 3)) (hq : pc + 3 = q) (hl0 : pCS own idx y b L r k) (hc : Ctr y b L r rm As w n Q) (hk : As.length = k) (hst : st0 = As.reverse ++ st) (hR : rm.frames + 1 ≤ S.2.1.frames ∧ 8 + (L + 11) + rm.locals ≤ S.2.1.locals) (hcat : (st.map fun v => v.category).sum ≤ 8) (hce : ce + rm.cells ≤ S.2.1.cells) (hsl : sl + rm.slots ≤ S.2.1.slots)
    (kk : ∀ v w1 n1, Q v w1 n1 → Wp S q lv (v.toList ++ st) w1 n1 (ce + rm.cells) (sl + rm.slots)) : Wp S pc lv st0 w n ce sl := by
  intro D p l e s m args below meth c H locs ls Q' hC hX hl hH hn hdm hs hS
  subst hq; subst hb; subst ho
  obtain ⟨hx, hcd, hml, hown, hts, hret, hnm, hlk, hK⟩ := id hC
  obtain ⟨m1, m2, m3⟩ := hl0
  refine p_call (va_runS (rest := st) ⟨hx, hcd, hml, hown, hts⟩ (hc l D) ⟨pMt.cb m1 m2 hts hR, hts _ m3⟩ ⟨p_blind _, fun U hU hW => ⟨rfl, by rw [hU, hn], by rw [hU]; exact hH, pK.moved hW hK⟩⟩ rfl hk hl.1 hst (lv_room hcat) hd ⟨hce, hsl⟩) hS (p_pA hn hdm hs hS) fun v w1 H1 locs1 g1 g2 g3 g4 => ?_
  exact kk v w1 _ g1 D p l e s m args below meth c H1 locs1 ls Q' hC hX hl g2 rfl (fun q hq => p_pA hn hdm hs hS q (g3 q hq)) hs g4
theorem r_callN (hb : S.1.1 = cc) (ho : S.1.2.1 = own) (q : Nat) (hd : decode cc pc = .ok (.invokespecial idx, 3)) (hq : pc + 3 = q) (hl0 : pCN own idx y b L k) (hc : Ctr y b L none rm (.ref a :: As) w n Q) (hk : As.length = k) (hst : st0 = As.reverse ++ .ref a :: st) (hR : rm.frames + 1 ≤ S.2.1.frames ∧ 8 + (L + 11) + rm.locals ≤ S.2.1.locals) (hcat : (st.map fun v => v.category).sum ≤ 8) (hce : ce + rm.cells ≤ S.2.1.cells) (hsl : sl + rm.slots ≤ S.2.1.slots)
    (kk : ∀ v w1 n1, Q v w1 n1 → Wp S q lv (v.toList ++ st) w1 n1 (ce + rm.cells) (sl + rm.slots)) : Wp S pc lv st0 w n ce sl := by
  intro D p l e s m args below meth c H locs ls Q' hC hX hl hH hn hdm hs hS
  subst hq; subst hb; subst ho
  obtain ⟨hx, hcd, hml, hown, hts, hret, hnm, hlk, hK⟩ := id hC
  obtain ⟨m1, m2, m3, m4⟩ := hl0
  refine p_call (va_runI (rest := st) ⟨hx, hcd, hml, hown, hts⟩ (hc l D) ⟨pMt.cb m1 m2 hts hR, m4, hts _ m3⟩ ⟨p_blind _, fun U hU hW => ⟨rfl, by rw [hU, hn], by rw [hU]; exact hH, pK.moved hW hK⟩⟩ rfl hk hl.1 hst (lv_room hcat) hd ⟨hce, hsl⟩) hS (p_pA hn hdm hs hS) fun v w1 H1 locs1 g1 g2 g3 g4 => ?_
  exact kk v w1 _ g1 D p l e s m args below meth c H1 locs1 ls Q' hC hX hl g2 rfl (fun q hq => p_pA hn hdm hs hS q (g3 q hq)) hs g4
end PCALL
end PHR
end
