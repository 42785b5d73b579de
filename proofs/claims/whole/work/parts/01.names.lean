-- ===== PART A: goes FIRST, ahead of the names: the tables' words, and 'selects' of the private methods out of them =====
/-- a private method of a class that the tables say can be made, by its rows of tables_1 -/
def lw_okq (q : MethodName × Nat) : Prop := (q.1.cls ≠ "java/lang/invoke/MethodHandle" ∧ q.1.cls ≠ "java/lang/invoke/VarHandle") ∧ Cond.instantiable q.1.cls q.2 ∈ tables_1 ∧ Cond.privateMethod q.1 ∈ tables_1 ∧ Cond.instanceMethod q.1 ∈ tables_1
theorem lw_p0 : lw_okq (⟨"AnchoredComments$History", "dropOldest", "()V"⟩, 2) := ⟨⟨by decide +kernel, by decide +kernel⟩, List.mem_of_getElem? (i := 117) (by decide +kernel), List.mem_of_getElem? (i := 266) (by decide +kernel), List.mem_of_getElem? (i := 267) (by decide +kernel)⟩
theorem lw_p1 : lw_okq (⟨"AnchoredComments", "isPosition", "(I)Z"⟩, 8) := ⟨⟨by decide +kernel, by decide +kernel⟩, List.mem_of_getElem? (i := 13) (by decide +kernel), List.mem_of_getElem? (i := 308) (by decide +kernel), List.mem_of_getElem? (i := 309) (by decide +kernel)⟩
theorem lw_p2 : lw_okq (⟨"AnchoredComments", "isRange", "(III)Z"⟩, 8) := ⟨⟨by decide +kernel, by decide +kernel⟩, List.mem_of_getElem? (i := 13) (by decide +kernel), List.mem_of_getElem? (i := 347) (by decide +kernel), List.mem_of_getElem? (i := 348) (by decide +kernel)⟩
theorem lw_p3 : lw_okq (⟨"AnchoredComments$Finder", "beginRow", "()V"⟩, 5) := ⟨⟨by decide +kernel, by decide +kernel⟩, List.mem_of_getElem? (i := 153) (by decide +kernel), List.mem_of_getElem? (i := 404) (by decide +kernel), List.mem_of_getElem? (i := 405) (by decide +kernel)⟩
theorem lw_p4 : lw_okq (⟨"AnchoredComments$Finder", "takeLetter", "(LAnchoredComments$Text;I)V"⟩, 5) := ⟨⟨by decide +kernel, by decide +kernel⟩, List.mem_of_getElem? (i := 153) (by decide +kernel), List.mem_of_getElem? (i := 409) (by decide +kernel), List.mem_of_getElem? (i := 410) (by decide +kernel)⟩
theorem lw_p5 : lw_okq (⟨"AnchoredComments$Finder", "endOfRow", "(LAnchoredComments$Text;)I"⟩, 5) := ⟨⟨by decide +kernel, by decide +kernel⟩, List.mem_of_getElem? (i := 153) (by decide +kernel), List.mem_of_getElem? (i := 413) (by decide +kernel), List.mem_of_getElem? (i := 414) (by decide +kernel)⟩
theorem lw_p6 : lw_okq (⟨"AnchoredComments$Note", "likeBefore", "(LAnchoredComments$Text;I)I"⟩, 8) := ⟨⟨by decide +kernel, by decide +kernel⟩, List.mem_of_getElem? (i := 53) (by decide +kernel), List.mem_of_getElem? (i := 421) (by decide +kernel), List.mem_of_getElem? (i := 422) (by decide +kernel)⟩
theorem lw_p7 : lw_okq (⟨"AnchoredComments$Note", "likeBehind", "(LAnchoredComments$Text;I)I"⟩, 8) := ⟨⟨by decide +kernel, by decide +kernel⟩, List.mem_of_getElem? (i := 53) (by decide +kernel), List.mem_of_getElem? (i := 426) (by decide +kernel), List.mem_of_getElem? (i := 427) (by decide +kernel)⟩
theorem lw_p8 : lw_okq (⟨"AnchoredComments$Planner", "takeIn", "(LAnchoredComments$Note;)V"⟩, 3) := ⟨⟨by decide +kernel, by decide +kernel⟩, List.mem_of_getElem? (i := 179) (by decide +kernel), List.mem_of_getElem? (i := 442) (by decide +kernel), List.mem_of_getElem? (i := 443) (by decide +kernel)⟩
theorem lw_p9 : lw_okq (⟨"AnchoredComments$Page", "firstTwin", "(I)I"⟩, 4) := ⟨⟨by decide +kernel, by decide +kernel⟩, List.mem_of_getElem? (i := 44) (by decide +kernel), List.mem_of_getElem? (i := 490) (by decide +kernel), List.mem_of_getElem? (i := 491) (by decide +kernel)⟩
theorem lw_p10 : lw_okq (⟨"AnchoredComments", "isLetterIndex", "(I)Z"⟩, 8) := ⟨⟨by decide +kernel, by decide +kernel⟩, List.mem_of_getElem? (i := 13) (by decide +kernel), List.mem_of_getElem? (i := 519) (by decide +kernel), List.mem_of_getElem? (i := 520) (by decide +kernel)⟩
theorem lw_p11 : lw_okq (⟨"AnchoredComments$Page", "rankOf", "(LAnchoredComments$Note;I)I"⟩, 4) := ⟨⟨by decide +kernel, by decide +kernel⟩, List.mem_of_getElem? (i := 44) (by decide +kernel), List.mem_of_getElem? (i := 583) (by decide +kernel), List.mem_of_getElem? (i := 584) (by decide +kernel)⟩
theorem lw_p12 : lw_okq (⟨"AnchoredComments", "mixNote", "(JLAnchoredComments$Note;)J"⟩, 8) := ⟨⟨by decide +kernel, by decide +kernel⟩, List.mem_of_getElem? (i := 13) (by decide +kernel), List.mem_of_getElem? (i := 616) (by decide +kernel), List.mem_of_getElem? (i := 617) (by decide +kernel)⟩
theorem lw_p13 : lw_okq (⟨"AnchoredCommentsModel", "begins", "()V"⟩, 20) := ⟨⟨by decide +kernel, by decide +kernel⟩, List.mem_of_getElem? (i := 620) (by decide +kernel), List.mem_of_getElem? (i := 703) (by decide +kernel), List.mem_of_getElem? (i := 704) (by decide +kernel)⟩
theorem lw_p14 : lw_okq (⟨"AnchoredCommentsModel", "made", "(I)I"⟩, 20) := ⟨⟨by decide +kernel, by decide +kernel⟩, List.mem_of_getElem? (i := 620) (by decide +kernel), List.mem_of_getElem? (i := 716) (by decide +kernel), List.mem_of_getElem? (i := 717) (by decide +kernel)⟩
theorem lw_p15 : lw_okq (⟨"AnchoredCommentsModel", "isPosition", "(I)Z"⟩, 20) := ⟨⟨by decide +kernel, by decide +kernel⟩, List.mem_of_getElem? (i := 620) (by decide +kernel), List.mem_of_getElem? (i := 724) (by decide +kernel), List.mem_of_getElem? (i := 725) (by decide +kernel)⟩
def lw_privs_1 : List (MethodName × Nat) := [(⟨"AnchoredComments$History", "dropOldest", "()V"⟩, 2), (⟨"AnchoredComments", "isPosition", "(I)Z"⟩, 8), (⟨"AnchoredComments", "isRange", "(III)Z"⟩, 8), (⟨"AnchoredComments$Finder", "beginRow", "()V"⟩, 5), (⟨"AnchoredComments$Finder", "takeLetter", "(LAnchoredComments$Text;I)V"⟩, 5), (⟨"AnchoredComments$Finder", "endOfRow", "(LAnchoredComments$Text;)I"⟩, 5), (⟨"AnchoredComments$Note", "likeBefore", "(LAnchoredComments$Text;I)I"⟩, 8), (⟨"AnchoredComments$Note", "likeBehind", "(LAnchoredComments$Text;I)I"⟩, 8), (⟨"AnchoredComments$Planner", "takeIn", "(LAnchoredComments$Note;)V"⟩, 3), (⟨"AnchoredComments$Page", "firstTwin", "(I)I"⟩, 4), (⟨"AnchoredComments", "isLetterIndex", "(I)Z"⟩, 8), (⟨"AnchoredComments$Page", "rankOf", "(LAnchoredComments$Note;I)I"⟩, 4), (⟨"AnchoredComments", "mixNote", "(JLAnchoredComments$Note;)J"⟩, 8), (⟨"AnchoredCommentsModel", "begins", "()V"⟩, 20), (⟨"AnchoredCommentsModel", "made", "(I)I"⟩, 20), (⟨"AnchoredCommentsModel", "isPosition", "(I)Z"⟩, 20)]
theorem lw_r1 : ∀ q ∈ lw_privs_1, lw_okq q := List.forall_mem_cons.mpr ⟨lw_p0, List.forall_mem_cons.mpr ⟨lw_p1, List.forall_mem_cons.mpr ⟨lw_p2, List.forall_mem_cons.mpr ⟨lw_p3, List.forall_mem_cons.mpr ⟨lw_p4, List.forall_mem_cons.mpr ⟨lw_p5, List.forall_mem_cons.mpr ⟨lw_p6, List.forall_mem_cons.mpr ⟨lw_p7, List.forall_mem_cons.mpr ⟨lw_p8, List.forall_mem_cons.mpr ⟨lw_p9, List.forall_mem_cons.mpr ⟨lw_p10, List.forall_mem_cons.mpr ⟨lw_p11, List.forall_mem_cons.mpr ⟨lw_p12, List.forall_mem_cons.mpr ⟨lw_p13, List.forall_mem_cons.mpr ⟨lw_p14, List.forall_mem_cons.mpr ⟨lw_p15, fun _ h => absurd h List.not_mem_nil⟩⟩⟩⟩⟩⟩⟩⟩⟩⟩⟩⟩⟩⟩⟩⟩
theorem lw_p16 : lw_okq (⟨"AnchoredCommentsModel", "quotes", "(I)V"⟩, 20) := ⟨⟨by decide +kernel, by decide +kernel⟩, List.mem_of_getElem? (i := 620) (by decide +kernel), List.mem_of_getElem? (i := 739) (by decide +kernel), List.mem_of_getElem? (i := 740) (by decide +kernel)⟩
theorem lw_p17 : lw_okq (⟨"AnchoredCommentsModel", "quotesPart", "(IIII)V"⟩, 20) := ⟨⟨by decide +kernel, by decide +kernel⟩, List.mem_of_getElem? (i := 620) (by decide +kernel), List.mem_of_getElem? (i := 743) (by decide +kernel), List.mem_of_getElem? (i := 744) (by decide +kernel)⟩
theorem lw_p18 : lw_okq (⟨"AnchoredCommentsModel", "find", "(I)I"⟩, 20) := ⟨⟨by decide +kernel, by decide +kernel⟩, List.mem_of_getElem? (i := 620) (by decide +kernel), List.mem_of_getElem? (i := 751) (by decide +kernel), List.mem_of_getElem? (i := 752) (by decide +kernel)⟩
theorem lw_p19 : lw_okq (⟨"AnchoredCommentsModel", "removes", "(I)V"⟩, 20) := ⟨⟨by decide +kernel, by decide +kernel⟩, List.mem_of_getElem? (i := 620) (by decide +kernel), List.mem_of_getElem? (i := 755) (by decide +kernel), List.mem_of_getElem? (i := 756) (by decide +kernel)⟩
theorem lw_p20 : lw_okq (⟨"AnchoredCommentsModel", "findBest", "(I)Z"⟩, 20) := ⟨⟨by decide +kernel, by decide +kernel⟩, List.mem_of_getElem? (i := 620) (by decide +kernel), List.mem_of_getElem? (i := 767) (by decide +kernel), List.mem_of_getElem? (i := 768) (by decide +kernel)⟩
theorem lw_p21 : lw_okq (⟨"AnchoredCommentsModel", "bestAt", "(II)Z"⟩, 20) := ⟨⟨by decide +kernel, by decide +kernel⟩, List.mem_of_getElem? (i := 620) (by decide +kernel), List.mem_of_getElem? (i := 771) (by decide +kernel), List.mem_of_getElem? (i := 772) (by decide +kernel)⟩
theorem lw_p22 : lw_okq (⟨"AnchoredCommentsModel", "startsLine", "(I)V"⟩, 20) := ⟨⟨by decide +kernel, by decide +kernel⟩, List.mem_of_getElem? (i := 620) (by decide +kernel), List.mem_of_getElem? (i := 775) (by decide +kernel), List.mem_of_getElem? (i := 776) (by decide +kernel)⟩
theorem lw_p23 : lw_okq (⟨"AnchoredCommentsModel", "goesOn", "(II)V"⟩, 20) := ⟨⟨by decide +kernel, by decide +kernel⟩, List.mem_of_getElem? (i := 620) (by decide +kernel), List.mem_of_getElem? (i := 779) (by decide +kernel), List.mem_of_getElem? (i := 780) (by decide +kernel)⟩
theorem lw_p24 : lw_okq (⟨"AnchoredCommentsModel", "scored", "(IIII)I"⟩, 20) := ⟨⟨by decide +kernel, by decide +kernel⟩, List.mem_of_getElem? (i := 620) (by decide +kernel), List.mem_of_getElem? (i := 783) (by decide +kernel), List.mem_of_getElem? (i := 784) (by decide +kernel)⟩
theorem lw_p25 : lw_okq (⟨"AnchoredCommentsModel", "before", "(II)I"⟩, 20) := ⟨⟨by decide +kernel, by decide +kernel⟩, List.mem_of_getElem? (i := 620) (by decide +kernel), List.mem_of_getElem? (i := 787) (by decide +kernel), List.mem_of_getElem? (i := 788) (by decide +kernel)⟩
theorem lw_p26 : lw_okq (⟨"AnchoredCommentsModel", "behind", "(II)I"⟩, 20) := ⟨⟨by decide +kernel, by decide +kernel⟩, List.mem_of_getElem? (i := 620) (by decide +kernel), List.mem_of_getElem? (i := 791) (by decide +kernel), List.mem_of_getElem? (i := 792) (by decide +kernel)⟩
theorem lw_p27 : lw_okq (⟨"AnchoredCommentsModel", "attaches", "(III)V"⟩, 20) := ⟨⟨by decide +kernel, by decide +kernel⟩, List.mem_of_getElem? (i := 620) (by decide +kernel), List.mem_of_getElem? (i := 795) (by decide +kernel), List.mem_of_getElem? (i := 796) (by decide +kernel)⟩
theorem lw_p28 : lw_okq (⟨"AnchoredCommentsModel", "findOrder", "()V"⟩, 20) := ⟨⟨by decide +kernel, by decide +kernel⟩, List.mem_of_getElem? (i := 620) (by decide +kernel), List.mem_of_getElem? (i := 803) (by decide +kernel), List.mem_of_getElem? (i := 804) (by decide +kernel)⟩
theorem lw_p29 : lw_okq (⟨"AnchoredCommentsModel", "findScores", "()V"⟩, 20) := ⟨⟨by decide +kernel, by decide +kernel⟩, List.mem_of_getElem? (i := 620) (by decide +kernel), List.mem_of_getElem? (i := 807) (by decide +kernel), List.mem_of_getElem? (i := 808) (by decide +kernel)⟩
theorem lw_p30 : lw_okq (⟨"AnchoredCommentsModel", "findSums", "()V"⟩, 20) := ⟨⟨by decide +kernel, by decide +kernel⟩, List.mem_of_getElem? (i := 620) (by decide +kernel), List.mem_of_getElem? (i := 811) (by decide +kernel), List.mem_of_getElem? (i := 812) (by decide +kernel)⟩
theorem lw_p31 : lw_okq (⟨"AnchoredCommentsModel", "worth", "(II)I"⟩, 20) := ⟨⟨by decide +kernel, by decide +kernel⟩, List.mem_of_getElem? (i := 620) (by decide +kernel), List.mem_of_getElem? (i := 815) (by decide +kernel), List.mem_of_getElem? (i := 816) (by decide +kernel)⟩
def lw_privs_2 : List (MethodName × Nat) := [(⟨"AnchoredCommentsModel", "quotes", "(I)V"⟩, 20), (⟨"AnchoredCommentsModel", "quotesPart", "(IIII)V"⟩, 20), (⟨"AnchoredCommentsModel", "find", "(I)I"⟩, 20), (⟨"AnchoredCommentsModel", "removes", "(I)V"⟩, 20), (⟨"AnchoredCommentsModel", "findBest", "(I)Z"⟩, 20), (⟨"AnchoredCommentsModel", "bestAt", "(II)Z"⟩, 20), (⟨"AnchoredCommentsModel", "startsLine", "(I)V"⟩, 20), (⟨"AnchoredCommentsModel", "goesOn", "(II)V"⟩, 20), (⟨"AnchoredCommentsModel", "scored", "(IIII)I"⟩, 20), (⟨"AnchoredCommentsModel", "before", "(II)I"⟩, 20), (⟨"AnchoredCommentsModel", "behind", "(II)I"⟩, 20), (⟨"AnchoredCommentsModel", "attaches", "(III)V"⟩, 20), (⟨"AnchoredCommentsModel", "findOrder", "()V"⟩, 20), (⟨"AnchoredCommentsModel", "findScores", "()V"⟩, 20), (⟨"AnchoredCommentsModel", "findSums", "()V"⟩, 20), (⟨"AnchoredCommentsModel", "worth", "(II)I"⟩, 20)]
theorem lw_r2 : ∀ q ∈ lw_privs_2, lw_okq q := List.forall_mem_cons.mpr ⟨lw_p16, List.forall_mem_cons.mpr ⟨lw_p17, List.forall_mem_cons.mpr ⟨lw_p18, List.forall_mem_cons.mpr ⟨lw_p19, List.forall_mem_cons.mpr ⟨lw_p20, List.forall_mem_cons.mpr ⟨lw_p21, List.forall_mem_cons.mpr ⟨lw_p22, List.forall_mem_cons.mpr ⟨lw_p23, List.forall_mem_cons.mpr ⟨lw_p24, List.forall_mem_cons.mpr ⟨lw_p25, List.forall_mem_cons.mpr ⟨lw_p26, List.forall_mem_cons.mpr ⟨lw_p27, List.forall_mem_cons.mpr ⟨lw_p28, List.forall_mem_cons.mpr ⟨lw_p29, List.forall_mem_cons.mpr ⟨lw_p30, List.forall_mem_cons.mpr ⟨lw_p31, fun _ h => absurd h List.not_mem_nil⟩⟩⟩⟩⟩⟩⟩⟩⟩⟩⟩⟩⟩⟩⟩⟩
theorem lw_p32 : lw_okq (⟨"AnchoredCommentsModel", "chosen", "(II)I"⟩, 20) := ⟨⟨by decide +kernel, by decide +kernel⟩, List.mem_of_getElem? (i := 620) (by decide +kernel), List.mem_of_getElem? (i := 819) (by decide +kernel), List.mem_of_getElem? (i := 820) (by decide +kernel)⟩
theorem lw_p33 : lw_okq (⟨"AnchoredCommentsModel", "isLike", "(II)Z"⟩, 20) := ⟨⟨by decide +kernel, by decide +kernel⟩, List.mem_of_getElem? (i := 620) (by decide +kernel), List.mem_of_getElem? (i := 827) (by decide +kernel), List.mem_of_getElem? (i := 828) (by decide +kernel)⟩
theorem lw_p34 : lw_okq (⟨"AnchoredCommentsModel", "isLetter", "(I)Z"⟩, 20) := ⟨⟨by decide +kernel, by decide +kernel⟩, List.mem_of_getElem? (i := 620) (by decide +kernel), List.mem_of_getElem? (i := 843) (by decide +kernel), List.mem_of_getElem? (i := 844) (by decide +kernel)⟩
theorem lw_p35 : lw_okq (⟨"AnchoredCommentsModel", "of", "(II)I"⟩, 20) := ⟨⟨by decide +kernel, by decide +kernel⟩, List.mem_of_getElem? (i := 620) (by decide +kernel), List.mem_of_getElem? (i := 859) (by decide +kernel), List.mem_of_getElem? (i := 860) (by decide +kernel)⟩
theorem lw_p36 : lw_okq (⟨"AnchoredCommentsModel", "distanceOf", "(III)I"⟩, 20) := ⟨⟨by decide +kernel, by decide +kernel⟩, List.mem_of_getElem? (i := 620) (by decide +kernel), List.mem_of_getElem? (i := 879) (by decide +kernel), List.mem_of_getElem? (i := 880) (by decide +kernel)⟩
theorem lw_p37 : lw_okq (⟨"AnchoredCommentsModel", "covers", "(II)Z"⟩, 20) := ⟨⟨by decide +kernel, by decide +kernel⟩, List.mem_of_getElem? (i := 620) (by decide +kernel), List.mem_of_getElem? (i := 899) (by decide +kernel), List.mem_of_getElem? (i := 900) (by decide +kernel)⟩
theorem lw_p38 : lw_okq (⟨"AnchoredCommentsModel", "isBefore", "(II)Z"⟩, 20) := ⟨⟨by decide +kernel, by decide +kernel⟩, List.mem_of_getElem? (i := 620) (by decide +kernel), List.mem_of_getElem? (i := 903) (by decide +kernel), List.mem_of_getElem? (i := 904) (by decide +kernel)⟩
theorem lw_p39 : lw_okq (⟨"AnchoredCommentsModel", "moreOfPart", "(JII)J"⟩, 20) := ⟨⟨by decide +kernel, by decide +kernel⟩, List.mem_of_getElem? (i := 620) (by decide +kernel), List.mem_of_getElem? (i := 928) (by decide +kernel), List.mem_of_getElem? (i := 929) (by decide +kernel)⟩
def lw_privs_3 : List (MethodName × Nat) := [(⟨"AnchoredCommentsModel", "chosen", "(II)I"⟩, 20), (⟨"AnchoredCommentsModel", "isLike", "(II)Z"⟩, 20), (⟨"AnchoredCommentsModel", "isLetter", "(I)Z"⟩, 20), (⟨"AnchoredCommentsModel", "of", "(II)I"⟩, 20), (⟨"AnchoredCommentsModel", "distanceOf", "(III)I"⟩, 20), (⟨"AnchoredCommentsModel", "covers", "(II)Z"⟩, 20), (⟨"AnchoredCommentsModel", "isBefore", "(II)Z"⟩, 20), (⟨"AnchoredCommentsModel", "moreOfPart", "(JII)J"⟩, 20)]
theorem lw_r3 : ∀ q ∈ lw_privs_3, lw_okq q := List.forall_mem_cons.mpr ⟨lw_p32, List.forall_mem_cons.mpr ⟨lw_p33, List.forall_mem_cons.mpr ⟨lw_p34, List.forall_mem_cons.mpr ⟨lw_p35, List.forall_mem_cons.mpr ⟨lw_p36, List.forall_mem_cons.mpr ⟨lw_p37, List.forall_mem_cons.mpr ⟨lw_p38, List.forall_mem_cons.mpr ⟨lw_p39, fun _ h => absurd h List.not_mem_nil⟩⟩⟩⟩⟩⟩⟩⟩
def lw_privs : List (MethodName × Nat) := lw_privs_1 ++ (lw_privs_2 ++ (lw_privs_3))
def lw_tbl : List Cond := k2_sels lw_privs ++ tables_1
theorem lw_privs_ok : ∀ q ∈ lw_privs, lw_okq q := by
  show ∀ q ∈ lw_privs_1 ++ (lw_privs_2 ++ (lw_privs_3)), lw_okq q
  exact List.forall_mem_append.mpr ⟨lw_r1, List.forall_mem_append.mpr ⟨lw_r2, lw_r3⟩⟩
/-! ===== BEGIN words of one list among another's, by their places ===== -/
theorem goodIn_r {big : List Cond} (ws : List Cond) (ps : List Nat) (hp : ws = ps.filterMap (fun i => big[i]?)) (h : ws.all goodWord = true) : GoodIn big ws := by
  intro w hw
  have h1 := List.all_eq_true.mp h w hw
  rw [hp] at hw
  obtain ⟨i, -, hi⟩ := List.mem_filterMap.mp hw
  have hm : w ∈ big := by first | exact List.mem_of_getElem? hi | exact List.getElem?_mem hi
  exact ⟨hm, good_of_word h1⟩
theorem goodIn_app {big a b : List Cond} (ha : GoodIn big a) (hb : GoodIn big b) : GoodIn big (a ++ b) := fun w h => (List.mem_append.mp h).elim (ha w) (hb w)
theorem goodIn_ca {big a b : List Cond} {c : Cond} (ha : GoodIn big (c :: a)) (hb : GoodIn big b) : GoodIn big (c :: (a ++ b)) := fun w h => (List.mem_cons.mp h).elim (fun e => ha w (List.mem_cons.mpr (Or.inl e))) (fun h => (List.mem_append.mp h).elim (fun h => ha w (List.mem_cons.mpr (Or.inr h))) (hb w))
theorem goodIn_sub {big ws : List Cond} (hm : ∀ w ∈ ws, w ∈ big) (h : ws.all goodWord = true) : GoodIn big ws := fun w hw => ⟨hm w hw, good_of_word (List.all_eq_true.mp h w hw)⟩
/-! ===== END ===== -/

/-! ===== BEGIN printed: names, fields, word lists, decode rows ===== -/
def RX0 : String := "AnchoredComments$Choices"
def TX0 : u_T := fun k => match k with
  | 0 => ("AnchoredComments$Choices", "scores", "[I", true)
  | 1 => ("AnchoredComments$Choices", "ends", "[I", true)
  | 2 => ("AnchoredComments$Choices", "sums", "[I", true)
  | _ => ("AnchoredComments$Choices", "size", "I", false)
def tyX0 : Nat → FieldType := fun k => match k with
  | 0 => .array .int
  | 1 => .array .int
  | 2 => .array .int
  | _ => .int
abbrev wsX00 : List Cond := u_ws RX0 TX0 4
theorem nmX0 : ∀ a, a < 4 → ∀ b, b < 4 → a ≠ b → (TX0 a).2.1 ≠ (TX0 b).2.1 := by decide +kernel
theorem tyX0_ok : ∀ k, k < 4 → parseFieldDescriptor (TX0 k).2.2.1 = some (tyX0 k) := by decide +kernel
abbrev cX0_init : ByteArray := prog_2_method_1_code
def yX0_init : MethodName := ⟨RX0, "<init>", "()V"⟩
abbrev cX0_weigh : ByteArray := prog_2_method_2_code
def yX0_weigh : MethodName := ⟨RX0, "weigh", "(LAnchoredComments$Note;LAnchoredComments$Text;ILAnchoredComments$Finder;)V"⟩
abbrev cX0_beNothing : ByteArray := prog_2_method_3_code
def yX0_beNothing : MethodName := ⟨RX0, "beNothing", "()V"⟩
abbrev cX0_addUp : ByteArray := prog_2_method_4_code
def yX0_addUp : MethodName := ⟨RX0, "addUp", "(LAnchoredComments$Choices;)V"⟩
abbrev cX0_sumFrom : ByteArray := prog_2_method_5_code
def yX0_sumFrom : MethodName := ⟨RX0, "sumFrom", "(I)I"⟩
abbrev cX0_endAt : ByteArray := prog_2_method_6_code
def yX0_endAt : MethodName := ⟨RX0, "endAt", "(I)I"⟩
abbrev cX0_choose : ByteArray := prog_2_method_7_code
def yX0_choose : MethodName := ⟨RX0, "choose", "(ILAnchoredComments$Choices;)I"⟩
def RX1 : String := "AnchoredComments$Finder"
def TX1 : u_T := fun k => match k with
  | 0 => ("AnchoredComments$Finder", "row", "[I", true)
  | 1 => ("AnchoredComments$Finder", "bestScore", "I", false)
  | 2 => ("AnchoredComments$Finder", "bestStart", "I", false)
  | 3 => ("AnchoredComments$Finder", "bestEnd", "I", false)
  | _ => ("AnchoredComments$Finder", "endHere", "I", false)
def tyX1 : Nat → FieldType := fun k => match k with
  | 0 => .array .int
  | 1 => .int
  | 2 => .int
  | 3 => .int
  | _ => .int
abbrev wsX10 : List Cond := u_ws RX1 TX1 5
theorem nmX1 : ∀ a, a < 5 → ∀ b, b < 5 → a ≠ b → (TX1 a).2.1 ≠ (TX1 b).2.1 := by decide +kernel
theorem tyX1_ok : ∀ k, k < 5 → parseFieldDescriptor (TX1 k).2.2.1 = some (tyX1 k) := by decide +kernel
abbrev cX1_init : ByteArray := prog_3_method_1_code
def yX1_init : MethodName := ⟨RX1, "<init>", "()V"⟩
abbrev cX1_distanceTo : ByteArray := prog_3_method_2_code
def yX1_distanceTo : MethodName := ⟨RX1, "distanceTo", "(LAnchoredComments$Note;LAnchoredComments$Text;II)I"⟩
abbrev cX1_search : ByteArray := prog_3_method_3_code
def yX1_search : MethodName := ⟨RX1, "search", "(LAnchoredComments$Note;LAnchoredComments$Text;)V"⟩
abbrev cX1_searchAt : ByteArray := prog_3_method_4_code
def yX1_searchAt : MethodName := ⟨RX1, "searchAt", "(LAnchoredComments$Note;LAnchoredComments$Text;I)I"⟩
abbrev cX1_beginRow : ByteArray := prog_3_method_5_code
def yX1_beginRow : MethodName := ⟨RX1, "beginRow", "()V"⟩
abbrev cX1_takeLetter : ByteArray := prog_3_method_6_code
def yX1_takeLetter : MethodName := ⟨RX1, "takeLetter", "(LAnchoredComments$Text;I)V"⟩
abbrev cX1_endOfRow : ByteArray := prog_3_method_7_code
def yX1_endOfRow : MethodName := ⟨RX1, "endOfRow", "(LAnchoredComments$Text;)I"⟩
def RX2 : String := "AnchoredComments$History"
def TX2 : u_T := fun k => match k with
  | 0 => ("AnchoredComments$History", "pages", "[LAnchoredComments$Page;", true)
  | _ => ("AnchoredComments$History", "count", "I", false)
def tyX2 : Nat → FieldType := fun k => match k with
  | 0 => .array (.object "AnchoredComments$Page")
  | _ => .int
abbrev wsX20 : List Cond := u_ws RX2 TX2 2
theorem nmX2 : ∀ a, a < 2 → ∀ b, b < 2 → a ≠ b → (TX2 a).2.1 ≠ (TX2 b).2.1 := by decide +kernel
theorem tyX2_ok : ∀ k, k < 2 → parseFieldDescriptor (TX2 k).2.2.1 = some (tyX2 k) := by decide +kernel
abbrev cX2_init : ByteArray := prog_4_method_1_code
def yX2_init : MethodName := ⟨RX2, "<init>", "()V"⟩
abbrev cX2_record : ByteArray := prog_4_method_2_code
def yX2_record : MethodName := ⟨RX2, "record", "(LAnchoredComments$Page;)V"⟩
abbrev cX2_dropOldest : ByteArray := prog_4_method_3_code
def yX2_dropOldest : MethodName := ⟨RX2, "dropOldest", "()V"⟩
abbrev cX2_stepBack : ByteArray := prog_4_method_4_code
def yX2_stepBack : MethodName := ⟨RX2, "stepBack", "(LAnchoredComments$Page;)V"⟩
def RX3 : String := "AnchoredComments$Note"
def TX3 : u_T := fun k => match k with
  | 0 => ("AnchoredComments$Note", "prefix", "LAnchoredComments$Text;", true)
  | 1 => ("AnchoredComments$Note", "quote", "LAnchoredComments$Text;", true)
  | 2 => ("AnchoredComments$Note", "suffix", "LAnchoredComments$Text;", true)
  | 3 => ("AnchoredComments$Note", "number", "I", false)
  | 4 => ("AnchoredComments$Note", "kind", "I", false)
  | 5 => ("AnchoredComments$Note", "start", "I", false)
  | 6 => ("AnchoredComments$Note", "end", "I", false)
  | _ => ("AnchoredComments$Note", "weight", "I", false)
def tyX3 : Nat → FieldType := fun k => match k with
  | 0 => .object "AnchoredComments$Text"
  | 1 => .object "AnchoredComments$Text"
  | 2 => .object "AnchoredComments$Text"
  | 3 => .int
  | 4 => .int
  | 5 => .int
  | 6 => .int
  | _ => .int
abbrev wsX30 : List Cond := u_ws RX3 TX3 8
theorem nmX3 : ∀ a, a < 8 → ∀ b, b < 8 → a ≠ b → (TX3 a).2.1 ≠ (TX3 b).2.1 := by decide +kernel
theorem tyX3_ok : ∀ k, k < 8 → parseFieldDescriptor (TX3 k).2.2.1 = some (tyX3 k) := by decide +kernel
abbrev cX3_init : ByteArray := prog_5_method_1_code
def yX3_init : MethodName := ⟨RX3, "<init>", "()V"⟩
abbrev cX3_become : ByteArray := prog_5_method_2_code
def yX3_become : MethodName := ⟨RX3, "become", "(LAnchoredComments$Note;)V"⟩
abbrev cX3_begin : ByteArray := prog_5_method_3_code
def yX3_begin : MethodName := ⟨RX3, "begin", "(IIILAnchoredComments$Text;)V"⟩
abbrev cX3_attachTo : ByteArray := prog_5_method_4_code
def yX3_attachTo : MethodName := ⟨RX3, "attachTo", "(II)V"⟩
abbrev cX3_quoteFrom : ByteArray := prog_5_method_5_code
def yX3_quoteFrom : MethodName := ⟨RX3, "quoteFrom", "(LAnchoredComments$Text;)V"⟩
abbrev cX3_moveForInsert : ByteArray := prog_5_method_6_code
def yX3_moveForInsert : MethodName := ⟨RX3, "moveForInsert", "(II)V"⟩
abbrev cX3_moveForDelete : ByteArray := prog_5_method_7_code
def yX3_moveForDelete : MethodName := ⟨RX3, "moveForDelete", "(II)Z"⟩
abbrev cX3_boundAfterDelete : ByteArray := prog_5_method_8_code
def yX3_boundAfterDelete : MethodName := ⟨RX3, "boundAfterDelete", "(III)I"⟩
abbrev cX3_moveForReplacement : ByteArray := prog_5_method_9_code
def yX3_moveForReplacement : MethodName := ⟨RX3, "moveForReplacement", "(I)V"⟩
abbrev cX3_isTwinOf : ByteArray := prog_5_method_10_code
def yX3_isTwinOf : MethodName := ⟨RX3, "isTwinOf", "(LAnchoredComments$Note;)Z"⟩
abbrev cX3_covers : ByteArray := prog_5_method_11_code
def yX3_covers : MethodName := ⟨RX3, "covers", "(I)Z"⟩
abbrev cX3_standsBefore : ByteArray := prog_5_method_12_code
def yX3_standsBefore : MethodName := ⟨RX3, "standsBefore", "(LAnchoredComments$Note;)Z"⟩
abbrev cX3_scoreOf : ByteArray := prog_5_method_13_code
def yX3_scoreOf : MethodName := ⟨RX3, "scoreOf", "(ILAnchoredComments$Text;II)I"⟩
abbrev cX3_likeBefore : ByteArray := prog_5_method_14_code
def yX3_likeBefore : MethodName := ⟨RX3, "likeBefore", "(LAnchoredComments$Text;I)I"⟩
abbrev cX3_likeBehind : ByteArray := prog_5_method_15_code
def yX3_likeBehind : MethodName := ⟨RX3, "likeBehind", "(LAnchoredComments$Text;I)I"⟩
def RX4 : String := "AnchoredComments$Page"
def TX4 : u_T := fun k => match k with
  | 0 => ("AnchoredComments$Page", "document", "LAnchoredComments$Text;", true)
  | 1 => ("AnchoredComments$Page", "notes", "[LAnchoredComments$Note;", true)
  | 2 => ("AnchoredComments$Page", "count", "I", false)
  | _ => ("AnchoredComments$Page", "next", "I", false)
def tyX4 : Nat → FieldType := fun k => match k with
  | 0 => .object "AnchoredComments$Text"
  | 1 => .array (.object "AnchoredComments$Note")
  | 2 => .int
  | _ => .int
abbrev wsX40 : List Cond := u_ws RX4 TX4 4
theorem nmX4 : ∀ a, a < 4 → ∀ b, b < 4 → a ≠ b → (TX4 a).2.1 ≠ (TX4 b).2.1 := by decide +kernel
theorem tyX4_ok : ∀ k, k < 4 → parseFieldDescriptor (TX4 k).2.2.1 = some (tyX4 k) := by decide +kernel
abbrev cX4_init : ByteArray := prog_6_method_1_code
def yX4_init : MethodName := ⟨RX4, "<init>", "()V"⟩
abbrev cX4_become : ByteArray := prog_6_method_2_code
def yX4_become : MethodName := ⟨RX4, "become", "(LAnchoredComments$Page;)V"⟩
abbrev cX4_indexOf : ByteArray := prog_6_method_3_code
def yX4_indexOf : MethodName := ⟨RX4, "indexOf", "(I)I"⟩
abbrev cX4_find : ByteArray := prog_6_method_4_code
def yX4_find : MethodName := ⟨RX4, "find", "(I)LAnchoredComments$Note;"⟩
abbrev cX4_addNote : ByteArray := prog_6_method_5_code
def yX4_addNote : MethodName := ⟨RX4, "addNote", "(II)I"⟩
abbrev cX4_drop : ByteArray := prog_6_method_6_code
def yX4_drop : MethodName := ⟨RX4, "drop", "(I)V"⟩
abbrev cX4_replaceDocument : ByteArray := prog_6_method_7_code
def yX4_replaceDocument : MethodName := ⟨RX4, "replaceDocument", "(LAnchoredComments$Text;)V"⟩
abbrev cX4_putIn : ByteArray := prog_6_method_8_code
def yX4_putIn : MethodName := ⟨RX4, "putIn", "(ILAnchoredComments$Text;)V"⟩
abbrev cX4_cutOut : ByteArray := prog_6_method_9_code
def yX4_cutOut : MethodName := ⟨RX4, "cutOut", "(II)I"⟩
abbrev cX4_hasTwins : ByteArray := prog_6_method_10_code
def yX4_hasTwins : MethodName := ⟨RX4, "hasTwins", "()Z"⟩
abbrev cX4_mergeTwins : ByteArray := prog_6_method_11_code
def yX4_mergeTwins : MethodName := ⟨RX4, "mergeTwins", "()I"⟩
abbrev cX4_firstTwin : ByteArray := prog_6_method_12_code
def yX4_firstTwin : MethodName := ⟨RX4, "firstTwin", "(I)I"⟩
abbrev cX4_numberCovering : ByteArray := prog_6_method_13_code
def yX4_numberCovering : MethodName := ⟨RX4, "numberCovering", "(II)I"⟩
abbrev cX4_rankOf : ByteArray := prog_6_method_14_code
def yX4_rankOf : MethodName := ⟨RX4, "rankOf", "(LAnchoredComments$Note;I)I"⟩
def RX5 : String := "AnchoredComments$Planner"
def TX5 : u_T := fun k => match k with
  | 0 => ("AnchoredComments$Planner", "orphans", "[LAnchoredComments$Note;", true)
  | 1 => ("AnchoredComments$Planner", "choices", "[LAnchoredComments$Choices;", true)
  | _ => ("AnchoredComments$Planner", "count", "I", false)
def tyX5 : Nat → FieldType := fun k => match k with
  | 0 => .array (.object "AnchoredComments$Note")
  | 1 => .array (.object "AnchoredComments$Choices")
  | _ => .int
abbrev wsX50 : List Cond := u_ws RX5 TX5 3
theorem nmX5 : ∀ a, a < 3 → ∀ b, b < 3 → a ≠ b → (TX5 a).2.1 ≠ (TX5 b).2.1 := by decide +kernel
theorem tyX5_ok : ∀ k, k < 3 → parseFieldDescriptor (TX5 k).2.2.1 = some (tyX5 k) := by decide +kernel
abbrev cX5_init : ByteArray := prog_7_method_1_code
def yX5_init : MethodName := ⟨RX5, "<init>", "()V"⟩
abbrev cX5_gather : ByteArray := prog_7_method_2_code
def yX5_gather : MethodName := ⟨RX5, "gather", "(LAnchoredComments$Page;)I"⟩
abbrev cX5_takeIn : ByteArray := prog_7_method_3_code
def yX5_takeIn : MethodName := ⟨RX5, "takeIn", "(LAnchoredComments$Note;)V"⟩
abbrev cX5_plan : ByteArray := prog_7_method_4_code
def yX5_plan : MethodName := ⟨RX5, "plan", "(LAnchoredComments$Text;ILAnchoredComments$Finder;)V"⟩
abbrev cX5_carryOut : ByteArray := prog_7_method_5_code
def yX5_carryOut : MethodName := ⟨RX5, "carryOut", "()I"⟩
def RX6 : String := "AnchoredComments$Slot"
def TX6 : u_T := fun k => match k with
  | 0 => ("AnchoredComments$Slot", "page", "LAnchoredComments$Page;", true)
  | 1 => ("AnchoredComments$Slot", "threshold", "I", false)
  | _ => ("AnchoredComments$Slot", "used", "Z", false)
def tyX6 : Nat → FieldType := fun k => match k with
  | 0 => .object "AnchoredComments$Page"
  | 1 => .int
  | _ => .boolean
abbrev wsX60 : List Cond := u_ws RX6 TX6 3
theorem nmX6 : ∀ a, a < 3 → ∀ b, b < 3 → a ≠ b → (TX6 a).2.1 ≠ (TX6 b).2.1 := by decide +kernel
theorem tyX6_ok : ∀ k, k < 3 → parseFieldDescriptor (TX6 k).2.2.1 = some (tyX6 k) := by decide +kernel
abbrev cX6_init : ByteArray := prog_8_method_1_code
def yX6_init : MethodName := ⟨RX6, "<init>", "()V"⟩
def RX7 : String := "AnchoredComments$Text"
def TX7 : u_T := fun k => match k with
  | 0 => ("AnchoredComments$Text", "letters", "[I", true)
  | _ => ("AnchoredComments$Text", "size", "I", false)
def tyX7 : Nat → FieldType := fun k => match k with
  | 0 => .array .int
  | _ => .int
abbrev wsX70 : List Cond := u_ws RX7 TX7 2
theorem nmX7 : ∀ a, a < 2 → ∀ b, b < 2 → a ≠ b → (TX7 a).2.1 ≠ (TX7 b).2.1 := by decide +kernel
theorem tyX7_ok : ∀ k, k < 2 → parseFieldDescriptor (TX7 k).2.2.1 = some (tyX7 k) := by decide +kernel
abbrev cX7_init : ByteArray := prog_9_method_1_code
def yX7_init : MethodName := ⟨RX7, "<init>", "(I)V"⟩
abbrev cX7_at : ByteArray := prog_9_method_2_code
def yX7_at : MethodName := ⟨RX7, "at", "(I)I"⟩
abbrev cX7_empty : ByteArray := prog_9_method_3_code
def yX7_empty : MethodName := ⟨RX7, "empty", "()V"⟩
abbrev cX7_append : ByteArray := prog_9_method_4_code
def yX7_append : MethodName := ⟨RX7, "append", "(I)V"⟩
abbrev cX7_become : ByteArray := prog_9_method_5_code
def yX7_become : MethodName := ⟨RX7, "become", "(LAnchoredComments$Text;)V"⟩
abbrev cX7_copyPart : ByteArray := prog_9_method_6_code
def yX7_copyPart : MethodName := ⟨RX7, "copyPart", "(LAnchoredComments$Text;II)V"⟩
abbrev cX7_putLetters : ByteArray := prog_9_method_7_code
def yX7_putLetters : MethodName := ⟨RX7, "putLetters", "(ILAnchoredComments$Text;)V"⟩
abbrev cX7_cutLetters : ByteArray := prog_9_method_8_code
def yX7_cutLetters : MethodName := ⟨RX7, "cutLetters", "(II)V"⟩
def RX8 : String := "AnchoredComments"
def TX8 : u_T := fun k => match k with
  | 0 => ("AnchoredComments", "buffer", "LAnchoredComments$Text;", true)
  | 1 => ("AnchoredComments", "page", "LAnchoredComments$Page;", true)
  | 2 => ("AnchoredComments", "history", "LAnchoredComments$History;", true)
  | 3 => ("AnchoredComments", "slot0", "LAnchoredComments$Slot;", true)
  | 4 => ("AnchoredComments", "slot1", "LAnchoredComments$Slot;", true)
  | 5 => ("AnchoredComments", "finder", "LAnchoredComments$Finder;", true)
  | 6 => ("AnchoredComments", "planner", "LAnchoredComments$Planner;", true)
  | _ => ("AnchoredComments", "threshold", "I", false)
def tyX8 : Nat → FieldType := fun k => match k with
  | 0 => .object "AnchoredComments$Text"
  | 1 => .object "AnchoredComments$Page"
  | 2 => .object "AnchoredComments$History"
  | 3 => .object "AnchoredComments$Slot"
  | 4 => .object "AnchoredComments$Slot"
  | 5 => .object "AnchoredComments$Finder"
  | 6 => .object "AnchoredComments$Planner"
  | _ => .int
abbrev wsX80 : List Cond := u_ws RX8 TX8 8
theorem nmX8 : ∀ a, a < 8 → ∀ b, b < 8 → a ≠ b → (TX8 a).2.1 ≠ (TX8 b).2.1 := by decide +kernel
theorem tyX8_ok : ∀ k, k < 8 → parseFieldDescriptor (TX8 k).2.2.1 = some (tyX8 k) := by decide +kernel
abbrev cX8_init : ByteArray := prog_1_method_1_code
def yX8_init : MethodName := ⟨RX8, "<init>", "()V"⟩
abbrev cX8_type : ByteArray := prog_1_method_2_code
def yX8_type : MethodName := ⟨RX8, "type", "(I)I"⟩
abbrev cX8_clearBuffer : ByteArray := prog_1_method_3_code
def yX8_clearBuffer : MethodName := ⟨RX8, "clearBuffer", "()I"⟩
abbrev cX8_load : ByteArray := prog_1_method_4_code
def yX8_load : MethodName := ⟨RX8, "load", "()I"⟩
abbrev cX8_insert : ByteArray := prog_1_method_5_code
def yX8_insert : MethodName := ⟨RX8, "insert", "(I)I"⟩
abbrev cX8_delete : ByteArray := prog_1_method_6_code
def yX8_delete : MethodName := ⟨RX8, "delete", "(II)I"⟩
abbrev cX8_comment : ByteArray := prog_1_method_7_code
def yX8_comment : MethodName := ⟨RX8, "comment", "(II)I"⟩
abbrev cX8_remove : ByteArray := prog_1_method_8_code
def yX8_remove : MethodName := ⟨RX8, "remove", "(I)I"⟩
abbrev cX8_quoteAnew : ByteArray := prog_1_method_9_code
def yX8_quoteAnew : MethodName := ⟨RX8, "quoteAnew", "(I)I"⟩
abbrev cX8_attach : ByteArray := prog_1_method_10_code
def yX8_attach : MethodName := ⟨RX8, "attach", "(I)I"⟩
abbrev cX8_attachAll : ByteArray := prog_1_method_11_code
def yX8_attachAll : MethodName := ⟨RX8, "attachAll", "()I"⟩
abbrev cX8_merge : ByteArray := prog_1_method_12_code
def yX8_merge : MethodName := ⟨RX8, "merge", "()I"⟩
abbrev cX8_undo : ByteArray := prog_1_method_13_code
def yX8_undo : MethodName := ⟨RX8, "undo", "()I"⟩
abbrev cX8_length : ByteArray := prog_1_method_14_code
def yX8_length : MethodName := ⟨RX8, "length", "()I"⟩
abbrev cX8_letter : ByteArray := prog_1_method_15_code
def yX8_letter : MethodName := ⟨RX8, "letter", "(I)I"⟩
abbrev cX8_comments : ByteArray := prog_1_method_16_code
def yX8_comments : MethodName := ⟨RX8, "comments", "()I"⟩
abbrev cX8_commentAt : ByteArray := prog_1_method_17_code
def yX8_commentAt : MethodName := ⟨RX8, "commentAt", "(I)I"⟩
abbrev cX8_state : ByteArray := prog_1_method_18_code
def yX8_state : MethodName := ⟨RX8, "state", "(I)I"⟩
abbrev cX8_range : ByteArray := prog_1_method_19_code
def yX8_range : MethodName := ⟨RX8, "range", "(IZ)I"⟩
abbrev cX8_weight : ByteArray := prog_1_method_20_code
def yX8_weight : MethodName := ⟨RX8, "weight", "(I)I"⟩
abbrev cX8_quoted : ByteArray := prog_1_method_21_code
def yX8_quoted : MethodName := ⟨RX8, "quoted", "(III)I"⟩
abbrev cX8_distance : ByteArray := prog_1_method_22_code
def yX8_distance : MethodName := ⟨RX8, "distance", "(I)I"⟩
abbrev cX8_score : ByteArray := prog_1_method_23_code
def yX8_score : MethodName := ⟨RX8, "score", "(III)I"⟩
abbrev cX8_best : ByteArray := prog_1_method_24_code
def yX8_best : MethodName := ⟨RX8, "best", "(II)I"⟩
abbrev cX8_overlap : ByteArray := prog_1_method_25_code
def yX8_overlap : MethodName := ⟨RX8, "overlap", "(II)I"⟩
abbrev cX8_covering : ByteArray := prog_1_method_26_code
def yX8_covering : MethodName := ⟨RX8, "covering", "(II)I"⟩
abbrev cX8_setThreshold : ByteArray := prog_1_method_27_code
def yX8_setThreshold : MethodName := ⟨RX8, "setThreshold", "(I)I"⟩
abbrev cX8_save : ByteArray := prog_1_method_28_code
def yX8_save : MethodName := ⟨RX8, "save", "(I)I"⟩
abbrev cX8_restore : ByteArray := prog_1_method_29_code
def yX8_restore : MethodName := ⟨RX8, "restore", "(I)I"⟩
abbrev cX8_checksum : ByteArray := prog_1_method_30_code
def yX8_checksum : MethodName := ⟨RX8, "checksum", "()J"⟩
abbrev cX8_mixNote : ByteArray := prog_1_method_31_code
def yX8_mixNote : MethodName := ⟨RX8, "mixNote", "(JLAnchoredComments$Note;)J"⟩
abbrev cX8_mixText : ByteArray := prog_1_method_32_code
def yX8_mixText : MethodName := ⟨RX8, "mixText", "(JLAnchoredComments$Text;)J"⟩
abbrev cX8_mix : ByteArray := prog_1_method_33_code
def yX8_mix : MethodName := ⟨RX8, "mix", "(JI)J"⟩
abbrev cX8_isPosition : ByteArray := prog_1_method_34_code
def yX8_isPosition : MethodName := ⟨RX8, "isPosition", "(I)Z"⟩
abbrev cX8_isLetterIndex : ByteArray := prog_1_method_35_code
def yX8_isLetterIndex : MethodName := ⟨RX8, "isLetterIndex", "(I)Z"⟩
abbrev cX8_isRange : ByteArray := prog_1_method_36_code
def yX8_isRange : MethodName := ⟨RX8, "isRange", "(III)Z"⟩
def RX9 : String := "AnchoredCommentsModel"
def TX9 : u_T := fun k => match k with
  | 0 => ("AnchoredCommentsModel", "v", "[I", true)
  | 1 => ("AnchoredCommentsModel", "spare", "[I", true)
  | 2 => ("AnchoredCommentsModel", "past", "[I", true)
  | 3 => ("AnchoredCommentsModel", "pasts", "I", false)
  | 4 => ("AnchoredCommentsModel", "kept", "[I", true)
  | 5 => ("AnchoredCommentsModel", "isKept", "[Z", true)
  | 6 => ("AnchoredCommentsModel", "threshold", "I", false)
  | 7 => ("AnchoredCommentsModel", "buffer", "[I", true)
  | 8 => ("AnchoredCommentsModel", "buffered", "I", false)
  | 9 => ("AnchoredCommentsModel", "line", "[I", true)
  | 10 => ("AnchoredCommentsModel", "top", "I", false)
  | 11 => ("AnchoredCommentsModel", "topLength", "I", false)
  | 12 => ("AnchoredCommentsModel", "bestScore", "I", false)
  | 13 => ("AnchoredCommentsModel", "bestStart", "I", false)
  | 14 => ("AnchoredCommentsModel", "bestLength", "I", false)
  | 15 => ("AnchoredCommentsModel", "order", "[I", true)
  | 16 => ("AnchoredCommentsModel", "orphans", "I", false)
  | 17 => ("AnchoredCommentsModel", "scores", "[I", true)
  | 18 => ("AnchoredCommentsModel", "lengths", "[I", true)
  | _ => ("AnchoredCommentsModel", "sums", "[I", true)
def tyX9 : Nat → FieldType := fun k => match k with
  | 0 => .array .int
  | 1 => .array .int
  | 2 => .array .int
  | 3 => .int
  | 4 => .array .int
  | 5 => .array .boolean
  | 6 => .int
  | 7 => .array .int
  | 8 => .int
  | 9 => .array .int
  | 10 => .int
  | 11 => .int
  | 12 => .int
  | 13 => .int
  | 14 => .int
  | 15 => .array .int
  | 16 => .int
  | 17 => .array .int
  | 18 => .array .int
  | _ => .array .int
abbrev wsX90 : List Cond := u_ws RX9 TX9 20
theorem nmX9 : ∀ a, a < 20 → ∀ b, b < 20 → a ≠ b → (TX9 a).2.1 ≠ (TX9 b).2.1 := by decide +kernel
theorem tyX9_ok : ∀ k, k < 20 → parseFieldDescriptor (TX9 k).2.2.1 = some (tyX9 k) := by decide +kernel
abbrev cX9_init : ByteArray := prog_11_method_1_code
def yX9_init : MethodName := ⟨RX9, "<init>", "()V"⟩
abbrev cX9_in : ByteArray := prog_11_method_3_code
def yX9_in : MethodName := ⟨RX9, "in", "(III)Z"⟩
abbrev cX9_least : ByteArray := prog_11_method_4_code
def yX9_least : MethodName := ⟨RX9, "least", "(II)I"⟩
abbrev cX9_at : ByteArray := prog_11_method_5_code
def yX9_at : MethodName := ⟨RX9, "at", "(II)I"⟩
abbrev cX9_find : ByteArray := prog_11_method_6_code
def yX9_find : MethodName := ⟨RX9, "find", "(I)I"⟩
abbrev cX9_isPosition : ByteArray := prog_11_method_7_code
def yX9_isPosition : MethodName := ⟨RX9, "isPosition", "(I)Z"⟩
abbrev cX9_copies : ByteArray := prog_11_method_8_code
def yX9_copies : MethodName := ⟨RX9, "copies", "([II[II)V"⟩
abbrev cX9_begins : ByteArray := prog_11_method_9_code
def yX9_begins : MethodName := ⟨RX9, "begins", "()V"⟩
abbrev cX9_made : ByteArray := prog_11_method_10_code
def yX9_made : MethodName := ⟨RX9, "made", "(I)I"⟩
abbrev cX9_type : ByteArray := prog_11_method_11_code
def yX9_type : MethodName := ⟨RX9, "type", "(I)I"⟩
abbrev cX9_clearBuffer : ByteArray := prog_11_method_12_code
def yX9_clearBuffer : MethodName := ⟨RX9, "clearBuffer", "()I"⟩
abbrev cX9_load : ByteArray := prog_11_method_13_code
def yX9_load : MethodName := ⟨RX9, "load", "()I"⟩
abbrev cX9_insert : ByteArray := prog_11_method_14_code
def yX9_insert : MethodName := ⟨RX9, "insert", "(I)I"⟩
abbrev cX9_without : ByteArray := prog_11_method_15_code
def yX9_without : MethodName := ⟨RX9, "without", "(III)I"⟩
abbrev cX9_delete : ByteArray := prog_11_method_16_code
def yX9_delete : MethodName := ⟨RX9, "delete", "(II)I"⟩
abbrev cX9_quotesPart : ByteArray := prog_11_method_17_code
def yX9_quotesPart : MethodName := ⟨RX9, "quotesPart", "(IIII)V"⟩
abbrev cX9_quotes : ByteArray := prog_11_method_18_code
def yX9_quotes : MethodName := ⟨RX9, "quotes", "(I)V"⟩
abbrev cX9_comment : ByteArray := prog_11_method_19_code
def yX9_comment : MethodName := ⟨RX9, "comment", "(II)I"⟩
abbrev cX9_removes : ByteArray := prog_11_method_20_code
def yX9_removes : MethodName := ⟨RX9, "removes", "(I)V"⟩
abbrev cX9_remove : ByteArray := prog_11_method_21_code
def yX9_remove : MethodName := ⟨RX9, "remove", "(I)I"⟩
abbrev cX9_quoteAnew : ByteArray := prog_11_method_22_code
def yX9_quoteAnew : MethodName := ⟨RX9, "quoteAnew", "(I)I"⟩
abbrev cX9_startsLine : ByteArray := prog_11_method_23_code
def yX9_startsLine : MethodName := ⟨RX9, "startsLine", "(I)V"⟩
abbrev cX9_goesOn : ByteArray := prog_11_method_24_code
def yX9_goesOn : MethodName := ⟨RX9, "goesOn", "(II)V"⟩
abbrev cX9_distanceOf : ByteArray := prog_11_method_25_code
def yX9_distanceOf : MethodName := ⟨RX9, "distanceOf", "(III)I"⟩
abbrev cX9_before : ByteArray := prog_11_method_26_code
def yX9_before : MethodName := ⟨RX9, "before", "(II)I"⟩
abbrev cX9_behind : ByteArray := prog_11_method_27_code
def yX9_behind : MethodName := ⟨RX9, "behind", "(II)I"⟩
abbrev cX9_scored : ByteArray := prog_11_method_28_code
def yX9_scored : MethodName := ⟨RX9, "scored", "(IIII)I"⟩
abbrev cX9_bestAt : ByteArray := prog_11_method_29_code
def yX9_bestAt : MethodName := ⟨RX9, "bestAt", "(II)Z"⟩
abbrev cX9_findBest : ByteArray := prog_11_method_30_code
def yX9_findBest : MethodName := ⟨RX9, "findBest", "(I)Z"⟩
abbrev cX9_attaches : ByteArray := prog_11_method_31_code
def yX9_attaches : MethodName := ⟨RX9, "attaches", "(III)V"⟩
abbrev cX9_attach : ByteArray := prog_11_method_32_code
def yX9_attach : MethodName := ⟨RX9, "attach", "(I)I"⟩
abbrev cX9_findOrder : ByteArray := prog_11_method_33_code
def yX9_findOrder : MethodName := ⟨RX9, "findOrder", "()V"⟩
abbrev cX9_findScores : ByteArray := prog_11_method_34_code
def yX9_findScores : MethodName := ⟨RX9, "findScores", "()V"⟩
abbrev cX9_worth : ByteArray := prog_11_method_35_code
def yX9_worth : MethodName := ⟨RX9, "worth", "(II)I"⟩
abbrev cX9_findSums : ByteArray := prog_11_method_36_code
def yX9_findSums : MethodName := ⟨RX9, "findSums", "()V"⟩
abbrev cX9_chosen : ByteArray := prog_11_method_37_code
def yX9_chosen : MethodName := ⟨RX9, "chosen", "(II)I"⟩
abbrev cX9_attachAll : ByteArray := prog_11_method_38_code
def yX9_attachAll : MethodName := ⟨RX9, "attachAll", "()I"⟩
abbrev cX9_isLike : ByteArray := prog_11_method_39_code
def yX9_isLike : MethodName := ⟨RX9, "isLike", "(II)Z"⟩
abbrev cX9_merge : ByteArray := prog_11_method_40_code
def yX9_merge : MethodName := ⟨RX9, "merge", "()I"⟩
abbrev cX9_undo : ByteArray := prog_11_method_41_code
def yX9_undo : MethodName := ⟨RX9, "undo", "()I"⟩
abbrev cX9_length : ByteArray := prog_11_method_42_code
def yX9_length : MethodName := ⟨RX9, "length", "()I"⟩
abbrev cX9_isLetter : ByteArray := prog_11_method_43_code
def yX9_isLetter : MethodName := ⟨RX9, "isLetter", "(I)Z"⟩
abbrev cX9_letter : ByteArray := prog_11_method_44_code
def yX9_letter : MethodName := ⟨RX9, "letter", "(I)I"⟩
abbrev cX9_comments : ByteArray := prog_11_method_45_code
def yX9_comments : MethodName := ⟨RX9, "comments", "()I"⟩
abbrev cX9_commentAt : ByteArray := prog_11_method_46_code
def yX9_commentAt : MethodName := ⟨RX9, "commentAt", "(I)I"⟩
abbrev cX9_of : ByteArray := prog_11_method_47_code
def yX9_of : MethodName := ⟨RX9, "of", "(II)I"⟩
abbrev cX9_state : ByteArray := prog_11_method_48_code
def yX9_state : MethodName := ⟨RX9, "state", "(I)I"⟩
abbrev cX9_range : ByteArray := prog_11_method_49_code
def yX9_range : MethodName := ⟨RX9, "range", "(IZ)I"⟩
abbrev cX9_weight : ByteArray := prog_11_method_50_code
def yX9_weight : MethodName := ⟨RX9, "weight", "(I)I"⟩
abbrev cX9_quoted : ByteArray := prog_11_method_51_code
def yX9_quoted : MethodName := ⟨RX9, "quoted", "(III)I"⟩
abbrev cX9_distance : ByteArray := prog_11_method_52_code
def yX9_distance : MethodName := ⟨RX9, "distance", "(I)I"⟩
abbrev cX9_score : ByteArray := prog_11_method_53_code
def yX9_score : MethodName := ⟨RX9, "score", "(III)I"⟩
abbrev cX9_best : ByteArray := prog_11_method_54_code
def yX9_best : MethodName := ⟨RX9, "best", "(II)I"⟩
abbrev cX9_overlap : ByteArray := prog_11_method_55_code
def yX9_overlap : MethodName := ⟨RX9, "overlap", "(II)I"⟩
abbrev cX9_isBefore : ByteArray := prog_11_method_56_code
def yX9_isBefore : MethodName := ⟨RX9, "isBefore", "(II)Z"⟩
abbrev cX9_covers : ByteArray := prog_11_method_57_code
def yX9_covers : MethodName := ⟨RX9, "covers", "(II)Z"⟩
abbrev cX9_covering : ByteArray := prog_11_method_58_code
def yX9_covering : MethodName := ⟨RX9, "covering", "(II)I"⟩
abbrev cX9_setThreshold : ByteArray := prog_11_method_59_code
def yX9_setThreshold : MethodName := ⟨RX9, "setThreshold", "(I)I"⟩
abbrev cX9_save : ByteArray := prog_11_method_60_code
def yX9_save : MethodName := ⟨RX9, "save", "(I)I"⟩
abbrev cX9_restore : ByteArray := prog_11_method_61_code
def yX9_restore : MethodName := ⟨RX9, "restore", "(I)I"⟩
abbrev cX9_more : ByteArray := prog_11_method_62_code
def yX9_more : MethodName := ⟨RX9, "more", "(JI)J"⟩
abbrev cX9_moreOfPart : ByteArray := prog_11_method_63_code
def yX9_moreOfPart : MethodName := ⟨RX9, "moreOfPart", "(JII)J"⟩
abbrev cX9_checksum : ByteArray := prog_11_method_64_code
def yX9_checksum : MethodName := ⟨RX9, "checksum", "()J"⟩
def RJ9 : String := "java/lang/Math"
def TJ9 : u_T := fun k => match k with
  | _ => ("", "", "", false)
def tyJ9 : Nat → FieldType := fun k => match k with
  | _ => .int
theorem nmJ9 : ∀ a, a < 0 → ∀ b, b < 0 → a ≠ b → (TJ9 a).2.1 ≠ (TJ9 b).2.1 := by decide +kernel
theorem tyJ9_ok : ∀ k, k < 0 → parseFieldDescriptor (TJ9 k).2.2.1 = some (tyJ9 k) := by decide +kernel
abbrev cJ9_abs_0f7a4 : ByteArray := prog_12_method_59_code
def yJ9_abs_0f7a4 : MethodName := ⟨RJ9, "abs", "(I)I"⟩
abbrev cJ9_max_7cf53 : ByteArray := prog_12_method_65_code
def yJ9_max_7cf53 : MethodName := ⟨RJ9, "max", "(II)I"⟩
abbrev cJ9_min_7cf53 : ByteArray := prog_12_method_69_code
def yJ9_min_7cf53 : MethodName := ⟨RJ9, "min", "(II)I"⟩
def RL : String := "AnchoredCommentsLaw"
abbrev cL_law : ByteArray := code
def yL_law : MethodName := ⟨RL, "law", "([I)Z"⟩
abbrev vwCl : List vw_C := [(RX0, TX0, 4), (RX1, TX1, 5), (RX2, TX2, 2), (RX3, TX3, 8), (RX4, TX4, 4), (RX5, TX5, 3), (RX6, TX6, 3), (RX7, TX7, 2), (RX8, TX8, 8), (RX9, TX9, 20)]
