section
-- ===== PART A: goes FIRST, ahead of the names: the tables' words, and 'selects' of the private methods out of them =====
/-- a private method of a class that the tables say can be made, by its rows of tables_1 -/
def lw_okq (q : MethodName × Nat) : Prop := (q.1.cls ≠ "java/lang/invoke/MethodHandle" ∧ q.1.cls ≠ "java/lang/invoke/VarHandle") ∧ Cond.instantiable q.1.cls q.2 ∈ tables_1 ∧ Cond.privateMethod q.1 ∈ tables_1 ∧ Cond.instanceMethod q.1 ∈ tables_1
theorem lw_p0 : lw_okq (⟨"AnchoredComments$History", "dropOldest", "()V"⟩, 2) := ⟨⟨by decide +kernel, by decide +kernel⟩, List.mem_of_getElem? (i := 117) (by decide +kernel), List.mem_of_getElem? (i := 266) (by decide +kernel), List.mem_of_getElem? (i := 267) (by decide +kernel)⟩
theorem lw_p1 : lw_okq (⟨"AnchoredComments", "isPosition", "(I)Z"⟩, 8) := ⟨⟨by decide +kernel, by decide +kernel⟩, List.mem_of_getElem? (i := 13) (by decide +kernel), List.mem_of_getElem? (i := 308) (by decide +kernel), List.mem_of_getElem? (i := 309) (by decide +kernel)⟩
theorem lw_p2 : lw_okq (⟨"AnchoredComments", "isRange", "(III)Z"⟩, 8) := ⟨⟨by decide +kernel, by decide +kernel⟩, List.mem_of_getElem? (i := 13) (by decide +kernel), List.mem_of_getElem? (i := 347) (by decide +kernel), List.mem_of_getElem? (i := 348) (by decide +kernel)⟩
theorem lw_p3 : lw_okq (⟨"AnchoredComments$Finder", "beginRow", "()V"⟩, 5) := ⟨⟨by decide +kernel, by decide +kernel⟩, List.mem_of_getElem? (i := 153) (by decide +kernel), List.mem_of_getElem? (i := 404) (by decide +kernel), List.mem_of_getElem? (i := 405) (by decide +kernel)⟩
theorem lw_p4 : lw_okq (⟨"AnchoredComments$Finder", "takeLetter", "(LAnchoredComments$Text;I)V"⟩, 5) := ⟨⟨by decide +kernel, by decide +kernel⟩, List.mem_of_getElem? (i := 153) (by decide +kernel), List.mem_of_getElem? (i := 409) (by decide +kernel), List.mem_of_getElem? (i := 410) (by decide +kernel)⟩
theorem lw_p5 : lw_okq (⟨"AnchoredComments$Finder", "endOfRow", "(LAnchoredComments$Text;)I"⟩, 5) := ⟨⟨by decide +kernel, by decide +kernel⟩, List.mem_of_getElem? (i := 153) (by decide +kernel), List.mem_of_getElem? (i := 413) (by decide +kernel), List.mem_of_getElem? (i := 414) (by decide +kernel)⟩
theorem lw_p6 : lw_okq (⟨"AnchoredComments$Note", "likeBefore", "(LAnchoredComments$Text;I)I"⟩, 8) := ⟨⟨by decide +kernel, by decide +kernel⟩, List.mem_of_getElem? (i := 53) (by decide +kernel), List.mem_of_getElem? (i := 421) (by decide +kernel), List.mem_of_getElem? (i := 422) (by decide +kernel)⟩
theorem lw_p7 : lw_okq (⟨"AnchoredComments$Note", "likeBehind", "(LAnchoredComments$Text;I)I"⟩, 8) := ⟨⟨by decide +kernel, by decide +kernel⟩, List.mem_of_getElem? (i := 53) (by decide +kernel), List.mem_of_getElem? (i := 426) (by decide +kernel), List.mem_of_getElem? (i := 427) (by decide +kernel)⟩
theorem lw_p8 : lw_okq (⟨"AnchoredComments$Planner", "takeIn", "(LAnchoredComments$Note;)V"⟩, 3) := ⟨⟨by decide +kernel, by decide +kernel⟩, List.mem_of_getElem? (i := 179) (by decide +kernel), List.mem_of_getElem? (i := 442) (by decide +kernel), List.mem_of_getElem? (i := 443) (by decide +kernel)⟩
theorem lw_p9 : lw_okq (⟨"AnchoredComments$Page", "firstTwin", "(I)I"⟩, 4) := ⟨⟨by decide +kernel, by decide +kernel⟩, List.mem_of_getElem? (i := 44) (by decide +kernel), List.mem_of_getElem? (i := 490) (by decide +kernel), List.mem_of_getElem? (i := 491) (by decide +kernel)⟩
theorem lw_p10 : lw_okq (⟨"AnchoredComments", "isLetterIndex", "(I)Z"⟩, 8) := ⟨⟨by decide +kernel, by decide +kernel⟩, List.mem_of_getElem? (i := 13) (by decide +kernel), List.mem_of_getElem? (i := 519) (by decide +kernel), List.mem_of_getElem? (i := 520) (by decide +kernel)⟩
theorem lw_p11 : lw_okq (⟨"AnchoredComments$Page", "rankOf", "(LAnchoredComments$Note;I)I"⟩, 4) := ⟨⟨by decide +kernel, by decide +kernel⟩, List.mem_of_getElem? (i := 44) (by decide +kernel), List.mem_of_getElem? (i := 583) (by decide +kernel), List.mem_of_getElem? (i := 584) (by decide +kernel)⟩
theorem lw_p12 : lw_okq (⟨"AnchoredComments", "mixNote", "(JLAnchoredComments$Note;)J"⟩, 8) := ⟨⟨by decide +kernel, by decide +kernel⟩, List.mem_of_getElem? (i := 13) (by decide +kernel), List.mem_of_getElem? (i := 616) (by decide +kernel), List.mem_of_getElem? (i := 617) (by decide +kernel)⟩
theorem lw_p13 : lw_okq (⟨"AnchoredCommentsModel", "begins", "()V"⟩, 20) := ⟨⟨by decide +kernel, by decide +kernel⟩, List.mem_of_getElem? (i := 620) (by decide +kernel), List.mem_of_getElem? (i := 703) (by decide +kernel), List.mem_of_getElem? (i := 704) (by decide +kernel)⟩
theorem lw_p14 : lw_okq (⟨"AnchoredCommentsModel", "made", "(I)I"⟩, 20) := ⟨⟨by decide +kernel, by decide +kernel⟩, List.mem_of_getElem? (i := 620) (by decide +kernel), List.mem_of_getElem? (i := 716) (by decide +kernel), List.mem_of_getElem? (i := 717) (by decide +kernel)⟩
theorem lw_p15 : lw_okq (⟨"AnchoredCommentsModel", "isPosition", "(I)Z"⟩, 20) := ⟨⟨by decide +kernel, by decide +kernel⟩, List.mem_of_getElem? (i := 620) (by decide +kernel), List.mem_of_getElem? (i := 724) (by decide +kernel), List.mem_of_getElem? (i := 725) (by decide +kernel)⟩
def lw_privs_1 : List (MethodName × Nat) := [(⟨"AnchoredComments$History", "dropOldest", "()V"⟩, 2), (⟨"AnchoredComments", "isPosition", "(I)Z"⟩, 8), (⟨"AnchoredComments", "isRange", "(III)Z"⟩, 8), (⟨"AnchoredComments$Finder", "beginRow", "()V"⟩, 5), (⟨"AnchoredComments$Finder", "takeLetter", "(LAnchoredComments$Text;I)V"⟩, 5), (⟨"AnchoredComments$Finder", "endOfRow", "(LAnchoredComments$Text;)I"⟩, 5), (⟨"AnchoredComments$Note", "likeBefore", "(LAnchoredComments$Text;I)I"⟩, 8), (⟨"AnchoredComments$Note", "likeBehind", "(LAnchoredComments$Text;I)I"⟩, 8), (⟨"AnchoredComments$Planner", "takeIn", "(LAnchoredComments$Note;)V"⟩, 3), (⟨"AnchoredComments$Page", "firstTwin", "(I)I"⟩, 4), (⟨"AnchoredComments", "isLetterIndex", "(I)Z"⟩, 8), (⟨"AnchoredComments$Page", "rankOf", "(LAnchoredComments$Note;I)I"⟩, 4), (⟨"AnchoredComments", "mixNote", "(JLAnchoredComments$Note;)J"⟩, 8), (⟨"AnchoredCommentsModel", "begins", "()V"⟩, 20), (⟨"AnchoredCommentsModel", "made", "(I)I"⟩, 20), (⟨"AnchoredCommentsModel", "isPosition", "(I)Z"⟩, 20)]
theorem lw_r1 : ∀ q ∈ lw_privs_1, lw_okq q := List.forall_mem_cons.mpr ⟨lw_p0, List.forall_mem_cons.mpr ⟨lw_p1, List.forall_mem_cons.mpr ⟨lw_p2, List.forall_mem_cons.mpr ⟨lw_p3, List.forall_mem_cons.mpr ⟨lw_p4, List.forall_mem_cons.mpr ⟨lw_p5, List.forall_mem_cons.mpr ⟨lw_p6, List.forall_mem_cons.mpr ⟨lw_p7, List.forall_mem_cons.mpr ⟨lw_p8, List.forall_mem_cons.mpr ⟨lw_p9, List.forall_mem_cons.mpr ⟨lw_p10, List.forall_mem_cons.mpr ⟨lw_p11, List.forall_mem_cons.mpr ⟨lw_p12, List.forall_mem_cons.mpr ⟨lw_p13, List.forall_mem_cons.mpr ⟨lw_p14, List.forall_mem_cons.mpr ⟨lw_p15, fun _ h => absurd h List.not_mem_nil⟩⟩⟩⟩⟩⟩⟩⟩⟩⟩⟩⟩⟩⟩⟩⟩
theorem lw_p16 : lw_okq (⟨"AnchoredCommentsModel", "quotes", "(I)V"⟩, 20) := ⟨⟨by decide +kernel, by decide +kernel⟩, List.mem_of_getElem? (i := 620) (by decide +kernel), List.mem_of_getElem? (i := 739) (by decide +kernel), List.mem_of_getElem? (i := 740) (by decide +kernel)⟩
theorem lw_p17 : lw_okq (⟨"AnchoredCommentsModel", "quotesPart", "(IIII)V"⟩, 20) := ⟨⟨by decide +kernel, by decide +kernel⟩, List.mem_of_getElem? (i := 620) (by decide +kernel), List.mem_of_getElem? (i := 743) (by decide +kernel), List.mem_of_getElem? (i := 744) (by decide +kernel)⟩
theorem lw_p18 : lw_okq (⟨"AnchoredCommentsModel", "find", "(I)I"⟩, 20) := ⟨⟨by decide +kernel, by decide +kernel⟩, List.mem_of_getElem? (i := 620) (by decide +kernel), List.mem_of_getElem? (i := 751) (by decide +kernel), List.mem_of_getElem? (i := 752) (by decide +kernel)⟩
theorem lw_p19 : lw_okq (⟨"AnchoredCommentsModel", "removes", "(I)V"⟩, 20) := ⟨⟨by decide +kernel, by decide +kernel⟩, List.mem_of_getElem? (i := 620) (by decide +kernel), List.mem_of_getElem? (i := 755) (by decide +kernel), List.mem_of_getElem? (i := 756) (by decide +kernel)⟩
theorem lw_p20 : lw_okq (⟨"AnchoredCommentsModel", "findBest", "(I)Z"⟩, 20) := ⟨⟨by decide +kernel, by decide +kernel⟩, List.mem_of_getElem? (i := 620) (by decide +kernel), List.mem_of_getElem? (i := 767) (by decide +kernel), List.mem_of_getElem? (i := 768) (by decide +kernel)⟩
theorem lw_p21 : lw_okq (⟨"AnchoredCommentsModel", "bestAt", "(II)Z"⟩, 20) := ⟨⟨by decide +kernel, by decide +kernel⟩, List.mem_of_getElem? (i := 620) (by decide +kernel), List.mem_of_getElem? (i := 771) (by decide +kernel), List.mem_of_getElem? (i := 772) (by decide +kernel)⟩
theorem lw_p22 : lw_okq (⟨"AnchoredCommentsModel", "startsLine", "(I)V"⟩, 20) := ⟨⟨by decide +kernel, by decide +kernel⟩, List.mem_of_getElem? (i := 620) (by decide +kernel), List.mem_of_getElem? (i := 775) (by decide +kernel), List.mem_of_getElem? (i := 776) (by decide +kernel)⟩
theorem lw_p23 : lw_okq (⟨"AnchoredCommentsModel", "goesOn", "(II)V"⟩, 20) := ⟨⟨by decide +kernel, by decide +kernel⟩, List.mem_of_getElem? (i := 620) (by decide +kernel), List.mem_of_getElem? (i := 779) (by decide +kernel), List.mem_of_getElem? (i := 780) (by decide +kernel)⟩
theorem lw_p24 : lw_okq (⟨"AnchoredCommentsModel", "scored", "(IIII)I"⟩, 20) := ⟨⟨by decide +kernel, by decide +kernel⟩, List.mem_of_getElem? (i := 620) (by decide +kernel), List.mem_of_getElem? (i := 783) (by decide +kernel), List.mem_of_getElem? (i := 784) (by decide +kernel)⟩
theorem lw_p25 : lw_okq (⟨"AnchoredCommentsModel", "before", "(II)I"⟩, 20) := ⟨⟨by decide +kernel, by decide +kernel⟩, List.mem_of_getElem? (i := 620) (by decide +kernel), List.mem_of_getElem? (i := 787) (by decide +kernel), List.mem_of_getElem? (i := 788) (by decide +kernel)⟩
theorem lw_p26 : lw_okq (⟨"AnchoredCommentsModel", "behind", "(II)I"⟩, 20) := ⟨⟨by decide +kernel, by decide +kernel⟩, List.mem_of_getElem? (i := 620) (by decide +kernel), List.mem_of_getElem? (i := 791) (by decide +kernel), List.mem_of_getElem? (i := 792) (by decide +kernel)⟩
theorem lw_p27 : lw_okq (⟨"AnchoredCommentsModel", "attaches", "(III)V"⟩, 20) := ⟨⟨by decide +kernel, by decide +kernel⟩, List.mem_of_getElem? (i := 620) (by decide +kernel), List.mem_of_getElem? (i := 795) (by decide +kernel), List.mem_of_getElem? (i := 796) (by decide +kernel)⟩
theorem lw_p28 : lw_okq (⟨"AnchoredCommentsModel", "findOrder", "()V"⟩, 20) := ⟨⟨by decide +kernel, by decide +kernel⟩, List.mem_of_getElem? (i := 620) (by decide +kernel), List.mem_of_getElem? (i := 803) (by decide +kernel), List.mem_of_getElem? (i := 804) (by decide +kernel)⟩
theorem lw_p29 : lw_okq (⟨"AnchoredCommentsModel", "findScores", "()V"⟩, 20) := ⟨⟨by decide +kernel, by decide +kernel⟩, List.mem_of_getElem? (i := 620) (by decide +kernel), List.mem_of_getElem? (i := 807) (by decide +kernel), List.mem_of_getElem? (i := 808) (by decide +kernel)⟩
theorem lw_p30 : lw_okq (⟨"AnchoredCommentsModel", "findSums", "()V"⟩, 20) := ⟨⟨by decide +kernel, by decide +kernel⟩, List.mem_of_getElem? (i := 620) (by decide +kernel), List.mem_of_getElem? (i := 811) (by decide +kernel), List.mem_of_getElem? (i := 812) (by decide +kernel)⟩
theorem lw_p31 : lw_okq (⟨"AnchoredCommentsModel", "worth", "(II)I"⟩, 20) := ⟨⟨by decide +kernel, by decide +kernel⟩, List.mem_of_getElem? (i := 620) (by decide +kernel), List.mem_of_getElem? (i := 815) (by decide +kernel), List.mem_of_getElem? (i := 816) (by decide +kernel)⟩
def lw_privs_2 : List (MethodName × Nat) := [(⟨"AnchoredCommentsModel", "quotes", "(I)V"⟩, 20), (⟨"AnchoredCommentsModel", "quotesPart", "(IIII)V"⟩, 20), (⟨"AnchoredCommentsModel", "find", "(I)I"⟩, 20), (⟨"AnchoredCommentsModel", "removes", "(I)V"⟩, 20), (⟨"AnchoredCommentsModel", "findBest", "(I)Z"⟩, 20), (⟨"AnchoredCommentsModel", "bestAt", "(II)Z"⟩, 20), (⟨"AnchoredCommentsModel", "startsLine", "(I)V"⟩, 20), (⟨"AnchoredCommentsModel", "goesOn", "(II)V"⟩, 20), (⟨"AnchoredCommentsModel", "scored", "(IIII)I"⟩, 20), (⟨"AnchoredCommentsModel", "before", "(II)I"⟩, 20), (⟨"AnchoredCommentsModel", "behind", "(II)I"⟩, 20), (⟨"AnchoredCommentsModel", "attaches", "(III)V"⟩, 20), (⟨"AnchoredCommentsModel", "findOrder", "()V"⟩, 20), (⟨"AnchoredCommentsModel", "findScores", "()V"⟩, 20), (⟨"AnchoredCommentsModel", "findSums", "()V"⟩, 20), (⟨"AnchoredCommentsModel", "worth", "(II)I"⟩, 20)]
theorem lw_r2 : ∀ q ∈ lw_privs_2, lw_okq q := List.forall_mem_cons.mpr ⟨lw_p16, List.forall_mem_cons.mpr ⟨lw_p17, List.forall_mem_cons.mpr ⟨lw_p18, List.forall_mem_cons.mpr ⟨lw_p19, List.forall_mem_cons.mpr ⟨lw_p20, List.forall_mem_cons.mpr ⟨lw_p21, List.forall_mem_cons.mpr ⟨lw_p22, List.forall_mem_cons.mpr ⟨lw_p23, List.forall_mem_cons.mpr ⟨lw_p24, List.forall_mem_cons.mpr ⟨lw_p25, List.forall_mem_cons.mpr ⟨lw_p26, List.forall_mem_cons.mpr ⟨lw_p27, List.forall_mem_cons.mpr ⟨lw_p28, List.forall_mem_cons.mpr ⟨lw_p29, List.forall_mem_cons.mpr ⟨lw_p30, List.forall_mem_cons.mpr ⟨lw_p31, fun _ h => absurd h List.not_mem_nil⟩⟩⟩⟩⟩⟩⟩⟩⟩⟩⟩⟩⟩⟩⟩⟩
theorem lw_p32 : lw_okq (⟨"AnchoredCommentsModel", "chosen", "(II)I"⟩, 20) := ⟨⟨by decide +kernel, by decide +kernel⟩, List.mem_of_getElem? (i := 620) (by decide +kernel), List.mem_of_getElem? (i := 819) (by decide +kernel), List.mem_of_getElem? (i := 820) (by decide +kernel)⟩
theorem lw_p33 : lw_okq (⟨"AnchoredCommentsModel", "isLike", "(II)Z"⟩, 20) := ⟨⟨by decide +kernel, by decide +kernel⟩, List.mem_of_getElem? (i := 620) (by decide +kernel), List.mem_of_getElem? (i := 827) (by decide +kernel), List.mem_of_getElem? (i := 828) (by decide +kernel)⟩
theorem lw_p34 : lw_okq (⟨"AnchoredCommentsModel", "isLetter", "(I)Z"⟩, 20) := ⟨⟨by decide +kernel, by decide +kernel⟩, List.mem_of_getElem? (i := 620) (by decide +kernel), List.mem_of_getElem? (i := 843) (by decide +kernel), List.mem_of_getElem? (i := 844) (by decide +kernel)⟩
theorem lw_p35 : lw_okq (⟨"AnchoredCommentsModel", "of", "(II)I"⟩, 20) := ⟨⟨by decide +kernel, by decide +kernel⟩, List.mem_of_getElem? (i := 620) (by decide +kernel), List.mem_of_getElem? (i := 859) (by decide +kernel), List.mem_of_getElem? (i := 860) (by decide +kernel)⟩
theorem lw_p36 : lw_okq (⟨"AnchoredCommentsModel", "distanceOf", "(III)I"⟩, 20) := ⟨⟨by decide +kernel, by decide +kernel⟩, List.mem_of_getElem? (i := 620) (by decide +kernel), List.mem_of_getElem? (i := 879) (by decide +kernel), List.mem_of_getElem? (i := 880) (by decide +kernel)⟩
theorem lw_p37 : lw_okq (⟨"AnchoredCommentsModel", "covers", "(II)Z"⟩, 20) := ⟨⟨by decide +kernel, by decide +kernel⟩, List.mem_of_getElem? (i := 620) (by decide +kernel), List.mem_of_getElem? (i := 899) (by decide +kernel), List.mem_of_getElem? (i := 900) (by decide +kernel)⟩
theorem lw_p38 : lw_okq (⟨"AnchoredCommentsModel", "isBefore", "(II)Z"⟩, 20) := ⟨⟨by decide +kernel, by decide +kernel⟩, List.mem_of_getElem? (i := 620) (by decide +kernel), List.mem_of_getElem? (i := 903) (by decide +kernel), List.mem_of_getElem? (i := 904) (by decide +kernel)⟩
theorem lw_p39 : lw_okq (⟨"AnchoredCommentsModel", "moreOfPart", "(JII)J"⟩, 20) := ⟨⟨by decide +kernel, by decide +kernel⟩, List.mem_of_getElem? (i := 620) (by decide +kernel), List.mem_of_getElem? (i := 928) (by decide +kernel), List.mem_of_getElem? (i := 929) (by decide +kernel)⟩
def lw_privs_3 : List (MethodName × Nat) := [(⟨"AnchoredCommentsModel", "chosen", "(II)I"⟩, 20), (⟨"AnchoredCommentsModel", "isLike", "(II)Z"⟩, 20), (⟨"AnchoredCommentsModel", "isLetter", "(I)Z"⟩, 20), (⟨"AnchoredCommentsModel", "of", "(II)I"⟩, 20), (⟨"AnchoredCommentsModel", "distanceOf", "(III)I"⟩, 20), (⟨"AnchoredCommentsModel", "covers", "(II)Z"⟩, 20), (⟨"AnchoredCommentsModel", "isBefore", "(II)Z"⟩, 20), (⟨"AnchoredCommentsModel", "moreOfPart", "(JII)J"⟩, 20)]
theorem lw_r3 : ∀ q ∈ lw_privs_3, lw_okq q := List.forall_mem_cons.mpr ⟨lw_p32, List.forall_mem_cons.mpr ⟨lw_p33, List.forall_mem_cons.mpr ⟨lw_p34, List.forall_mem_cons.mpr ⟨lw_p35, List.forall_mem_cons.mpr ⟨lw_p36, List.forall_mem_cons.mpr ⟨lw_p37, List.forall_mem_cons.mpr ⟨lw_p38, List.forall_mem_cons.mpr ⟨lw_p39, fun _ h => absurd h List.not_mem_nil⟩⟩⟩⟩⟩⟩⟩⟩
def lw_privs : List (MethodName × Nat) := lw_privs_1 ++ (lw_privs_2 ++ (lw_privs_3))
def lw_tbl : List Cond := k2_sels lw_privs ++ tables_1
theorem lw_privs_ok : ∀ q ∈ lw_privs, lw_okq q := by
  show ∀ q ∈ lw_privs_1 ++ (lw_privs_2 ++ (lw_privs_3)), lw_okq q
  exact List.forall_mem_append.mpr ⟨lw_r1, List.forall_mem_append.mpr ⟨lw_r2, lw_r3⟩⟩
/-! ===== BEGIN words of one list among another's, by their places ===== -/
theorem goodIn_r {big : List Cond} (ws : List Cond) (ps : List Nat) (hp : ws = ps.filterMap (fun i => big[i]?)) (h : ws.all goodWord = true) : GoodIn big ws := by
  intro w hw
  have h1 := List.all_eq_true.mp h w hw
  rw [hp] at hw
  obtain ⟨i, -, hi⟩ := List.mem_filterMap.mp hw
  have hm : w ∈ big := by first | exact List.mem_of_getElem? hi | exact List.getElem?_mem hi
  exact ⟨hm, good_of_word h1⟩
theorem goodIn_app {big a b : List Cond} (ha : GoodIn big a) (hb : GoodIn big b) : GoodIn big (a ++ b) := fun w h => (List.mem_append.mp h).elim (ha w) (hb w)
theorem goodIn_ca {big a b : List Cond} {c : Cond} (ha : GoodIn big (c :: a)) (hb : GoodIn big b) : GoodIn big (c :: (a ++ b)) := fun w h => (List.mem_cons.mp h).elim (fun e => ha w (List.mem_cons.mpr (Or.inl e))) (fun h => (List.mem_append.mp h).elim (fun h => ha w (List.mem_cons.mpr (Or.inr h))) (hb w))
theorem goodIn_sub {big ws : List Cond} (hm : ∀ w ∈ ws, w ∈ big) (h : ws.all goodWord = true) : GoodIn big ws := fun w hw => ⟨hm w hw, good_of_word (List.all_eq_true.mp h w hw)⟩
/-! ===== END ===== -/

/-! ===== BEGIN printed: names, fields, word lists, decode rows ===== -/
def RX0 : String := "AnchoredComments$Choices"
def TX0 : u_T := fun k => match k with
  | 0 => ("AnchoredComments$Choices", "scores", "[I", true)
  | 1 => ("AnchoredComments$Choices", "ends", "[I", true)
  | 2 => ("AnchoredComments$Choices", "sums", "[I", true)
  | _ => ("AnchoredComments$Choices", "size", "I", false)
def tyX0 : Nat → FieldType := fun k => match k with
  | 0 => .array .int
  | 1 => .array .int
  | 2 => .array .int
  | _ => .int
abbrev wsX00 : List Cond := u_ws RX0 TX0 4
theorem nmX0 : ∀ a, a < 4 → ∀ b, b < 4 → a ≠ b → (TX0 a).2.1 ≠ (TX0 b).2.1 := by decide +kernel
theorem tyX0_ok : ∀ k, k < 4 → parseFieldDescriptor (TX0 k).2.2.1 = some (tyX0 k) := by decide +kernel
abbrev cX0_init : ByteArray := prog_2_method_1_code
def yX0_init : MethodName := ⟨RX0, "<init>", "()V"⟩
abbrev cX0_weigh : ByteArray := prog_2_method_2_code
def yX0_weigh : MethodName := ⟨RX0, "weigh", "(LAnchoredComments$Note;LAnchoredComments$Text;ILAnchoredComments$Finder;)V"⟩
abbrev cX0_beNothing : ByteArray := prog_2_method_3_code
def yX0_beNothing : MethodName := ⟨RX0, "beNothing", "()V"⟩
abbrev cX0_addUp : ByteArray := prog_2_method_4_code
def yX0_addUp : MethodName := ⟨RX0, "addUp", "(LAnchoredComments$Choices;)V"⟩
abbrev cX0_sumFrom : ByteArray := prog_2_method_5_code
def yX0_sumFrom : MethodName := ⟨RX0, "sumFrom", "(I)I"⟩
abbrev cX0_endAt : ByteArray := prog_2_method_6_code
def yX0_endAt : MethodName := ⟨RX0, "endAt", "(I)I"⟩
abbrev cX0_choose : ByteArray := prog_2_method_7_code
def yX0_choose : MethodName := ⟨RX0, "choose", "(ILAnchoredComments$Choices;)I"⟩
def RX1 : String := "AnchoredComments$Finder"
def TX1 : u_T := fun k => match k with
  | 0 => ("AnchoredComments$Finder", "row", "[I", true)
  | 1 => ("AnchoredComments$Finder", "bestScore", "I", false)
  | 2 => ("AnchoredComments$Finder", "bestStart", "I", false)
  | 3 => ("AnchoredComments$Finder", "bestEnd", "I", false)
  | _ => ("AnchoredComments$Finder", "endHere", "I", false)
def tyX1 : Nat → FieldType := fun k => match k with
  | 0 => .array .int
  | 1 => .int
  | 2 => .int
  | 3 => .int
  | _ => .int
abbrev wsX10 : List Cond := u_ws RX1 TX1 5
theorem nmX1 : ∀ a, a < 5 → ∀ b, b < 5 → a ≠ b → (TX1 a).2.1 ≠ (TX1 b).2.1 := by decide +kernel
theorem tyX1_ok : ∀ k, k < 5 → parseFieldDescriptor (TX1 k).2.2.1 = some (tyX1 k) := by decide +kernel
abbrev cX1_init : ByteArray := prog_3_method_1_code
def yX1_init : MethodName := ⟨RX1, "<init>", "()V"⟩
abbrev cX1_distanceTo : ByteArray := prog_3_method_2_code
def yX1_distanceTo : MethodName := ⟨RX1, "distanceTo", "(LAnchoredComments$Note;LAnchoredComments$Text;II)I"⟩
abbrev cX1_search : ByteArray := prog_3_method_3_code
def yX1_search : MethodName := ⟨RX1, "search", "(LAnchoredComments$Note;LAnchoredComments$Text;)V"⟩
abbrev cX1_searchAt : ByteArray := prog_3_method_4_code
def yX1_searchAt : MethodName := ⟨RX1, "searchAt", "(LAnchoredComments$Note;LAnchoredComments$Text;I)I"⟩
abbrev cX1_beginRow : ByteArray := prog_3_method_5_code
def yX1_beginRow : MethodName := ⟨RX1, "beginRow", "()V"⟩
abbrev cX1_takeLetter : ByteArray := prog_3_method_6_code
def yX1_takeLetter : MethodName := ⟨RX1, "takeLetter", "(LAnchoredComments$Text;I)V"⟩
abbrev cX1_endOfRow : ByteArray := prog_3_method_7_code
def yX1_endOfRow : MethodName := ⟨RX1, "endOfRow", "(LAnchoredComments$Text;)I"⟩
def RX2 : String := "AnchoredComments$History"
def TX2 : u_T := fun k => match k with
  | 0 => ("AnchoredComments$History", "pages", "[LAnchoredComments$Page;", true)
  | _ => ("AnchoredComments$History", "count", "I", false)
def tyX2 : Nat → FieldType := fun k => match k with
  | 0 => .array (.object "AnchoredComments$Page")
  | _ => .int
abbrev wsX20 : List Cond := u_ws RX2 TX2 2
theorem nmX2 : ∀ a, a < 2 → ∀ b, b < 2 → a ≠ b → (TX2 a).2.1 ≠ (TX2 b).2.1 := by decide +kernel
theorem tyX2_ok : ∀ k, k < 2 → parseFieldDescriptor (TX2 k).2.2.1 = some (tyX2 k) := by decide +kernel
abbrev cX2_init : ByteArray := prog_4_method_1_code
def yX2_init : MethodName := ⟨RX2, "<init>", "()V"⟩
abbrev cX2_record : ByteArray := prog_4_method_2_code
def yX2_record : MethodName := ⟨RX2, "record", "(LAnchoredComments$Page;)V"⟩
abbrev cX2_dropOldest : ByteArray := prog_4_method_3_code
def yX2_dropOldest : MethodName := ⟨RX2, "dropOldest", "()V"⟩
abbrev cX2_stepBack : ByteArray := prog_4_method_4_code
def yX2_stepBack : MethodName := ⟨RX2, "stepBack", "(LAnchoredComments$Page;)V"⟩
def RX3 : String := "AnchoredComments$Note"
def TX3 : u_T := fun k => match k with
  | 0 => ("AnchoredComments$Note", "prefix", "LAnchoredComments$Text;", true)
  | 1 => ("AnchoredComments$Note", "quote", "LAnchoredComments$Text;", true)
  | 2 => ("AnchoredComments$Note", "suffix", "LAnchoredComments$Text;", true)
  | 3 => ("AnchoredComments$Note", "number", "I", false)
  | 4 => ("AnchoredComments$Note", "kind", "I", false)
  | 5 => ("AnchoredComments$Note", "start", "I", false)
  | 6 => ("AnchoredComments$Note", "end", "I", false)
  | _ => ("AnchoredComments$Note", "weight", "I", false)
def tyX3 : Nat → FieldType := fun k => match k with
  | 0 => .object "AnchoredComments$Text"
  | 1 => .object "AnchoredComments$Text"
  | 2 => .object "AnchoredComments$Text"
  | 3 => .int
  | 4 => .int
  | 5 => .int
  | 6 => .int
  | _ => .int
abbrev wsX30 : List Cond := u_ws RX3 TX3 8
theorem nmX3 : ∀ a, a < 8 → ∀ b, b < 8 → a ≠ b → (TX3 a).2.1 ≠ (TX3 b).2.1 := by decide +kernel
theorem tyX3_ok : ∀ k, k < 8 → parseFieldDescriptor (TX3 k).2.2.1 = some (tyX3 k) := by decide +kernel
abbrev cX3_init : ByteArray := prog_5_method_1_code
def yX3_init : MethodName := ⟨RX3, "<init>", "()V"⟩
abbrev cX3_become : ByteArray := prog_5_method_2_code
def yX3_become : MethodName := ⟨RX3, "become", "(LAnchoredComments$Note;)V"⟩
abbrev cX3_begin : ByteArray := prog_5_method_3_code
def yX3_begin : MethodName := ⟨RX3, "begin", "(IIILAnchoredComments$Text;)V"⟩
abbrev cX3_attachTo : ByteArray := prog_5_method_4_code
def yX3_attachTo : MethodName := ⟨RX3, "attachTo", "(II)V"⟩
abbrev cX3_quoteFrom : ByteArray := prog_5_method_5_code
def yX3_quoteFrom : MethodName := ⟨RX3, "quoteFrom", "(LAnchoredComments$Text;)V"⟩
abbrev cX3_moveForInsert : ByteArray := prog_5_method_6_code
def yX3_moveForInsert : MethodName := ⟨RX3, "moveForInsert", "(II)V"⟩
abbrev cX3_moveForDelete : ByteArray := prog_5_method_7_code
def yX3_moveForDelete : MethodName := ⟨RX3, "moveForDelete", "(II)Z"⟩
abbrev cX3_boundAfterDelete : ByteArray := prog_5_method_8_code
def yX3_boundAfterDelete : MethodName := ⟨RX3, "boundAfterDelete", "(III)I"⟩
abbrev cX3_moveForReplacement : ByteArray := prog_5_method_9_code
def yX3_moveForReplacement : MethodName := ⟨RX3, "moveForReplacement", "(I)V"⟩
abbrev cX3_isTwinOf : ByteArray := prog_5_method_10_code
def yX3_isTwinOf : MethodName := ⟨RX3, "isTwinOf", "(LAnchoredComments$Note;)Z"⟩
abbrev cX3_covers : ByteArray := prog_5_method_11_code
def yX3_covers : MethodName := ⟨RX3, "covers", "(I)Z"⟩
abbrev cX3_standsBefore : ByteArray := prog_5_method_12_code
def yX3_standsBefore : MethodName := ⟨RX3, "standsBefore", "(LAnchoredComments$Note;)Z"⟩
abbrev cX3_scoreOf : ByteArray := prog_5_method_13_code
def yX3_scoreOf : MethodName := ⟨RX3, "scoreOf", "(ILAnchoredComments$Text;II)I"⟩
abbrev cX3_likeBefore : ByteArray := prog_5_method_14_code
def yX3_likeBefore : MethodName := ⟨RX3, "likeBefore", "(LAnchoredComments$Text;I)I"⟩
abbrev cX3_likeBehind : ByteArray := prog_5_method_15_code
def yX3_likeBehind : MethodName := ⟨RX3, "likeBehind", "(LAnchoredComments$Text;I)I"⟩
def RX4 : String := "AnchoredComments$Page"
def TX4 : u_T := fun k => match k with
  | 0 => ("AnchoredComments$Page", "document", "LAnchoredComments$Text;", true)
  | 1 => ("AnchoredComments$Page", "notes", "[LAnchoredComments$Note;", true)
  | 2 => ("AnchoredComments$Page", "count", "I", false)
  | _ => ("AnchoredComments$Page", "next", "I", false)
def tyX4 : Nat → FieldType := fun k => match k with
  | 0 => .object "AnchoredComments$Text"
  | 1 => .array (.object "AnchoredComments$Note")
  | 2 => .int
  | _ => .int
abbrev wsX40 : List Cond := u_ws RX4 TX4 4
theorem nmX4 : ∀ a, a < 4 → ∀ b, b < 4 → a ≠ b → (TX4 a).2.1 ≠ (TX4 b).2.1 := by decide +kernel
theorem tyX4_ok : ∀ k, k < 4 → parseFieldDescriptor (TX4 k).2.2.1 = some (tyX4 k) := by decide +kernel
abbrev cX4_init : ByteArray := prog_6_method_1_code
def yX4_init : MethodName := ⟨RX4, "<init>", "()V"⟩
abbrev cX4_become : ByteArray := prog_6_method_2_code
def yX4_become : MethodName := ⟨RX4, "become", "(LAnchoredComments$Page;)V"⟩
abbrev cX4_indexOf : ByteArray := prog_6_method_3_code
def yX4_indexOf : MethodName := ⟨RX4, "indexOf", "(I)I"⟩
abbrev cX4_find : ByteArray := prog_6_method_4_code
def yX4_find : MethodName := ⟨RX4, "find", "(I)LAnchoredComments$Note;"⟩
abbrev cX4_addNote : ByteArray := prog_6_method_5_code
def yX4_addNote : MethodName := ⟨RX4, "addNote", "(II)I"⟩
abbrev cX4_drop : ByteArray := prog_6_method_6_code
def yX4_drop : MethodName := ⟨RX4, "drop", "(I)V"⟩
abbrev cX4_replaceDocument : ByteArray := prog_6_method_7_code
def yX4_replaceDocument : MethodName := ⟨RX4, "replaceDocument", "(LAnchoredComments$Text;)V"⟩
abbrev cX4_putIn : ByteArray := prog_6_method_8_code
def yX4_putIn : MethodName := ⟨RX4, "putIn", "(ILAnchoredComments$Text;)V"⟩
abbrev cX4_cutOut : ByteArray := prog_6_method_9_code
def yX4_cutOut : MethodName := ⟨RX4, "cutOut", "(II)I"⟩
abbrev cX4_hasTwins : ByteArray := prog_6_method_10_code
def yX4_hasTwins : MethodName := ⟨RX4, "hasTwins", "()Z"⟩
abbrev cX4_mergeTwins : ByteArray := prog_6_method_11_code
def yX4_mergeTwins : MethodName := ⟨RX4, "mergeTwins", "()I"⟩
abbrev cX4_firstTwin : ByteArray := prog_6_method_12_code
def yX4_firstTwin : MethodName := ⟨RX4, "firstTwin", "(I)I"⟩
abbrev cX4_numberCovering : ByteArray := prog_6_method_13_code
def yX4_numberCovering : MethodName := ⟨RX4, "numberCovering", "(II)I"⟩
abbrev cX4_rankOf : ByteArray := prog_6_method_14_code
def yX4_rankOf : MethodName := ⟨RX4, "rankOf", "(LAnchoredComments$Note;I)I"⟩
def RX5 : String := "AnchoredComments$Planner"
def TX5 : u_T := fun k => match k with
  | 0 => ("AnchoredComments$Planner", "orphans", "[LAnchoredComments$Note;", true)
  | 1 => ("AnchoredComments$Planner", "choices", "[LAnchoredComments$Choices;", true)
  | _ => ("AnchoredComments$Planner", "count", "I", false)
def tyX5 : Nat → FieldType := fun k => match k with
  | 0 => .array (.object "AnchoredComments$Note")
  | 1 => .array (.object "AnchoredComments$Choices")
  | _ => .int
abbrev wsX50 : List Cond := u_ws RX5 TX5 3
theorem nmX5 : ∀ a, a < 3 → ∀ b, b < 3 → a ≠ b → (TX5 a).2.1 ≠ (TX5 b).2.1 := by decide +kernel
theorem tyX5_ok : ∀ k, k < 3 → parseFieldDescriptor (TX5 k).2.2.1 = some (tyX5 k) := by decide +kernel
abbrev cX5_init : ByteArray := prog_7_method_1_code
def yX5_init : MethodName := ⟨RX5, "<init>", "()V"⟩
abbrev cX5_gather : ByteArray := prog_7_method_2_code
def yX5_gather : MethodName := ⟨RX5, "gather", "(LAnchoredComments$Page;)I"⟩
abbrev cX5_takeIn : ByteArray := prog_7_method_3_code
def yX5_takeIn : MethodName := ⟨RX5, "takeIn", "(LAnchoredComments$Note;)V"⟩
abbrev cX5_plan : ByteArray := prog_7_method_4_code
def yX5_plan : MethodName := ⟨RX5, "plan", "(LAnchoredComments$Text;ILAnchoredComments$Finder;)V"⟩
abbrev cX5_carryOut : ByteArray := prog_7_method_5_code
def yX5_carryOut : MethodName := ⟨RX5, "carryOut", "()I"⟩
def RX6 : String := "AnchoredComments$Slot"
def TX6 : u_T := fun k => match k with
  | 0 => ("AnchoredComments$Slot", "page", "LAnchoredComments$Page;", true)
  | 1 => ("AnchoredComments$Slot", "threshold", "I", false)
  | _ => ("AnchoredComments$Slot", "used", "Z", false)
def tyX6 : Nat → FieldType := fun k => match k with
  | 0 => .object "AnchoredComments$Page"
  | 1 => .int
  | _ => .boolean
abbrev wsX60 : List Cond := u_ws RX6 TX6 3
theorem nmX6 : ∀ a, a < 3 → ∀ b, b < 3 → a ≠ b → (TX6 a).2.1 ≠ (TX6 b).2.1 := by decide +kernel
theorem tyX6_ok : ∀ k, k < 3 → parseFieldDescriptor (TX6 k).2.2.1 = some (tyX6 k) := by decide +kernel
abbrev cX6_init : ByteArray := prog_8_method_1_code
def yX6_init : MethodName := ⟨RX6, "<init>", "()V"⟩
def RX7 : String := "AnchoredComments$Text"
def TX7 : u_T := fun k => match k with
  | 0 => ("AnchoredComments$Text", "letters", "[I", true)
  | _ => ("AnchoredComments$Text", "size", "I", false)
def tyX7 : Nat → FieldType := fun k => match k with
  | 0 => .array .int
  | _ => .int
abbrev wsX70 : List Cond := u_ws RX7 TX7 2
theorem nmX7 : ∀ a, a < 2 → ∀ b, b < 2 → a ≠ b → (TX7 a).2.1 ≠ (TX7 b).2.1 := by decide +kernel
theorem tyX7_ok : ∀ k, k < 2 → parseFieldDescriptor (TX7 k).2.2.1 = some (tyX7 k) := by decide +kernel
abbrev cX7_init : ByteArray := prog_9_method_1_code
def yX7_init : MethodName := ⟨RX7, "<init>", "(I)V"⟩
abbrev cX7_at : ByteArray := prog_9_method_2_code
def yX7_at : MethodName := ⟨RX7, "at", "(I)I"⟩
abbrev cX7_empty : ByteArray := prog_9_method_3_code
def yX7_empty : MethodName := ⟨RX7, "empty", "()V"⟩
abbrev cX7_append : ByteArray := prog_9_method_4_code
def yX7_append : MethodName := ⟨RX7, "append", "(I)V"⟩
abbrev cX7_become : ByteArray := prog_9_method_5_code
def yX7_become : MethodName := ⟨RX7, "become", "(LAnchoredComments$Text;)V"⟩
abbrev cX7_copyPart : ByteArray := prog_9_method_6_code
def yX7_copyPart : MethodName := ⟨RX7, "copyPart", "(LAnchoredComments$Text;II)V"⟩
abbrev cX7_putLetters : ByteArray := prog_9_method_7_code
def yX7_putLetters : MethodName := ⟨RX7, "putLetters", "(ILAnchoredComments$Text;)V"⟩
abbrev cX7_cutLetters : ByteArray := prog_9_method_8_code
def yX7_cutLetters : MethodName := ⟨RX7, "cutLetters", "(II)V"⟩
def RX8 : String := "AnchoredComments"
def TX8 : u_T := fun k => match k with
  | 0 => ("AnchoredComments", "buffer", "LAnchoredComments$Text;", true)
  | 1 => ("AnchoredComments", "page", "LAnchoredComments$Page;", true)
  | 2 => ("AnchoredComments", "history", "LAnchoredComments$History;", true)
  | 3 => ("AnchoredComments", "slot0", "LAnchoredComments$Slot;", true)
  | 4 => ("AnchoredComments", "slot1", "LAnchoredComments$Slot;", true)
  | 5 => ("AnchoredComments", "finder", "LAnchoredComments$Finder;", true)
  | 6 => ("AnchoredComments", "planner", "LAnchoredComments$Planner;", true)
  | _ => ("AnchoredComments", "threshold", "I", false)
def tyX8 : Nat → FieldType := fun k => match k with
  | 0 => .object "AnchoredComments$Text"
  | 1 => .object "AnchoredComments$Page"
  | 2 => .object "AnchoredComments$History"
  | 3 => .object "AnchoredComments$Slot"
  | 4 => .object "AnchoredComments$Slot"
  | 5 => .object "AnchoredComments$Finder"
  | 6 => .object "AnchoredComments$Planner"
  | _ => .int
abbrev wsX80 : List Cond := u_ws RX8 TX8 8
theorem nmX8 : ∀ a, a < 8 → ∀ b, b < 8 → a ≠ b → (TX8 a).2.1 ≠ (TX8 b).2.1 := by decide +kernel
theorem tyX8_ok : ∀ k, k < 8 → parseFieldDescriptor (TX8 k).2.2.1 = some (tyX8 k) := by decide +kernel
abbrev cX8_init : ByteArray := prog_1_method_1_code
def yX8_init : MethodName := ⟨RX8, "<init>", "()V"⟩
abbrev cX8_type : ByteArray := prog_1_method_2_code
def yX8_type : MethodName := ⟨RX8, "type", "(I)I"⟩
abbrev cX8_clearBuffer : ByteArray := prog_1_method_3_code
def yX8_clearBuffer : MethodName := ⟨RX8, "clearBuffer", "()I"⟩
abbrev cX8_load : ByteArray := prog_1_method_4_code
def yX8_load : MethodName := ⟨RX8, "load", "()I"⟩
abbrev cX8_insert : ByteArray := prog_1_method_5_code
def yX8_insert : MethodName := ⟨RX8, "insert", "(I)I"⟩
abbrev cX8_delete : ByteArray := prog_1_method_6_code
def yX8_delete : MethodName := ⟨RX8, "delete", "(II)I"⟩
abbrev cX8_comment : ByteArray := prog_1_method_7_code
def yX8_comment : MethodName := ⟨RX8, "comment", "(II)I"⟩
abbrev cX8_remove : ByteArray := prog_1_method_8_code
def yX8_remove : MethodName := ⟨RX8, "remove", "(I)I"⟩
abbrev cX8_quoteAnew : ByteArray := prog_1_method_9_code
def yX8_quoteAnew : MethodName := ⟨RX8, "quoteAnew", "(I)I"⟩
abbrev cX8_attach : ByteArray := prog_1_method_10_code
def yX8_attach : MethodName := ⟨RX8, "attach", "(I)I"⟩
abbrev cX8_attachAll : ByteArray := prog_1_method_11_code
def yX8_attachAll : MethodName := ⟨RX8, "attachAll", "()I"⟩
abbrev cX8_merge : ByteArray := prog_1_method_12_code
def yX8_merge : MethodName := ⟨RX8, "merge", "()I"⟩
abbrev cX8_undo : ByteArray := prog_1_method_13_code
def yX8_undo : MethodName := ⟨RX8, "undo", "()I"⟩
abbrev cX8_length : ByteArray := prog_1_method_14_code
def yX8_length : MethodName := ⟨RX8, "length", "()I"⟩
abbrev cX8_letter : ByteArray := prog_1_method_15_code
def yX8_letter : MethodName := ⟨RX8, "letter", "(I)I"⟩
abbrev cX8_comments : ByteArray := prog_1_method_16_code
def yX8_comments : MethodName := ⟨RX8, "comments", "()I"⟩
abbrev cX8_commentAt : ByteArray := prog_1_method_17_code
def yX8_commentAt : MethodName := ⟨RX8, "commentAt", "(I)I"⟩
abbrev cX8_state : ByteArray := prog_1_method_18_code
def yX8_state : MethodName := ⟨RX8, "state", "(I)I"⟩
abbrev cX8_range : ByteArray := prog_1_method_19_code
def yX8_range : MethodName := ⟨RX8, "range", "(IZ)I"⟩
abbrev cX8_weight : ByteArray := prog_1_method_20_code
def yX8_weight : MethodName := ⟨RX8, "weight", "(I)I"⟩
abbrev cX8_quoted : ByteArray := prog_1_method_21_code
def yX8_quoted : MethodName := ⟨RX8, "quoted", "(III)I"⟩
abbrev cX8_distance : ByteArray := prog_1_method_22_code
def yX8_distance : MethodName := ⟨RX8, "distance", "(I)I"⟩
abbrev cX8_score : ByteArray := prog_1_method_23_code
def yX8_score : MethodName := ⟨RX8, "score", "(III)I"⟩
abbrev cX8_best : ByteArray := prog_1_method_24_code
def yX8_best : MethodName := ⟨RX8, "best", "(II)I"⟩
abbrev cX8_overlap : ByteArray := prog_1_method_25_code
def yX8_overlap : MethodName := ⟨RX8, "overlap", "(II)I"⟩
abbrev cX8_covering : ByteArray := prog_1_method_26_code
def yX8_covering : MethodName := ⟨RX8, "covering", "(II)I"⟩
abbrev cX8_setThreshold : ByteArray := prog_1_method_27_code
def yX8_setThreshold : MethodName := ⟨RX8, "setThreshold", "(I)I"⟩
abbrev cX8_save : ByteArray := prog_1_method_28_code
def yX8_save : MethodName := ⟨RX8, "save", "(I)I"⟩
abbrev cX8_restore : ByteArray := prog_1_method_29_code
def yX8_restore : MethodName := ⟨RX8, "restore", "(I)I"⟩
abbrev cX8_checksum : ByteArray := prog_1_method_30_code
def yX8_checksum : MethodName := ⟨RX8, "checksum", "()J"⟩
abbrev cX8_mixNote : ByteArray := prog_1_method_31_code
def yX8_mixNote : MethodName := ⟨RX8, "mixNote", "(JLAnchoredComments$Note;)J"⟩
abbrev cX8_mixText : ByteArray := prog_1_method_32_code
def yX8_mixText : MethodName := ⟨RX8, "mixText", "(JLAnchoredComments$Text;)J"⟩
abbrev cX8_mix : ByteArray := prog_1_method_33_code
def yX8_mix : MethodName := ⟨RX8, "mix", "(JI)J"⟩
abbrev cX8_isPosition : ByteArray := prog_1_method_34_code
def yX8_isPosition : MethodName := ⟨RX8, "isPosition", "(I)Z"⟩
abbrev cX8_isLetterIndex : ByteArray := prog_1_method_35_code
def yX8_isLetterIndex : MethodName := ⟨RX8, "isLetterIndex", "(I)Z"⟩
abbrev cX8_isRange : ByteArray := prog_1_method_36_code
def yX8_isRange : MethodName := ⟨RX8, "isRange", "(III)Z"⟩
def RX9 : String := "AnchoredCommentsModel"
def TX9 : u_T := fun k => match k with
  | 0 => ("AnchoredCommentsModel", "v", "[I", true)
  | 1 => ("AnchoredCommentsModel", "spare", "[I", true)
  | 2 => ("AnchoredCommentsModel", "past", "[I", true)
  | 3 => ("AnchoredCommentsModel", "pasts", "I", false)
  | 4 => ("AnchoredCommentsModel", "kept", "[I", true)
  | 5 => ("AnchoredCommentsModel", "isKept", "[Z", true)
  | 6 => ("AnchoredCommentsModel", "threshold", "I", false)
  | 7 => ("AnchoredCommentsModel", "buffer", "[I", true)
  | 8 => ("AnchoredCommentsModel", "buffered", "I", false)
  | 9 => ("AnchoredCommentsModel", "line", "[I", true)
  | 10 => ("AnchoredCommentsModel", "top", "I", false)
  | 11 => ("AnchoredCommentsModel", "topLength", "I", false)
  | 12 => ("AnchoredCommentsModel", "bestScore", "I", false)
  | 13 => ("AnchoredCommentsModel", "bestStart", "I", false)
  | 14 => ("AnchoredCommentsModel", "bestLength", "I", false)
  | 15 => ("AnchoredCommentsModel", "order", "[I", true)
  | 16 => ("AnchoredCommentsModel", "orphans", "I", false)
  | 17 => ("AnchoredCommentsModel", "scores", "[I", true)
  | 18 => ("AnchoredCommentsModel", "lengths", "[I", true)
  | _ => ("AnchoredCommentsModel", "sums", "[I", true)
def tyX9 : Nat → FieldType := fun k => match k with
  | 0 => .array .int
  | 1 => .array .int
  | 2 => .array .int
  | 3 => .int
  | 4 => .array .int
  | 5 => .array .boolean
  | 6 => .int
  | 7 => .array .int
  | 8 => .int
  | 9 => .array .int
  | 10 => .int
  | 11 => .int
  | 12 => .int
  | 13 => .int
  | 14 => .int
  | 15 => .array .int
  | 16 => .int
  | 17 => .array .int
  | 18 => .array .int
  | _ => .array .int
abbrev wsX90 : List Cond := u_ws RX9 TX9 20
theorem nmX9 : ∀ a, a < 20 → ∀ b, b < 20 → a ≠ b → (TX9 a).2.1 ≠ (TX9 b).2.1 := by decide +kernel
theorem tyX9_ok : ∀ k, k < 20 → parseFieldDescriptor (TX9 k).2.2.1 = some (tyX9 k) := by decide +kernel
abbrev cX9_init : ByteArray := prog_11_method_1_code
def yX9_init : MethodName := ⟨RX9, "<init>", "()V"⟩
abbrev cX9_in : ByteArray := prog_11_method_3_code
def yX9_in : MethodName := ⟨RX9, "in", "(III)Z"⟩
abbrev cX9_least : ByteArray := prog_11_method_4_code
def yX9_least : MethodName := ⟨RX9, "least", "(II)I"⟩
abbrev cX9_at : ByteArray := prog_11_method_5_code
def yX9_at : MethodName := ⟨RX9, "at", "(II)I"⟩
abbrev cX9_find : ByteArray := prog_11_method_6_code
def yX9_find : MethodName := ⟨RX9, "find", "(I)I"⟩
abbrev cX9_isPosition : ByteArray := prog_11_method_7_code
def yX9_isPosition : MethodName := ⟨RX9, "isPosition", "(I)Z"⟩
abbrev cX9_copies : ByteArray := prog_11_method_8_code
def yX9_copies : MethodName := ⟨RX9, "copies", "([II[II)V"⟩
abbrev cX9_begins : ByteArray := prog_11_method_9_code
def yX9_begins : MethodName := ⟨RX9, "begins", "()V"⟩
abbrev cX9_made : ByteArray := prog_11_method_10_code
def yX9_made : MethodName := ⟨RX9, "made", "(I)I"⟩
abbrev cX9_type : ByteArray := prog_11_method_11_code
def yX9_type : MethodName := ⟨RX9, "type", "(I)I"⟩
abbrev cX9_clearBuffer : ByteArray := prog_11_method_12_code
def yX9_clearBuffer : MethodName := ⟨RX9, "clearBuffer", "()I"⟩
abbrev cX9_load : ByteArray := prog_11_method_13_code
def yX9_load : MethodName := ⟨RX9, "load", "()I"⟩
abbrev cX9_insert : ByteArray := prog_11_method_14_code
def yX9_insert : MethodName := ⟨RX9, "insert", "(I)I"⟩
abbrev cX9_without : ByteArray := prog_11_method_15_code
def yX9_without : MethodName := ⟨RX9, "without", "(III)I"⟩
abbrev cX9_delete : ByteArray := prog_11_method_16_code
def yX9_delete : MethodName := ⟨RX9, "delete", "(II)I"⟩
abbrev cX9_quotesPart : ByteArray := prog_11_method_17_code
def yX9_quotesPart : MethodName := ⟨RX9, "quotesPart", "(IIII)V"⟩
abbrev cX9_quotes : ByteArray := prog_11_method_18_code
def yX9_quotes : MethodName := ⟨RX9, "quotes", "(I)V"⟩
abbrev cX9_comment : ByteArray := prog_11_method_19_code
def yX9_comment : MethodName := ⟨RX9, "comment", "(II)I"⟩
abbrev cX9_removes : ByteArray := prog_11_method_20_code
def yX9_removes : MethodName := ⟨RX9, "removes", "(I)V"⟩
abbrev cX9_remove : ByteArray := prog_11_method_21_code
def yX9_remove : MethodName := ⟨RX9, "remove", "(I)I"⟩
abbrev cX9_quoteAnew : ByteArray := prog_11_method_22_code
def yX9_quoteAnew : MethodName := ⟨RX9, "quoteAnew", "(I)I"⟩
abbrev cX9_startsLine : ByteArray := prog_11_method_23_code
def yX9_startsLine : MethodName := ⟨RX9, "startsLine", "(I)V"⟩
abbrev cX9_goesOn : ByteArray := prog_11_method_24_code
def yX9_goesOn : MethodName := ⟨RX9, "goesOn", "(II)V"⟩
abbrev cX9_distanceOf : ByteArray := prog_11_method_25_code
def yX9_distanceOf : MethodName := ⟨RX9, "distanceOf", "(III)I"⟩
abbrev cX9_before : ByteArray := prog_11_method_26_code
def yX9_before : MethodName := ⟨RX9, "before", "(II)I"⟩
abbrev cX9_behind : ByteArray := prog_11_method_27_code
def yX9_behind : MethodName := ⟨RX9, "behind", "(II)I"⟩
abbrev cX9_scored : ByteArray := prog_11_method_28_code
def yX9_scored : MethodName := ⟨RX9, "scored", "(IIII)I"⟩
abbrev cX9_bestAt : ByteArray := prog_11_method_29_code
def yX9_bestAt : MethodName := ⟨RX9, "bestAt", "(II)Z"⟩
abbrev cX9_findBest : ByteArray := prog_11_method_30_code
def yX9_findBest : MethodName := ⟨RX9, "findBest", "(I)Z"⟩
abbrev cX9_attaches : ByteArray := prog_11_method_31_code
def yX9_attaches : MethodName := ⟨RX9, "attaches", "(III)V"⟩
abbrev cX9_attach : ByteArray := prog_11_method_32_code
def yX9_attach : MethodName := ⟨RX9, "attach", "(I)I"⟩
abbrev cX9_findOrder : ByteArray := prog_11_method_33_code
def yX9_findOrder : MethodName := ⟨RX9, "findOrder", "()V"⟩
abbrev cX9_findScores : ByteArray := prog_11_method_34_code
def yX9_findScores : MethodName := ⟨RX9, "findScores", "()V"⟩
abbrev cX9_worth : ByteArray := prog_11_method_35_code
def yX9_worth : MethodName := ⟨RX9, "worth", "(II)I"⟩
abbrev cX9_findSums : ByteArray := prog_11_method_36_code
def yX9_findSums : MethodName := ⟨RX9, "findSums", "()V"⟩
abbrev cX9_chosen : ByteArray := prog_11_method_37_code
def yX9_chosen : MethodName := ⟨RX9, "chosen", "(II)I"⟩
abbrev cX9_attachAll : ByteArray := prog_11_method_38_code
def yX9_attachAll : MethodName := ⟨RX9, "attachAll", "()I"⟩
abbrev cX9_isLike : ByteArray := prog_11_method_39_code
def yX9_isLike : MethodName := ⟨RX9, "isLike", "(II)Z"⟩
abbrev cX9_merge : ByteArray := prog_11_method_40_code
def yX9_merge : MethodName := ⟨RX9, "merge", "()I"⟩
abbrev cX9_undo : ByteArray := prog_11_method_41_code
def yX9_undo : MethodName := ⟨RX9, "undo", "()I"⟩
abbrev cX9_length : ByteArray := prog_11_method_42_code
def yX9_length : MethodName := ⟨RX9, "length", "()I"⟩
abbrev cX9_isLetter : ByteArray := prog_11_method_43_code
def yX9_isLetter : MethodName := ⟨RX9, "isLetter", "(I)Z"⟩
abbrev cX9_letter : ByteArray := prog_11_method_44_code
def yX9_letter : MethodName := ⟨RX9, "letter", "(I)I"⟩
abbrev cX9_comments : ByteArray := prog_11_method_45_code
def yX9_comments : MethodName := ⟨RX9, "comments", "()I"⟩
abbrev cX9_commentAt : ByteArray := prog_11_method_46_code
def yX9_commentAt : MethodName := ⟨RX9, "commentAt", "(I)I"⟩
abbrev cX9_of : ByteArray := prog_11_method_47_code
def yX9_of : MethodName := ⟨RX9, "of", "(II)I"⟩
abbrev cX9_state : ByteArray := prog_11_method_48_code
def yX9_state : MethodName := ⟨RX9, "state", "(I)I"⟩
abbrev cX9_range : ByteArray := prog_11_method_49_code
def yX9_range : MethodName := ⟨RX9, "range", "(IZ)I"⟩
abbrev cX9_weight : ByteArray := prog_11_method_50_code
def yX9_weight : MethodName := ⟨RX9, "weight", "(I)I"⟩
abbrev cX9_quoted : ByteArray := prog_11_method_51_code
def yX9_quoted : MethodName := ⟨RX9, "quoted", "(III)I"⟩
abbrev cX9_distance : ByteArray := prog_11_method_52_code
def yX9_distance : MethodName := ⟨RX9, "distance", "(I)I"⟩
abbrev cX9_score : ByteArray := prog_11_method_53_code
def yX9_score : MethodName := ⟨RX9, "score", "(III)I"⟩
abbrev cX9_best : ByteArray := prog_11_method_54_code
def yX9_best : MethodName := ⟨RX9, "best", "(II)I"⟩
abbrev cX9_overlap : ByteArray := prog_11_method_55_code
def yX9_overlap : MethodName := ⟨RX9, "overlap", "(II)I"⟩
abbrev cX9_isBefore : ByteArray := prog_11_method_56_code
def yX9_isBefore : MethodName := ⟨RX9, "isBefore", "(II)Z"⟩
abbrev cX9_covers : ByteArray := prog_11_method_57_code
def yX9_covers : MethodName := ⟨RX9, "covers", "(II)Z"⟩
abbrev cX9_covering : ByteArray := prog_11_method_58_code
def yX9_covering : MethodName := ⟨RX9, "covering", "(II)I"⟩
abbrev cX9_setThreshold : ByteArray := prog_11_method_59_code
def yX9_setThreshold : MethodName := ⟨RX9, "setThreshold", "(I)I"⟩
abbrev cX9_save : ByteArray := prog_11_method_60_code
def yX9_save : MethodName := ⟨RX9, "save", "(I)I"⟩
abbrev cX9_restore : ByteArray := prog_11_method_61_code
def yX9_restore : MethodName := ⟨RX9, "restore", "(I)I"⟩
abbrev cX9_more : ByteArray := prog_11_method_62_code
def yX9_more : MethodName := ⟨RX9, "more", "(JI)J"⟩
abbrev cX9_moreOfPart : ByteArray := prog_11_method_63_code
def yX9_moreOfPart : MethodName := ⟨RX9, "moreOfPart", "(JII)J"⟩
abbrev cX9_checksum : ByteArray := prog_11_method_64_code
def yX9_checksum : MethodName := ⟨RX9, "checksum", "()J"⟩
def RJ9 : String := "java/lang/Math"
def TJ9 : u_T := fun k => match k with
  | _ => ("", "", "", false)
def tyJ9 : Nat → FieldType := fun k => match k with
  | _ => .int
theorem nmJ9 : ∀ a, a < 0 → ∀ b, b < 0 → a ≠ b → (TJ9 a).2.1 ≠ (TJ9 b).2.1 := by decide +kernel
theorem tyJ9_ok : ∀ k, k < 0 → parseFieldDescriptor (TJ9 k).2.2.1 = some (tyJ9 k) := by decide +kernel
abbrev cJ9_abs_0f7a4 : ByteArray := prog_12_method_59_code
def yJ9_abs_0f7a4 : MethodName := ⟨RJ9, "abs", "(I)I"⟩
abbrev cJ9_max_7cf53 : ByteArray := prog_12_method_65_code
def yJ9_max_7cf53 : MethodName := ⟨RJ9, "max", "(II)I"⟩
abbrev cJ9_min_7cf53 : ByteArray := prog_12_method_69_code
def yJ9_min_7cf53 : MethodName := ⟨RJ9, "min", "(II)I"⟩
def RL : String := "AnchoredCommentsLaw"
abbrev cL_law : ByteArray := code
def yL_law : MethodName := ⟨RL, "law", "([I)Z"⟩
abbrev vwCl : List vw_C := [(RX0, TX0, 4), (RX1, TX1, 5), (RX2, TX2, 2), (RX3, TX3, 8), (RX4, TX4, 4), (RX5, TX5, 3), (RX6, TX6, 3), (RX7, TX7, 2), (RX8, TX8, 8), (RX9, TX9, 20)]
end
section
/-! worlds as functions of the address; the judgement Wp; its rules -/
def iI (z : Int) : Int32 := Int32.ofInt z
def bI (b : Bool) : Int32 := if b then 1 else 0
/-! small numbers as machine ints -/
theorem iI_nat (k : Nat) : iI (k : Int) = nI k := by
  first | rfl | (simp [iI, nI]; done) | (unfold iI nI; exact Int32.ofInt_eq_ofNat)
theorem iI_toInt {a : Int} (h : -2147483648 ≤ a ∧ a < 2147483648) : (iI a).toInt = a := Int32.toInt_ofInt_of_le (by have := h.1; omega) (by have := h.2; omega)
theorem iI_of (x : Int32) : iI x.toInt = x := by simp [iI]
theorem iI_bd (x : Int32) : -2147483648 ≤ x.toInt ∧ x.toInt < 2147483648 := ⟨Int32.le_toInt x, Int32.toInt_lt x⟩
theorem iI_add (a b : Int) : iI a + iI b = iI (a + b) := (Int32.ofInt_add a b).symm
theorem iI_sub (a b : Int) : iI a - iI b = iI (a - b) := (Int32.ofInt_sub a b).symm
theorem iI_mul (a b : Int) : iI a * iI b = iI (a * b) := (Int32.ofInt_mul a b).symm
theorem iI_neg (a : Int) : -iI a = iI (-a) := (Int32.ofInt_neg a).symm
theorem iI_inj {a b : Int} (ha : -2147483648 ≤ a ∧ a < 2147483648) (hb : -2147483648 ≤ b ∧ b < 2147483648) (h : iI a = iI b) : a = b := by
  have := congrArg Int32.toInt h
  rwa [iI_toInt ha, iI_toInt hb] at this
theorem iI_cmp_lt {a b : Int} (ha : -2147483648 ≤ a ∧ a < 2147483648) (hb : -2147483648 ≤ b ∧ b < 2147483648) : iI a < iI b ↔ a < b := by
  rw [Int32.lt_iff_toInt_lt, iI_toInt ha, iI_toInt hb]
theorem iI_cmp_le {a b : Int} (ha : -2147483648 ≤ a ∧ a < 2147483648) (hb : -2147483648 ≤ b ∧ b < 2147483648) : iI a ≤ iI b ↔ a ≤ b := by
  rw [Int32.le_iff_toInt_le, iI_toInt ha, iI_toInt hb]
theorem iI_eq_t {a b : Int} (ha : -2147483648 ≤ a ∧ a < 2147483648) (hb : -2147483648 ≤ b ∧ b < 2147483648) (h : iI a = iI b) : a = b := iI_inj ha hb h
theorem iI_eq_f {a b : Int} (ha : -2147483648 ≤ a ∧ a < 2147483648) (hb : -2147483648 ≤ b ∧ b < 2147483648) (h : ¬ iI a = iI b) : ¬ a = b := fun e => h (by rw [e])
theorem iI_ne_t {a b : Int} (ha : -2147483648 ≤ a ∧ a < 2147483648) (hb : -2147483648 ≤ b ∧ b < 2147483648) (h : iI a ≠ iI b) : ¬ a = b := fun e => h (by rw [e])
theorem iI_ne_f {a b : Int} (ha : -2147483648 ≤ a ∧ a < 2147483648) (hb : -2147483648 ≤ b ∧ b < 2147483648) (h : iI a = iI b) : a = b := iI_inj ha hb h
theorem iI_lt_t {a b : Int} (ha : -2147483648 ≤ a ∧ a < 2147483648) (hb : -2147483648 ≤ b ∧ b < 2147483648) (h : iI a < iI b) : a < b := (iI_cmp_lt ha hb).mp h
theorem iI_lt_f {a b : Int} (ha : -2147483648 ≤ a ∧ a < 2147483648) (hb : -2147483648 ≤ b ∧ b < 2147483648) (h : ¬ iI a < iI b) : b ≤ a := Int.not_lt.mp (fun e => h ((iI_cmp_lt ha hb).mpr e))
theorem iI_gt_t {a b : Int} (ha : -2147483648 ≤ a ∧ a < 2147483648) (hb : -2147483648 ≤ b ∧ b < 2147483648) (h : iI b < iI a) : b < a := (iI_cmp_lt hb ha).mp h
theorem iI_gt_f {a b : Int} (ha : -2147483648 ≤ a ∧ a < 2147483648) (hb : -2147483648 ≤ b ∧ b < 2147483648) (h : ¬ iI b < iI a) : a ≤ b := Int.not_lt.mp (fun e => h ((iI_cmp_lt hb ha).mpr e))
theorem iI_le_t {a b : Int} (ha : -2147483648 ≤ a ∧ a < 2147483648) (hb : -2147483648 ≤ b ∧ b < 2147483648) (h : iI a ≤ iI b) : a ≤ b := (iI_cmp_le ha hb).mp h
theorem iI_le_f {a b : Int} (ha : -2147483648 ≤ a ∧ a < 2147483648) (hb : -2147483648 ≤ b ∧ b < 2147483648) (h : ¬ iI a ≤ iI b) : b < a := Int.not_le.mp (fun e => h ((iI_cmp_le ha hb).mpr e))
theorem iI_ge_t {a b : Int} (ha : -2147483648 ≤ a ∧ a < 2147483648) (hb : -2147483648 ≤ b ∧ b < 2147483648) (h : iI b ≤ iI a) : b ≤ a := (iI_cmp_le hb ha).mp h
theorem iI_ge_f {a b : Int} (ha : -2147483648 ≤ a ∧ a < 2147483648) (hb : -2147483648 ≤ b ∧ b < 2147483648) (h : ¬ iI b ≤ iI a) : a < b := Int.not_le.mp (fun e => h ((iI_cmp_le hb ha).mpr e))
theorem iI_clamp {j : Nat} (h : j < 2147483648) : (iI (j : Int)).toNatClampNeg = j := by rw [iI_nat]; exact nI_clamp h
theorem iI_vpin {j N : Nat} (h : j < N) (hN : N < 2147483648) : vp_in (iI (j : Int)) N := by rw [iI_nat]; exact vp_in_nI h hN
theorem bI_eq_t {b : Bool} (h : bI b = 0) : b = false := by cases b <;> first | rfl | (exact absurd h (by decide))
theorem bI_eq_f {b : Bool} (h : ¬ bI b = 0) : b = true := by cases b <;> first | rfl | (exact absurd rfl h)
theorem bI_ne_t {b : Bool} (h : bI b ≠ 0) : b = true := bI_eq_f h
theorem bI_ne_f {b : Bool} (h : bI b = 0) : b = false := bI_eq_t h
abbrev PE : Type := (Nat × vp_A) ⊕ (Nat × List Value)
abbrev PW : Type := Nat → Option PE
abbrev PD : Type := (Nat → ClassId) × (Nat → Nat → Nat) × (Nat → ClassId)
abbrev eI (n : Nat) (f : Nat → Int32) : PE := .inl (0, n, .inl f)
abbrev eZ (n : Nat) (f : Nat → Int32) : PE := .inl (1, n, .inl f)
abbrev eQ (k n : Nat) (f : Nat → Option Nat) : PE := .inl (k, n, .inr (.inr (.inr (.inr f))))
abbrev eO (ci : Nat) (fs : List Value) : PE := .inr (ci, fs)
def pE (D : PD) : PE → va_E
  | .inl x => .inl (D.2.2 x.1, x.2)
  | .inr x => .inr x
def pG (D : PD) : va_G := (D.1, D.2.1)
def pT (D : PD) : List (ClassId × FieldType) := [(D.2.2 0, .int), (D.2.2 1, .boolean), (D.2.2 2, .object RX0), (D.2.2 3, .object RX3), (D.2.2 4, .object RX4)]
def pH (D : PD) (w : PW) (H : Heap) : Prop := ∀ (a : Nat) (e : PE), w a = some e → va_at (pG D) vwCl (a, pE D e) H
def pset (w : PW) (a : Nat) (e : PE) : PW := fun q => if q = a then some e else w q
theorem pset_eq (w : PW) (a : Nat) (e : PE) : pset w a e a = some e := by simp [pset]
theorem pset_ne (w : PW) {a b : Nat} (e : PE) (h : b ≠ a) : pset w a e b = w b := by simp [pset, h]
def pNest : Cond → Bool
  | .fieldLinkNest _ _ _ _ _ _ => true
  | .arrayOver (.object _) => true
  | _ => false
def PT : List Cond := lw_tbl.filter goodWord
def PN : List Cond := tables_1.filter pNest
theorem PT_of {x : Cond} (h : x ∈ lw_tbl) (g : goodWord x = true) : x ∈ PT := List.mem_filter.mpr ⟨h, g⟩
theorem PT_t {x : Cond} (i : Nat) (h : tables_1[i]? = some x) (g : goodWord x = true) : x ∈ PT := PT_of (List.mem_append_right _ (List.mem_of_getElem? h)) g
theorem PN_t {x : Cond} (i : Nat) (h : tables_1[i]? = some x) (g : pNest x = true) : x ∈ PN := List.mem_filter.mpr ⟨List.mem_of_getElem? h, g⟩
theorem PT_good {x : Cond} (h : x ∈ PT) : goodWord x = true := (List.mem_filter.mp h).2
theorem PT_in : GoodIn PT PT := fun _ h => ⟨h, good_of_word (PT_good h)⟩
theorem PT_cons {x : Cond} (h : x ∈ PT) : GoodIn PT (x :: PT) := fun _ hw => (List.mem_cons.mp hw).elim (fun e => e ▸ ⟨h, good_of_word (PT_good h)⟩) (fun h => PT_in _ h)
def pK (D : PD) (U : State) : Prop := va_K (pG D) vwCl (pT D) U ∧ ∀ x ∈ PN, va_Nw x U
theorem pK.moved {D : PD} {u U : State} (hW : u.WarmedH U.vm) (h : pK D u) : pK D U := by
  refine ⟨va_K.moved hW.alike h.1, fun x hx => ?_⟩
  have h2 := h.2 x hx
  obtain ⟨-, hn⟩ := List.mem_filter.mp hx
  cases x <;> first | (cases hn; done) | exact va_Nw.warmF hW h2 | skip
  rename_i ty
  cases ty <;> first | (cases hn; done) | exact va_AO.moved hW.alike h2
/-- code, own class, locals, what it returns, name; room; which cells it may write; where it goes -/
abbrev PS : Type := (ByteArray × String × Nat × Option FieldType × String) × Room × (Nat → Prop) × (PD → List Frame → Array Value → State → (State → Prop) → Prop)
def pC (S : PS) (D : PD) (p : Program) (s : State) (m : MethodId) (args : Array Value) (meth : Method) (c : Code) : Prop :=
  p.tables.exec = Jvm.exec ∧ c.code = S.1.1 ∧ c.maxLocals = S.1.2.2.1 ∧ s.vm.findClass S.1.2.1 = some m.cls ∧ (∀ x ∈ PT, x.before args s = true) ∧ meth.sig.returnType = S.1.2.2.2.1 ∧ meth.name = S.1.2.2.2.2 ∧ meth.locks = false ∧ pK D s
def pA (w : PW) (n : Nat) : Nat → Prop := fun q => (w q).isSome = true ∨ n ≤ q
def Wp (S : PS) (pc : Nat) (lv : List (Nat × Value)) (st : List Value) (w : PW) (n ce sl : Nat) : Prop :=
  ∀ (D : PD) (p : Program) (l : Launch) (e : Env) (s : State) (m : MethodId) (args : Array Value) (below : List Frame) (meth : Method) (c : Code) (H : Heap) (locs : List Loc) (ls : Array Slot) (Q : State → Prop),
    pC S D p s m args meth c → S.2.2.2 D below args s Q → lv_has ls S.1.2.2.1 lv → pH D w H → H.size = n → (∀ a, (w a).isSome = true → S.2.2.1 a) → (∀ q, s.heap.size ≤ q → S.2.2.1 q) → va_S S.2.2.1 s.heap H locs →
    W p l e S.2.1 s m args below meth c H locs ce sl Q (F0 m pc ls st)
/-- a method's end -/
def pQ (D : PD) (A : Nat → Prop) (Q : Option Value → PW → Nat → Prop) : Array Value → State → Outcome → State → Prop := fun _ st oc t => (∃ (v : Option Value) (w : PW), oc = .returned v ∧ Q v w t.heap.size ∧ pH D w t.heap ∧ (∀ a, (w a).isSome = true → A a) ∧ pK D t) ∧ va_F A st t
def mS (code : ByteArray) (own : String) (nL : Nat) (ret : Option FieldType) (name : String) (rm : Room) (A : Nat → Prop) (Q : Option Value → PW → Nat → Prop) : PS :=
  ((code, own, nL, ret, name), rm, A, fun D below args s Z => Z = MQ below (pQ D A Q) args s rm.cells rm.slots A)
/-- method y, called with args in the world w of n cells, comes back with Q -/
def Ctr (y : MethodName) (b : ByteArray) (L : Nat) (r : Option FieldType) (rm : Room) (args : List Value) (w : PW) (n : Nat) (Q : Option Value → PW → Nat → Prop) : Prop :=
  ∀ (l : Launch) (D : PD), Met l y (Cond.code y b L r :: PT) rm (va_Pc args (fun U => U.heap.size = n ∧ pH D w U.heap ∧ pK D U)) (pQ D (pA w n) Q) rm.cells rm.slots (pA w n)
def Ct1 (y : MethodName) (b : ByteArray) (L : Nat) (r : Option FieldType) (rm : Room) (args : List Value) (w : PW) (n : Nat) (Q : Value → PW → Nat → Prop) : Prop :=
  Ctr y b L r rm args w n (fun v w' n' => ∃ x, v = some x ∧ Q x w' n')
def Ct0 (y : MethodName) (b : ByteArray) (L : Nat) (r : Option FieldType) (rm : Room) (args : List Value) (w : PW) (n : Nat) (Q : PW → Nat → Prop) : Prop :=
  Ctr y b L r rm args w n (fun v w' n' => v = none ∧ Q w' n')
/-- a method that only reads -/
def CtR (y : MethodName) (b : ByteArray) (L : Nat) (r : Option FieldType) (rm : Room) (args : List Value) (w : PW) (n : Nat) (x : Value) : Prop :=
  Ct1 y b L r rm args w n (fun x' w' n' => x' = x ∧ w' = w ∧ n' = n)
theorem Ctr.of {y : MethodName} {b : ByteArray} {L : Nat} {r : Option FieldType} {rm : Room} {args : List Value} {w : PW} {n : Nat} {Q : Option Value → PW → Nat → Prop} (hy : plainName y.cls = true) (hL : (lg_sl args).length ≤ L)
    (body : ∀ S : PS, S = mS b y.cls L r y.name rm (pA w n) Q → Wp S 0 (lv_args 0 args) [] w n 0 0) : Ctr y b L r rm args w n Q := by
  intro l D
  refine Met.ofW (cc := b) (maxL := L) (ret := r) hy rfl ?_
  intro p e s m args' below meth c s₁ B hml hv
  obtain ⟨rfl, hsz, hP, hK⟩ := hv
  have hts := atoms_spec (ws := Cond.code y b L r :: PT) B.pre
  have hl := lv_entry args hL
  rw [lg_entry_eq]
  exact body _ rfl D p l e s m args.toArray below meth c s.heap [] _ _
    ⟨B.exec, B.bytes, hml, findClass_of_methodNamed B.named, fun x hx => hts x (List.mem_cons_of_mem _ hx), B.returns, (name_of_methodNamed B.named B.method).1, B.notSynchronized, hK⟩
    rfl hl hP hsz (fun a ha => Or.inl ha) (fun q hq => Or.inr (by rw [← hsz]; exact hq)) va_S.rf

theorem r_iconst {S : PS} {cc : ByteArray} {pc : Nat} {lv : List (Nat × Value)} {st : List Value} {w : PW} {n ce sl : Nat} {z : Int} (hb : S.1.1 = cc) (q : Nat) (hd : decode cc pc = .ok (.iconst z, 1)) (hq : pc + 1 = q)  (kk : Wp S q lv (.int (iI z) :: st) w n ce sl) : Wp S pc lv (st) w n ce sl := by
  intro D p l e s m args below meth c H locs ls Q hC hX hl hH hn hdm hs hS
  subst hb
  subst hq
  exact lv_iconst hC.1 hC.2.1 hd rfl (kk D p l e s m args below meth c H locs ls Q hC hX hl hH hn hdm hs hS)
theorem r_bipush {S : PS} {cc : ByteArray} {pc : Nat} {lv : List (Nat × Value)} {st : List Value} {w : PW} {n ce sl : Nat} {z : Int} (y : Int) (hb : S.1.1 = cc) (q : Nat) (hd : decode cc pc = .ok (.bipush z, 2)) (hq : pc + 2 = q) (hv : (Int8.ofInt z).toInt32 = iI y) (kk : Wp S q lv (.int (iI y) :: st) w n ce sl) : Wp S pc lv (st) w n ce sl := by
  intro D p l e s m args below meth c H locs ls Q hC hX hl hH hn hdm hs hS
  subst hb
  subst hq
  exact lv_bipush hC.1 hC.2.1 hd hv (kk D p l e s m args below meth c H locs ls Q hC hX hl hH hn hdm hs hS)
theorem r_sipush {S : PS} {cc : ByteArray} {pc : Nat} {lv : List (Nat × Value)} {st : List Value} {w : PW} {n ce sl : Nat} {z : Int} (y : Int) (hb : S.1.1 = cc) (q : Nat) (hd : decode cc pc = .ok (.sipush z, 3)) (hq : pc + 3 = q) (hv : (Int16.ofInt z).toInt32 = iI y) (kk : Wp S q lv (.int (iI y) :: st) w n ce sl) : Wp S pc lv (st) w n ce sl := by
  intro D p l e s m args below meth c H locs ls Q hC hX hl hH hn hdm hs hS
  subst hb
  subst hq
  exact lv_sipush hC.1 hC.2.1 hd hv (kk D p l e s m args below meth c H locs ls Q hC hX hl hH hn hdm hs hS)
theorem r_null {S : PS} {cc : ByteArray} {pc : Nat} {lv : List (Nat × Value)} {st : List Value} {w : PW} {n ce sl : Nat}  (hb : S.1.1 = cc) (q : Nat) (hd : decode cc pc = .ok (.aconst_null, 1)) (hq : pc + 1 = q)  (kk : Wp S q lv (.null :: st) w n ce sl) : Wp S pc lv (st) w n ce sl := by
  intro D p l e s m args below meth c H locs ls Q hC hX hl hH hn hdm hs hS
  subst hb
  subst hq
  exact lv_null hC.1 hC.2.1 hd (kk D p l e s m args below meth c H locs ls Q hC hX hl hH hn hdm hs hS)
theorem r_iload_n {S : PS} {cc : ByteArray} {pc : Nat} {lv : List (Nat × Value)} {st : List Value} {w : PW} {n ce sl : Nat} {k : Fin 4} {x : Int32} (hb : S.1.1 = cc) (q : Nat) (hd : decode cc pc = .ok (.iload_n k, 1)) (hq : pc + 1 = q) (i : Nat) (hl0 : lv[i]? = some ((k : Nat), Value.int x)) (kk : Wp S q lv (.int x :: st) w n ce sl) : Wp S pc lv (st) w n ce sl := by
  intro D p l e s m args below meth c H locs ls Q hC hX hl hH hn hdm hs hS
  subst hb
  subst hq
  exact lv_iload_n hC.1 hC.2.1 hd rfl (lv_at hl i hl0) (kk D p l e s m args below meth c H locs ls Q hC hX hl hH hn hdm hs hS)
theorem r_iload {S : PS} {cc : ByteArray} {pc : Nat} {lv : List (Nat × Value)} {st : List Value} {w : PW} {n ce sl : Nat} {k : Nat} {x : Int32} (hb : S.1.1 = cc) (q : Nat) (hd : decode cc pc = .ok (.iload k, 2)) (hq : pc + 2 = q) (i : Nat) (hl0 : lv[i]? = some (k, Value.int x)) (kk : Wp S q lv (.int x :: st) w n ce sl) : Wp S pc lv (st) w n ce sl := by
  intro D p l e s m args below meth c H locs ls Q hC hX hl hH hn hdm hs hS
  subst hb
  subst hq
  exact lv_iload hC.1 hC.2.1 hd (lv_at hl i hl0) (kk D p l e s m args below meth c H locs ls Q hC hX hl hH hn hdm hs hS)
theorem r_aload_n {S : PS} {cc : ByteArray} {pc : Nat} {lv : List (Nat × Value)} {st : List Value} {w : PW} {n ce sl : Nat} {k : Fin 4} {x : Nat} (hb : S.1.1 = cc) (q : Nat) (hd : decode cc pc = .ok (.aload_n k, 1)) (hq : pc + 1 = q) (i : Nat) (hl0 : lv[i]? = some ((k : Nat), Value.ref x)) (kk : Wp S q lv (.ref x :: st) w n ce sl) : Wp S pc lv (st) w n ce sl := by
  intro D p l e s m args below meth c H locs ls Q hC hX hl hH hn hdm hs hS
  subst hb
  subst hq
  exact lv_aload_n hC.1 hC.2.1 hd rfl (lv_at hl i hl0) (kk D p l e s m args below meth c H locs ls Q hC hX hl hH hn hdm hs hS)
theorem r_aload {S : PS} {cc : ByteArray} {pc : Nat} {lv : List (Nat × Value)} {st : List Value} {w : PW} {n ce sl : Nat} {k : Nat} {x : Nat} (hb : S.1.1 = cc) (q : Nat) (hd : decode cc pc = .ok (.aload k, 2)) (hq : pc + 2 = q) (i : Nat) (hl0 : lv[i]? = some (k, Value.ref x)) (kk : Wp S q lv (.ref x :: st) w n ce sl) : Wp S pc lv (st) w n ce sl := by
  intro D p l e s m args below meth c H locs ls Q hC hX hl hH hn hdm hs hS
  subst hb
  subst hq
  exact lv_aload hC.1 hC.2.1 hd (lv_at hl i hl0) (kk D p l e s m args below meth c H locs ls Q hC hX hl hH hn hdm hs hS)
theorem r_lload_n {S : PS} {cc : ByteArray} {pc : Nat} {lv : List (Nat × Value)} {st : List Value} {w : PW} {n ce sl : Nat} {k : Fin 4} {x : Int64} (hb : S.1.1 = cc) (q : Nat) (hd : decode cc pc = .ok (.lload_n k, 1)) (hq : pc + 1 = q) (i : Nat) (hl0 : lv[i]? = some ((k : Nat), Value.long x)) (kk : Wp S q lv (.long x :: st) w n ce sl) : Wp S pc lv (st) w n ce sl := by
  intro D p l e s m args below meth c H locs ls Q hC hX hl hH hn hdm hs hS
  subst hb
  subst hq
  exact lv_lload_n hC.1 hC.2.1 hd rfl (lv_at hl i hl0) (kk D p l e s m args below meth c H locs ls Q hC hX hl hH hn hdm hs hS)
theorem r_lload {S : PS} {cc : ByteArray} {pc : Nat} {lv : List (Nat × Value)} {st : List Value} {w : PW} {n ce sl : Nat} {k : Nat} {x : Int64} (hb : S.1.1 = cc) (q : Nat) (hd : decode cc pc = .ok (.lload k, 2)) (hq : pc + 2 = q) (i : Nat) (hl0 : lv[i]? = some (k, Value.long x)) (kk : Wp S q lv (.long x :: st) w n ce sl) : Wp S pc lv (st) w n ce sl := by
  intro D p l e s m args below meth c H locs ls Q hC hX hl hH hn hdm hs hS
  subst hb
  subst hq
  exact lv_lload hC.1 hC.2.1 hd (lv_at hl i hl0) (kk D p l e s m args below meth c H locs ls Q hC hX hl hH hn hdm hs hS)
theorem r_aload_nN {S : PS} {cc : ByteArray} {pc : Nat} {lv : List (Nat × Value)} {st : List Value} {w : PW} {n ce sl : Nat} {k : Fin 4} (hb : S.1.1 = cc) (q : Nat) (hd : decode cc pc = .ok (.aload_n k, 1)) (hq : pc + 1 = q) (i : Nat) (hl0 : lv[i]? = some ((k : Nat), Value.null)) (kk : Wp S q lv (.null :: st) w n ce sl) : Wp S pc lv (st) w n ce sl := by
  intro D p l e s m args below meth c H locs ls Q hC hX hl hH hn hdm hs hS
  subst hb
  subst hq
  exact lv_aload_nN hC.1 hC.2.1 hd rfl (lv_at hl i hl0) (kk D p l e s m args below meth c H locs ls Q hC hX hl hH hn hdm hs hS)
theorem r_aloadN {S : PS} {cc : ByteArray} {pc : Nat} {lv : List (Nat × Value)} {st : List Value} {w : PW} {n ce sl : Nat} {k : Nat} (hb : S.1.1 = cc) (q : Nat) (hd : decode cc pc = .ok (.aload k, 2)) (hq : pc + 2 = q) (i : Nat) (hl0 : lv[i]? = some (k, Value.null)) (kk : Wp S q lv (.null :: st) w n ce sl) : Wp S pc lv (st) w n ce sl := by
  intro D p l e s m args below meth c H locs ls Q hC hX hl hH hn hdm hs hS
  subst hb
  subst hq
  exact lv_aloadN hC.1 hC.2.1 hd (lv_at hl i hl0) (kk D p l e s m args below meth c H locs ls Q hC hX hl hH hn hdm hs hS)
def lset1 (lv : List (Nat × Value)) (i : Nat) (v : Value) : List (Nat × Value) := (i, v) :: lv.filter (fun q => !(q.1 == i) && !(q.1 + 1 == i && q.2.category == 2))
def lset2 (lv : List (Nat × Value)) (i : Nat) (v : Value) : List (Nat × Value) := (i, v) :: lv.filter (fun q => !(q.1 == i) && (!(q.1 == i + 1) && !(q.1 + 1 == i && q.2.category == 2)))
theorem r_istore_n {S : PS} {cc : ByteArray} {pc : Nat} {lv : List (Nat × Value)} {st : List Value} {w : PW} {n ce sl : Nat} {k : Fin 4} {i : Nat} {x : Int32} (lv1 : List (Nat × Value)) (hb : S.1.1 = cc) (q nL : Nat) (hd : decode cc pc = .ok (.istore_n k, 1)) (hq : pc + 1 = q) (hk : (k : Nat) = i) (hnL : S.1.2.2.1 = nL) (hi : i < nL) (hl1 : lset1 lv i (.int x) = lv1) (kk : Wp S q lv1 st w n ce sl) : Wp S pc lv (.int x :: st) w n ce sl := by
  intro D p l e s m args below meth c H locs ls Q hC hX hl hH hn hdm hs hS
  subst hb
  subst hq; subst hnL
  exact lv_istore_n hC.1 hC.2.1 hd hk hl hi hl1 (fun ls' hl => kk D p l e s m args below meth c H locs ls' Q hC hX hl hH hn hdm hs hS)
theorem r_istore {S : PS} {cc : ByteArray} {pc : Nat} {lv : List (Nat × Value)} {st : List Value} {w : PW} {n ce sl : Nat} {i : Nat} {x : Int32} (lv1 : List (Nat × Value)) (hb : S.1.1 = cc) (q nL : Nat) (hd : decode cc pc = .ok (.istore i, 2)) (hq : pc + 2 = q)  (hnL : S.1.2.2.1 = nL) (hi : i < nL) (hl1 : lset1 lv i (.int x) = lv1) (kk : Wp S q lv1 st w n ce sl) : Wp S pc lv (.int x :: st) w n ce sl := by
  intro D p l e s m args below meth c H locs ls Q hC hX hl hH hn hdm hs hS
  subst hb
  subst hq; subst hnL
  exact lv_istore hC.1 hC.2.1 hd  hl hi hl1 (fun ls' hl => kk D p l e s m args below meth c H locs ls' Q hC hX hl hH hn hdm hs hS)
theorem r_astore_n {S : PS} {cc : ByteArray} {pc : Nat} {lv : List (Nat × Value)} {st : List Value} {w : PW} {n ce sl : Nat} {k : Fin 4} {i : Nat} {x : Nat} (lv1 : List (Nat × Value)) (hb : S.1.1 = cc) (q nL : Nat) (hd : decode cc pc = .ok (.astore_n k, 1)) (hq : pc + 1 = q) (hk : (k : Nat) = i) (hnL : S.1.2.2.1 = nL) (hi : i < nL) (hl1 : lset1 lv i (.ref x) = lv1) (kk : Wp S q lv1 st w n ce sl) : Wp S pc lv (.ref x :: st) w n ce sl := by
  intro D p l e s m args below meth c H locs ls Q hC hX hl hH hn hdm hs hS
  subst hb
  subst hq; subst hnL
  exact lv_astore_n hC.1 hC.2.1 hd hk hl hi hl1 (fun ls' hl => kk D p l e s m args below meth c H locs ls' Q hC hX hl hH hn hdm hs hS)
theorem r_astore {S : PS} {cc : ByteArray} {pc : Nat} {lv : List (Nat × Value)} {st : List Value} {w : PW} {n ce sl : Nat} {i : Nat} {x : Nat} (lv1 : List (Nat × Value)) (hb : S.1.1 = cc) (q nL : Nat) (hd : decode cc pc = .ok (.astore i, 2)) (hq : pc + 2 = q)  (hnL : S.1.2.2.1 = nL) (hi : i < nL) (hl1 : lset1 lv i (.ref x) = lv1) (kk : Wp S q lv1 st w n ce sl) : Wp S pc lv (.ref x :: st) w n ce sl := by
  intro D p l e s m args below meth c H locs ls Q hC hX hl hH hn hdm hs hS
  subst hb
  subst hq; subst hnL
  exact lv_astore hC.1 hC.2.1 hd  hl hi hl1 (fun ls' hl => kk D p l e s m args below meth c H locs ls' Q hC hX hl hH hn hdm hs hS)
theorem r_lstore_n {S : PS} {cc : ByteArray} {pc : Nat} {lv : List (Nat × Value)} {st : List Value} {w : PW} {n ce sl : Nat} {k : Fin 4} {i : Nat} {x : Int64} (lv1 : List (Nat × Value)) (hb : S.1.1 = cc) (q nL : Nat) (hd : decode cc pc = .ok (.lstore_n k, 1)) (hq : pc + 1 = q) (hk : (k : Nat) = i) (hnL : S.1.2.2.1 = nL) (hi : i + 1 < nL) (hl1 : lset2 lv i (.long x) = lv1) (kk : Wp S q lv1 st w n ce sl) : Wp S pc lv (.long x :: st) w n ce sl := by
  intro D p l e s m args below meth c H locs ls Q hC hX hl hH hn hdm hs hS
  subst hb
  subst hq; subst hnL
  exact lv_lstore_n hC.1 hC.2.1 hd hk hl hi hl1 (fun ls' hl => kk D p l e s m args below meth c H locs ls' Q hC hX hl hH hn hdm hs hS)
theorem r_lstore {S : PS} {cc : ByteArray} {pc : Nat} {lv : List (Nat × Value)} {st : List Value} {w : PW} {n ce sl : Nat} {i : Nat} {x : Int64} (lv1 : List (Nat × Value)) (hb : S.1.1 = cc) (q nL : Nat) (hd : decode cc pc = .ok (.lstore i, 2)) (hq : pc + 2 = q)  (hnL : S.1.2.2.1 = nL) (hi : i + 1 < nL) (hl1 : lset2 lv i (.long x) = lv1) (kk : Wp S q lv1 st w n ce sl) : Wp S pc lv (.long x :: st) w n ce sl := by
  intro D p l e s m args below meth c H locs ls Q hC hX hl hH hn hdm hs hS
  subst hb
  subst hq; subst hnL
  exact lv_lstore hC.1 hC.2.1 hd  hl hi hl1 (fun ls' hl => kk D p l e s m args below meth c H locs ls' Q hC hX hl hH hn hdm hs hS)
theorem r_astore_nN {S : PS} {cc : ByteArray} {pc : Nat} {lv : List (Nat × Value)} {st : List Value} {w : PW} {n ce sl : Nat} {k : Fin 4} {i : Nat} (lv1 : List (Nat × Value)) (hb : S.1.1 = cc) (q nL : Nat) (hd : decode cc pc = .ok (.astore_n k, 1)) (hq : pc + 1 = q) (hk : (k : Nat) = i) (hnL : S.1.2.2.1 = nL) (hi : i < nL) (hl1 : lset1 lv i .null = lv1) (kk : Wp S q lv1 st w n ce sl) : Wp S pc lv (.null :: st) w n ce sl := by
  intro D p l e s m args below meth c H locs ls Q hC hX hl hH hn hdm hs hS
  subst hb
  subst hq; subst hnL
  exact lv_astore_nN hC.1 hC.2.1 hd hk hl hi hl1 (fun ls' hl => kk D p l e s m args below meth c H locs ls' Q hC hX hl hH hn hdm hs hS)
theorem r_astoreN {S : PS} {cc : ByteArray} {pc : Nat} {lv : List (Nat × Value)} {st : List Value} {w : PW} {n ce sl : Nat} {i : Nat} (lv1 : List (Nat × Value)) (hb : S.1.1 = cc) (q nL : Nat) (hd : decode cc pc = .ok (.astore i, 2)) (hq : pc + 2 = q)  (hnL : S.1.2.2.1 = nL) (hi : i < nL) (hl1 : lset1 lv i .null = lv1) (kk : Wp S q lv1 st w n ce sl) : Wp S pc lv (.null :: st) w n ce sl := by
  intro D p l e s m args below meth c H locs ls Q hC hX hl hH hn hdm hs hS
  subst hb
  subst hq; subst hnL
  exact lv_astoreN hC.1 hC.2.1 hd  hl hi hl1 (fun ls' hl => kk D p l e s m args below meth c H locs ls' Q hC hX hl hH hn hdm hs hS)
theorem r_iinc {S : PS} {cc : ByteArray} {pc : Nat} {lv : List (Nat × Value)} {st : List Value} {w : PW} {n ce sl : Nat} {i : Nat} {z : Int} {a : Int} (lv1 : List (Nat × Value)) (hb : S.1.1 = cc) (q nL k : Nat) (hd : decode cc pc = .ok (.iinc i z, 3)) (hq : pc + 3 = q) (hk : lv[k]? = some (i, .int (iI a))) (hnL : S.1.2.2.1 = nL) (hi : i < nL) (b : Int) (hab : a + z = b) (hl1 : lset1 lv i (.int (iI b)) = lv1) (kk : Wp S q lv1 st w n ce sl) : Wp S pc lv st w n ce sl := by
  intro D p l e s m args below meth c H locs ls Q hC hX hl hH hn hdm hs hS
  subst hb
  subst hq; subst hnL; subst hab
  exact lv_iinc hC.1 hC.2.1 hd hl hk (iI_add a z) hi hl1 (fun ls' hl => kk D p l e s m args below meth c H locs ls' Q hC hX hl hH hn hdm hs hS)
theorem r_lv {S : PS} {pc : Nat} {lv : List (Nat × Value)} {st : List Value} {w : PW} {n ce sl : Nat} (lv1 : List (Nat × Value)) (ks : List Nat) (hl1 : lv_pick lv ks = lv1) (kk : Wp S pc lv1 st w n ce sl) : Wp S pc lv st w n ce sl := by
  intro D p l e s m args below meth c H locs ls Q hC hX hl hH hn hdm hs hS
  exact kk D p l e s m args below meth c H locs ls Q hC hX (lv_sub hl ks hl1) hH hn hdm hs hS
theorem r_iadd {S : PS} {cc : ByteArray} {pc : Nat} {lv : List (Nat × Value)} {st : List Value} {w : PW} {n ce sl : Nat} {x y : Int32} (hb : S.1.1 = cc) (q : Nat) (hd : decode cc pc = .ok (.iadd, 1)) (hq : pc + 1 = q)  (kk : Wp S q lv (.int (x + y) :: st) w n ce sl) : Wp S pc lv (.int y :: .int x :: st) w n ce sl := by
  intro D p l e s m args below meth c H locs ls Q hC hX hl hH hn hdm hs hS
  subst hb
  subst hq
  exact lv_iadd hC.1 hC.2.1 hd (kk D p l e s m args below meth c H locs ls Q hC hX hl hH hn hdm hs hS)
theorem r_iaddZ {S : PS} {cc : ByteArray} {pc : Nat} {lv : List (Nat × Value)} {st : List Value} {w : PW} {n ce sl : Nat} {a b : Int} (hb : S.1.1 = cc) (q : Nat) (z : Int) (hd : decode cc pc = .ok (.iadd, 1)) (hq : pc + 1 = q) (hz : a + b = z) (kk : Wp S q lv (.int (iI z) :: st) w n ce sl) : Wp S pc lv (.int (iI b) :: .int (iI a) :: st) w n ce sl := by
  subst hz
  refine r_iadd hb q hd hq ?_
  rw [iI_add]
  exact kk
theorem r_isub {S : PS} {cc : ByteArray} {pc : Nat} {lv : List (Nat × Value)} {st : List Value} {w : PW} {n ce sl : Nat} {x y : Int32} (hb : S.1.1 = cc) (q : Nat) (hd : decode cc pc = .ok (.isub, 1)) (hq : pc + 1 = q)  (kk : Wp S q lv (.int (x - y) :: st) w n ce sl) : Wp S pc lv (.int y :: .int x :: st) w n ce sl := by
  intro D p l e s m args below meth c H locs ls Q hC hX hl hH hn hdm hs hS
  subst hb
  subst hq
  exact lv_isub hC.1 hC.2.1 hd (kk D p l e s m args below meth c H locs ls Q hC hX hl hH hn hdm hs hS)
theorem r_isubZ {S : PS} {cc : ByteArray} {pc : Nat} {lv : List (Nat × Value)} {st : List Value} {w : PW} {n ce sl : Nat} {a b : Int} (hb : S.1.1 = cc) (q : Nat) (z : Int) (hd : decode cc pc = .ok (.isub, 1)) (hq : pc + 1 = q) (hz : a - b = z) (kk : Wp S q lv (.int (iI z) :: st) w n ce sl) : Wp S pc lv (.int (iI b) :: .int (iI a) :: st) w n ce sl := by
  subst hz
  refine r_isub hb q hd hq ?_
  rw [iI_sub]
  exact kk
theorem r_imul {S : PS} {cc : ByteArray} {pc : Nat} {lv : List (Nat × Value)} {st : List Value} {w : PW} {n ce sl : Nat} {x y : Int32} (hb : S.1.1 = cc) (q : Nat) (hd : decode cc pc = .ok (.imul, 1)) (hq : pc + 1 = q)  (kk : Wp S q lv (.int (x * y) :: st) w n ce sl) : Wp S pc lv (.int y :: .int x :: st) w n ce sl := by
  intro D p l e s m args below meth c H locs ls Q hC hX hl hH hn hdm hs hS
  subst hb
  subst hq
  exact lv_imul hC.1 hC.2.1 hd (kk D p l e s m args below meth c H locs ls Q hC hX hl hH hn hdm hs hS)
theorem r_imulZ {S : PS} {cc : ByteArray} {pc : Nat} {lv : List (Nat × Value)} {st : List Value} {w : PW} {n ce sl : Nat} {a b : Int} (hb : S.1.1 = cc) (q : Nat) (z : Int) (hd : decode cc pc = .ok (.imul, 1)) (hq : pc + 1 = q) (hz : a * b = z) (kk : Wp S q lv (.int (iI z) :: st) w n ce sl) : Wp S pc lv (.int (iI b) :: .int (iI a) :: st) w n ce sl := by
  subst hz
  refine r_imul hb q hd hq ?_
  rw [iI_mul]
  exact kk
theorem r_ineg {S : PS} {cc : ByteArray} {pc : Nat} {lv : List (Nat × Value)} {st : List Value} {w : PW} {n ce sl : Nat} {x : Int32} (hb : S.1.1 = cc) (q : Nat) (hd : decode cc pc = .ok (.ineg, 1)) (hq : pc + 1 = q)  (kk : Wp S q lv (.int (-x) :: st) w n ce sl) : Wp S pc lv (.int x :: st) w n ce sl := by
  intro D p l e s m args below meth c H locs ls Q hC hX hl hH hn hdm hs hS
  subst hb
  subst hq
  exact lv_ineg hC.1 hC.2.1 hd (kk D p l e s m args below meth c H locs ls Q hC hX hl hH hn hdm hs hS)
theorem r_iand {S : PS} {cc : ByteArray} {pc : Nat} {lv : List (Nat × Value)} {st : List Value} {w : PW} {n ce sl : Nat} {x y : Int32} (hb : S.1.1 = cc) (q : Nat) (hd : decode cc pc = .ok (.iand, 1)) (hq : pc + 1 = q)  (kk : Wp S q lv (.int (x &&& y) :: st) w n ce sl) : Wp S pc lv (.int y :: .int x :: st) w n ce sl := by
  intro D p l e s m args below meth c H locs ls Q hC hX hl hH hn hdm hs hS
  subst hb
  subst hq
  exact lv_iand hC.1 hC.2.1 hd (kk D p l e s m args below meth c H locs ls Q hC hX hl hH hn hdm hs hS)
theorem r_idiv {S : PS} {cc : ByteArray} {pc : Nat} {lv : List (Nat × Value)} {st : List Value} {w : PW} {n ce sl : Nat} {x y : Int32} (hb : S.1.1 = cc) (q : Nat) (hd : decode cc pc = .ok (.idiv, 1)) (hq : pc + 1 = q) (hne : ¬ y = 0) (kk : Wp S q lv (.int (x / y) :: st) w n ce sl) : Wp S pc lv (.int y :: .int x :: st) w n ce sl := by
  intro D p l e s m args below meth c H locs ls Q hC hX hl hH hn hdm hs hS
  subst hb
  subst hq
  exact lv_idiv hC.1 hC.2.1 hd hne (kk D p l e s m args below meth c H locs ls Q hC hX hl hH hn hdm hs hS)
theorem r_ladd {S : PS} {cc : ByteArray} {pc : Nat} {lv : List (Nat × Value)} {st : List Value} {w : PW} {n ce sl : Nat} {x y : Int64} (hb : S.1.1 = cc) (q : Nat) (hd : decode cc pc = .ok (.ladd, 1)) (hq : pc + 1 = q)  (kk : Wp S q lv (.long (x + y) :: st) w n ce sl) : Wp S pc lv (.long y :: .long x :: st) w n ce sl := by
  intro D p l e s m args below meth c H locs ls Q hC hX hl hH hn hdm hs hS
  subst hb
  subst hq
  exact lv_ladd hC.1 hC.2.1 hd (kk D p l e s m args below meth c H locs ls Q hC hX hl hH hn hdm hs hS)
theorem r_lmul {S : PS} {cc : ByteArray} {pc : Nat} {lv : List (Nat × Value)} {st : List Value} {w : PW} {n ce sl : Nat} {x y : Int64} (hb : S.1.1 = cc) (q : Nat) (hd : decode cc pc = .ok (.lmul, 1)) (hq : pc + 1 = q)  (kk : Wp S q lv (.long (x * y) :: st) w n ce sl) : Wp S pc lv (.long y :: .long x :: st) w n ce sl := by
  intro D p l e s m args below meth c H locs ls Q hC hX hl hH hn hdm hs hS
  subst hb
  subst hq
  exact lv_lmul hC.1 hC.2.1 hd (kk D p l e s m args below meth c H locs ls Q hC hX hl hH hn hdm hs hS)
theorem r_i2l {S : PS} {cc : ByteArray} {pc : Nat} {lv : List (Nat × Value)} {st : List Value} {w : PW} {n ce sl : Nat} {x : Int32} (hb : S.1.1 = cc) (q : Nat) (hd : decode cc pc = .ok (.i2l, 1)) (hq : pc + 1 = q)  (kk : Wp S q lv (.long x.toInt64 :: st) w n ce sl) : Wp S pc lv (.int x :: st) w n ce sl := by
  intro D p l e s m args below meth c H locs ls Q hC hX hl hH hn hdm hs hS
  subst hb
  subst hq
  exact lv_i2l hC.1 hC.2.1 hd rfl (kk D p l e s m args below meth c H locs ls Q hC hX hl hH hn hdm hs hS)
theorem r_lcmp {S : PS} {cc : ByteArray} {pc : Nat} {lv : List (Nat × Value)} {st : List Value} {w : PW} {n ce sl : Nat} {x y : Int64} (hb : S.1.1 = cc) (q : Nat) (hd : decode cc pc = .ok (.lcmp, 1)) (hq : pc + 1 = q)  (kk : Wp S q lv (.int (lg_cmp x y) :: st) w n ce sl) : Wp S pc lv (.long y :: .long x :: st) w n ce sl := by
  intro D p l e s m args below meth c H locs ls Q hC hX hl hH hn hdm hs hS
  subst hb
  subst hq
  exact W.lcmp hC.1 hC.2.1 hd (kk D p l e s m args below meth c H locs ls Q hC hX hl hH hn hdm hs hS)
theorem r_dup {S : PS} {cc : ByteArray} {pc : Nat} {lv : List (Nat × Value)} {st : List Value} {w : PW} {n ce sl : Nat} {x : Value} (hb : S.1.1 = cc) (q : Nat) (hd : decode cc pc = .ok (.dup, 1)) (hq : pc + 1 = q) (hx : x.category = 1) (kk : Wp S q lv (x :: x :: st) w n ce sl) : Wp S pc lv (x :: st) w n ce sl := by
  intro D p l e s m args below meth c H locs ls Q hC hX hl hH hn hdm hs hS
  subst hb
  subst hq
  exact lv_dup hC.1 hC.2.1 hd hx (kk D p l e s m args below meth c H locs ls Q hC hX hl hH hn hdm hs hS)
theorem r_dup2 {S : PS} {cc : ByteArray} {pc : Nat} {lv : List (Nat × Value)} {st : List Value} {w : PW} {n ce sl : Nat} {x y : Value} (hb : S.1.1 = cc) (q : Nat) (hd : decode cc pc = .ok (.dup2, 1)) (hq : pc + 1 = q) (hx : x.category = 1) (hy : y.category = 1) (kk : Wp S q lv (x :: y :: x :: y :: st) w n ce sl) : Wp S pc lv (x :: y :: st) w n ce sl := by
  intro D p l e s m args below meth c H locs ls Q hC hX hl hH hn hdm hs hS
  subst hb
  subst hq
  exact lv_dup2_11 hC.1 hC.2.1 hd hx hy (kk D p l e s m args below meth c H locs ls Q hC hX hl hH hn hdm hs hS)
theorem r_topz {S : PS} {pc : Nat} {lv : List (Nat × Value)} {st : List Value} {w : PW} {n ce sl : Nat} {x : Int32} (z : Int) (h : x = iI z) (kk : Wp S pc lv (.int (iI z) :: st) w n ce sl) : Wp S pc lv (.int x :: st) w n ce sl := by rw [h]; exact kk
theorem r_topv {S : PS} {pc : Nat} {lv : List (Nat × Value)} {st : List Value} {w : PW} {n ce sl : Nat} {x : Value} (y : Value) (h : x = y) (kk : Wp S pc lv (y :: st) w n ce sl) : Wp S pc lv (x :: st) w n ce sl := by rw [h]; exact kk
theorem r_goto {S : PS} {cc : ByteArray} {pc : Nat} {lv : List (Nat × Value)} {st : List Value} {w : PW} {n ce sl : Nat} {off : Int} (hb : S.1.1 = cc) (tgt : Nat) (hd : decode cc pc = .ok (.goto off, 3)) (ht : (pc : Int) + off = (tgt : Int)) (kk : Wp S tgt lv st w n ce sl) : Wp S pc lv st w n ce sl := by
  intro D p l e s m args below meth c H locs ls Q hC hX hl hH hn hdm hs hS
  subst hb
  exact lv_goto hC.1 hC.2.1 hd ht (kk D p l e s m args below meth c H locs ls Q hC hX hl hH hn hdm hs hS)
theorem r_icmp_eq {S : PS} {cc : ByteArray} {pc : Nat} {lv : List (Nat × Value)} {st : List Value} {w : PW} {n ce sl : Nat} {a b off : Int} (hb : S.1.1 = cc) (q tgt : Nat) (hd : decode cc pc = .ok (.if_icmp .eq off, 3)) (hq : pc + 3 = q) (ht : (pc : Int) + off = (tgt : Int)) (ha : (-2147483648 ≤ a ∧ a < 2147483648)) (hbb : (-2147483648 ≤ b ∧ b < 2147483648)) (kt : a = b → Wp S tgt lv st w n ce sl) (kf : ¬ a = b → Wp S q lv st w n ce sl) : Wp S pc lv (.int (iI b) :: .int (iI a) :: st) w n ce sl := by
  intro D p l e s m args below meth c H locs ls Q hC hX hl hH hn hdm hs hS
  subst hb
  subst hq
  exact lv_icmp_eq hC.1 hC.2.1 hd ht (fun h => kt (iI_eq_t ha hbb h) D p l e s m args below meth c H locs ls Q hC hX hl hH hn hdm hs hS) (fun h => kf (iI_eq_f ha hbb h) D p l e s m args below meth c H locs ls Q hC hX hl hH hn hdm hs hS)
theorem r_if_eq {S : PS} {cc : ByteArray} {pc : Nat} {lv : List (Nat × Value)} {st : List Value} {w : PW} {n ce sl : Nat} {a off : Int} (hb : S.1.1 = cc) (q tgt : Nat) (hd : decode cc pc = .ok (.ifCond .eq off, 3)) (hq : pc + 3 = q) (ht : (pc : Int) + off = (tgt : Int)) (ha : (-2147483648 ≤ a ∧ a < 2147483648)) (kt : a = 0 → Wp S tgt lv st w n ce sl) (kf : ¬ a = 0 → Wp S q lv st w n ce sl) : Wp S pc lv (.int (iI a) :: st) w n ce sl := by
  intro D p l e s m args below meth c H locs ls Q hC hX hl hH hn hdm hs hS
  subst hb
  subst hq
  exact lv_if_eq hC.1 hC.2.1 hd ht (fun h => kt (iI_eq_t ha (by decide) h) D p l e s m args below meth c H locs ls Q hC hX hl hH hn hdm hs hS) (fun h => kf (iI_eq_f ha (by decide) h) D p l e s m args below meth c H locs ls Q hC hX hl hH hn hdm hs hS)
theorem r_icmp_ne {S : PS} {cc : ByteArray} {pc : Nat} {lv : List (Nat × Value)} {st : List Value} {w : PW} {n ce sl : Nat} {a b off : Int} (hb : S.1.1 = cc) (q tgt : Nat) (hd : decode cc pc = .ok (.if_icmp .ne off, 3)) (hq : pc + 3 = q) (ht : (pc : Int) + off = (tgt : Int)) (ha : (-2147483648 ≤ a ∧ a < 2147483648)) (hbb : (-2147483648 ≤ b ∧ b < 2147483648)) (kt : ¬ a = b → Wp S tgt lv st w n ce sl) (kf : a = b → Wp S q lv st w n ce sl) : Wp S pc lv (.int (iI b) :: .int (iI a) :: st) w n ce sl := by
  intro D p l e s m args below meth c H locs ls Q hC hX hl hH hn hdm hs hS
  subst hb
  subst hq
  exact lv_icmp_ne hC.1 hC.2.1 hd ht (fun h => kt (iI_ne_t ha hbb h) D p l e s m args below meth c H locs ls Q hC hX hl hH hn hdm hs hS) (fun h => kf (iI_ne_f ha hbb h) D p l e s m args below meth c H locs ls Q hC hX hl hH hn hdm hs hS)
theorem r_if_ne {S : PS} {cc : ByteArray} {pc : Nat} {lv : List (Nat × Value)} {st : List Value} {w : PW} {n ce sl : Nat} {a off : Int} (hb : S.1.1 = cc) (q tgt : Nat) (hd : decode cc pc = .ok (.ifCond .ne off, 3)) (hq : pc + 3 = q) (ht : (pc : Int) + off = (tgt : Int)) (ha : (-2147483648 ≤ a ∧ a < 2147483648)) (kt : ¬ a = 0 → Wp S tgt lv st w n ce sl) (kf : a = 0 → Wp S q lv st w n ce sl) : Wp S pc lv (.int (iI a) :: st) w n ce sl := by
  intro D p l e s m args below meth c H locs ls Q hC hX hl hH hn hdm hs hS
  subst hb
  subst hq
  exact lv_if_ne hC.1 hC.2.1 hd ht (fun h => kt (iI_ne_t ha (by decide) h) D p l e s m args below meth c H locs ls Q hC hX hl hH hn hdm hs hS) (fun h => kf (iI_ne_f ha (by decide) h) D p l e s m args below meth c H locs ls Q hC hX hl hH hn hdm hs hS)
theorem r_icmp_lt {S : PS} {cc : ByteArray} {pc : Nat} {lv : List (Nat × Value)} {st : List Value} {w : PW} {n ce sl : Nat} {a b off : Int} (hb : S.1.1 = cc) (q tgt : Nat) (hd : decode cc pc = .ok (.if_icmp .lt off, 3)) (hq : pc + 3 = q) (ht : (pc : Int) + off = (tgt : Int)) (ha : (-2147483648 ≤ a ∧ a < 2147483648)) (hbb : (-2147483648 ≤ b ∧ b < 2147483648)) (kt : a < b → Wp S tgt lv st w n ce sl) (kf : b ≤ a → Wp S q lv st w n ce sl) : Wp S pc lv (.int (iI b) :: .int (iI a) :: st) w n ce sl := by
  intro D p l e s m args below meth c H locs ls Q hC hX hl hH hn hdm hs hS
  subst hb
  subst hq
  exact lv_icmp_lt hC.1 hC.2.1 hd ht (fun h => kt (iI_lt_t ha hbb h) D p l e s m args below meth c H locs ls Q hC hX hl hH hn hdm hs hS) (fun h => kf (iI_lt_f ha hbb h) D p l e s m args below meth c H locs ls Q hC hX hl hH hn hdm hs hS)
theorem r_if_lt {S : PS} {cc : ByteArray} {pc : Nat} {lv : List (Nat × Value)} {st : List Value} {w : PW} {n ce sl : Nat} {a off : Int} (hb : S.1.1 = cc) (q tgt : Nat) (hd : decode cc pc = .ok (.ifCond .lt off, 3)) (hq : pc + 3 = q) (ht : (pc : Int) + off = (tgt : Int)) (ha : (-2147483648 ≤ a ∧ a < 2147483648)) (kt : a < 0 → Wp S tgt lv st w n ce sl) (kf : 0 ≤ a → Wp S q lv st w n ce sl) : Wp S pc lv (.int (iI a) :: st) w n ce sl := by
  intro D p l e s m args below meth c H locs ls Q hC hX hl hH hn hdm hs hS
  subst hb
  subst hq
  exact lv_if_lt hC.1 hC.2.1 hd ht (fun h => kt (iI_lt_t ha (by decide) h) D p l e s m args below meth c H locs ls Q hC hX hl hH hn hdm hs hS) (fun h => kf (iI_lt_f ha (by decide) h) D p l e s m args below meth c H locs ls Q hC hX hl hH hn hdm hs hS)
theorem r_icmp_ge {S : PS} {cc : ByteArray} {pc : Nat} {lv : List (Nat × Value)} {st : List Value} {w : PW} {n ce sl : Nat} {a b off : Int} (hb : S.1.1 = cc) (q tgt : Nat) (hd : decode cc pc = .ok (.if_icmp .ge off, 3)) (hq : pc + 3 = q) (ht : (pc : Int) + off = (tgt : Int)) (ha : (-2147483648 ≤ a ∧ a < 2147483648)) (hbb : (-2147483648 ≤ b ∧ b < 2147483648)) (kt : b ≤ a → Wp S tgt lv st w n ce sl) (kf : a < b → Wp S q lv st w n ce sl) : Wp S pc lv (.int (iI b) :: .int (iI a) :: st) w n ce sl := by
  intro D p l e s m args below meth c H locs ls Q hC hX hl hH hn hdm hs hS
  subst hb
  subst hq
  exact lv_icmp_ge hC.1 hC.2.1 hd ht (fun h => kt (iI_ge_t ha hbb h) D p l e s m args below meth c H locs ls Q hC hX hl hH hn hdm hs hS) (fun h => kf (iI_ge_f ha hbb h) D p l e s m args below meth c H locs ls Q hC hX hl hH hn hdm hs hS)
theorem r_if_ge {S : PS} {cc : ByteArray} {pc : Nat} {lv : List (Nat × Value)} {st : List Value} {w : PW} {n ce sl : Nat} {a off : Int} (hb : S.1.1 = cc) (q tgt : Nat) (hd : decode cc pc = .ok (.ifCond .ge off, 3)) (hq : pc + 3 = q) (ht : (pc : Int) + off = (tgt : Int)) (ha : (-2147483648 ≤ a ∧ a < 2147483648)) (kt : 0 ≤ a → Wp S tgt lv st w n ce sl) (kf : a < 0 → Wp S q lv st w n ce sl) : Wp S pc lv (.int (iI a) :: st) w n ce sl := by
  intro D p l e s m args below meth c H locs ls Q hC hX hl hH hn hdm hs hS
  subst hb
  subst hq
  exact lv_if_ge hC.1 hC.2.1 hd ht (fun h => kt (iI_ge_t ha (by decide) h) D p l e s m args below meth c H locs ls Q hC hX hl hH hn hdm hs hS) (fun h => kf (iI_ge_f ha (by decide) h) D p l e s m args below meth c H locs ls Q hC hX hl hH hn hdm hs hS)
theorem r_icmp_gt {S : PS} {cc : ByteArray} {pc : Nat} {lv : List (Nat × Value)} {st : List Value} {w : PW} {n ce sl : Nat} {a b off : Int} (hb : S.1.1 = cc) (q tgt : Nat) (hd : decode cc pc = .ok (.if_icmp .gt off, 3)) (hq : pc + 3 = q) (ht : (pc : Int) + off = (tgt : Int)) (ha : (-2147483648 ≤ a ∧ a < 2147483648)) (hbb : (-2147483648 ≤ b ∧ b < 2147483648)) (kt : b < a → Wp S tgt lv st w n ce sl) (kf : a ≤ b → Wp S q lv st w n ce sl) : Wp S pc lv (.int (iI b) :: .int (iI a) :: st) w n ce sl := by
  intro D p l e s m args below meth c H locs ls Q hC hX hl hH hn hdm hs hS
  subst hb
  subst hq
  exact lv_icmp_gt hC.1 hC.2.1 hd ht (fun h => kt (iI_gt_t ha hbb h) D p l e s m args below meth c H locs ls Q hC hX hl hH hn hdm hs hS) (fun h => kf (iI_gt_f ha hbb h) D p l e s m args below meth c H locs ls Q hC hX hl hH hn hdm hs hS)
theorem r_if_gt {S : PS} {cc : ByteArray} {pc : Nat} {lv : List (Nat × Value)} {st : List Value} {w : PW} {n ce sl : Nat} {a off : Int} (hb : S.1.1 = cc) (q tgt : Nat) (hd : decode cc pc = .ok (.ifCond .gt off, 3)) (hq : pc + 3 = q) (ht : (pc : Int) + off = (tgt : Int)) (ha : (-2147483648 ≤ a ∧ a < 2147483648)) (kt : 0 < a → Wp S tgt lv st w n ce sl) (kf : a ≤ 0 → Wp S q lv st w n ce sl) : Wp S pc lv (.int (iI a) :: st) w n ce sl := by
  intro D p l e s m args below meth c H locs ls Q hC hX hl hH hn hdm hs hS
  subst hb
  subst hq
  exact lv_if_gt hC.1 hC.2.1 hd ht (fun h => kt (iI_gt_t ha (by decide) h) D p l e s m args below meth c H locs ls Q hC hX hl hH hn hdm hs hS) (fun h => kf (iI_gt_f ha (by decide) h) D p l e s m args below meth c H locs ls Q hC hX hl hH hn hdm hs hS)
theorem r_icmp_le {S : PS} {cc : ByteArray} {pc : Nat} {lv : List (Nat × Value)} {st : List Value} {w : PW} {n ce sl : Nat} {a b off : Int} (hb : S.1.1 = cc) (q tgt : Nat) (hd : decode cc pc = .ok (.if_icmp .le off, 3)) (hq : pc + 3 = q) (ht : (pc : Int) + off = (tgt : Int)) (ha : (-2147483648 ≤ a ∧ a < 2147483648)) (hbb : (-2147483648 ≤ b ∧ b < 2147483648)) (kt : a ≤ b → Wp S tgt lv st w n ce sl) (kf : b < a → Wp S q lv st w n ce sl) : Wp S pc lv (.int (iI b) :: .int (iI a) :: st) w n ce sl := by
  intro D p l e s m args below meth c H locs ls Q hC hX hl hH hn hdm hs hS
  subst hb
  subst hq
  exact lv_icmp_le hC.1 hC.2.1 hd ht (fun h => kt (iI_le_t ha hbb h) D p l e s m args below meth c H locs ls Q hC hX hl hH hn hdm hs hS) (fun h => kf (iI_le_f ha hbb h) D p l e s m args below meth c H locs ls Q hC hX hl hH hn hdm hs hS)
theorem r_if_le {S : PS} {cc : ByteArray} {pc : Nat} {lv : List (Nat × Value)} {st : List Value} {w : PW} {n ce sl : Nat} {a off : Int} (hb : S.1.1 = cc) (q tgt : Nat) (hd : decode cc pc = .ok (.ifCond .le off, 3)) (hq : pc + 3 = q) (ht : (pc : Int) + off = (tgt : Int)) (ha : (-2147483648 ≤ a ∧ a < 2147483648)) (kt : a ≤ 0 → Wp S tgt lv st w n ce sl) (kf : 0 < a → Wp S q lv st w n ce sl) : Wp S pc lv (.int (iI a) :: st) w n ce sl := by
  intro D p l e s m args below meth c H locs ls Q hC hX hl hH hn hdm hs hS
  subst hb
  subst hq
  exact lv_if_le hC.1 hC.2.1 hd ht (fun h => kt (iI_le_t ha (by decide) h) D p l e s m args below meth c H locs ls Q hC hX hl hH hn hdm hs hS) (fun h => kf (iI_le_f ha (by decide) h) D p l e s m args below meth c H locs ls Q hC hX hl hH hn hdm hs hS)
theorem r_icmpR_eq {S : PS} {cc : ByteArray} {pc : Nat} {lv : List (Nat × Value)} {st : List Value} {w : PW} {n ce sl : Nat} {x y : Int32} {off : Int} (hb : S.1.1 = cc) (q tgt : Nat) (hd : decode cc pc = .ok (.if_icmp .eq off, 3)) (hq : pc + 3 = q) (ht : (pc : Int) + off = (tgt : Int)) (kt : x = y → Wp S tgt lv st w n ce sl) (kf : ¬ (x = y) → Wp S q lv st w n ce sl) : Wp S pc lv (.int y :: .int x :: st) w n ce sl := by
  intro D p l e s m args below meth c H locs ls Q hC hX hl hH hn hdm hs hS
  subst hb
  subst hq
  exact lv_icmp_eq hC.1 hC.2.1 hd ht (fun h => kt h D p l e s m args below meth c H locs ls Q hC hX hl hH hn hdm hs hS) (fun h => kf h D p l e s m args below meth c H locs ls Q hC hX hl hH hn hdm hs hS)
theorem r_icmpR_ne {S : PS} {cc : ByteArray} {pc : Nat} {lv : List (Nat × Value)} {st : List Value} {w : PW} {n ce sl : Nat} {x y : Int32} {off : Int} (hb : S.1.1 = cc) (q tgt : Nat) (hd : decode cc pc = .ok (.if_icmp .ne off, 3)) (hq : pc + 3 = q) (ht : (pc : Int) + off = (tgt : Int)) (kt : x ≠ y → Wp S tgt lv st w n ce sl) (kf : x = y → Wp S q lv st w n ce sl) : Wp S pc lv (.int y :: .int x :: st) w n ce sl := by
  intro D p l e s m args below meth c H locs ls Q hC hX hl hH hn hdm hs hS
  subst hb
  subst hq
  exact lv_icmp_ne hC.1 hC.2.1 hd ht (fun h => kt h D p l e s m args below meth c H locs ls Q hC hX hl hH hn hdm hs hS) (fun h => kf h D p l e s m args below meth c H locs ls Q hC hX hl hH hn hdm hs hS)
theorem r_icmpR_lt {S : PS} {cc : ByteArray} {pc : Nat} {lv : List (Nat × Value)} {st : List Value} {w : PW} {n ce sl : Nat} {x y : Int32} {off : Int} (hb : S.1.1 = cc) (q tgt : Nat) (hd : decode cc pc = .ok (.if_icmp .lt off, 3)) (hq : pc + 3 = q) (ht : (pc : Int) + off = (tgt : Int)) (kt : x < y → Wp S tgt lv st w n ce sl) (kf : ¬ (x < y) → Wp S q lv st w n ce sl) : Wp S pc lv (.int y :: .int x :: st) w n ce sl := by
  intro D p l e s m args below meth c H locs ls Q hC hX hl hH hn hdm hs hS
  subst hb
  subst hq
  exact lv_icmp_lt hC.1 hC.2.1 hd ht (fun h => kt h D p l e s m args below meth c H locs ls Q hC hX hl hH hn hdm hs hS) (fun h => kf h D p l e s m args below meth c H locs ls Q hC hX hl hH hn hdm hs hS)
theorem r_icmpR_ge {S : PS} {cc : ByteArray} {pc : Nat} {lv : List (Nat × Value)} {st : List Value} {w : PW} {n ce sl : Nat} {x y : Int32} {off : Int} (hb : S.1.1 = cc) (q tgt : Nat) (hd : decode cc pc = .ok (.if_icmp .ge off, 3)) (hq : pc + 3 = q) (ht : (pc : Int) + off = (tgt : Int)) (kt : y ≤ x → Wp S tgt lv st w n ce sl) (kf : ¬ (y ≤ x) → Wp S q lv st w n ce sl) : Wp S pc lv (.int y :: .int x :: st) w n ce sl := by
  intro D p l e s m args below meth c H locs ls Q hC hX hl hH hn hdm hs hS
  subst hb
  subst hq
  exact lv_icmp_ge hC.1 hC.2.1 hd ht (fun h => kt h D p l e s m args below meth c H locs ls Q hC hX hl hH hn hdm hs hS) (fun h => kf h D p l e s m args below meth c H locs ls Q hC hX hl hH hn hdm hs hS)
theorem r_icmpR_gt {S : PS} {cc : ByteArray} {pc : Nat} {lv : List (Nat × Value)} {st : List Value} {w : PW} {n ce sl : Nat} {x y : Int32} {off : Int} (hb : S.1.1 = cc) (q tgt : Nat) (hd : decode cc pc = .ok (.if_icmp .gt off, 3)) (hq : pc + 3 = q) (ht : (pc : Int) + off = (tgt : Int)) (kt : y < x → Wp S tgt lv st w n ce sl) (kf : ¬ (y < x) → Wp S q lv st w n ce sl) : Wp S pc lv (.int y :: .int x :: st) w n ce sl := by
  intro D p l e s m args below meth c H locs ls Q hC hX hl hH hn hdm hs hS
  subst hb
  subst hq
  exact lv_icmp_gt hC.1 hC.2.1 hd ht (fun h => kt h D p l e s m args below meth c H locs ls Q hC hX hl hH hn hdm hs hS) (fun h => kf h D p l e s m args below meth c H locs ls Q hC hX hl hH hn hdm hs hS)
theorem r_icmpR_le {S : PS} {cc : ByteArray} {pc : Nat} {lv : List (Nat × Value)} {st : List Value} {w : PW} {n ce sl : Nat} {x y : Int32} {off : Int} (hb : S.1.1 = cc) (q tgt : Nat) (hd : decode cc pc = .ok (.if_icmp .le off, 3)) (hq : pc + 3 = q) (ht : (pc : Int) + off = (tgt : Int)) (kt : x ≤ y → Wp S tgt lv st w n ce sl) (kf : ¬ (x ≤ y) → Wp S q lv st w n ce sl) : Wp S pc lv (.int y :: .int x :: st) w n ce sl := by
  intro D p l e s m args below meth c H locs ls Q hC hX hl hH hn hdm hs hS
  subst hb
  subst hq
  exact lv_icmp_le hC.1 hC.2.1 hd ht (fun h => kt h D p l e s m args below meth c H locs ls Q hC hX hl hH hn hdm hs hS) (fun h => kf h D p l e s m args below meth c H locs ls Q hC hX hl hH hn hdm hs hS)
theorem r_ifb_eq {S : PS} {cc : ByteArray} {pc : Nat} {lv : List (Nat × Value)} {st : List Value} {w : PW} {n ce sl : Nat} {b : Bool} {off : Int} (hb : S.1.1 = cc) (q tgt : Nat) (hd : decode cc pc = .ok (.ifCond .eq off, 3)) (hq : pc + 3 = q) (ht : (pc : Int) + off = (tgt : Int)) (kt : b = false → Wp S tgt lv st w n ce sl) (kf : b = true → Wp S q lv st w n ce sl) : Wp S pc lv (.int (bI b) :: st) w n ce sl := by
  intro D p l e s m args below meth c H locs ls Q hC hX hl hH hn hdm hs hS
  subst hb
  subst hq
  exact lv_if_eq hC.1 hC.2.1 hd ht (fun h => kt (bI_eq_t h) D p l e s m args below meth c H locs ls Q hC hX hl hH hn hdm hs hS) (fun h => kf (bI_eq_f h) D p l e s m args below meth c H locs ls Q hC hX hl hH hn hdm hs hS)
theorem r_ifb_ne {S : PS} {cc : ByteArray} {pc : Nat} {lv : List (Nat × Value)} {st : List Value} {w : PW} {n ce sl : Nat} {b : Bool} {off : Int} (hb : S.1.1 = cc) (q tgt : Nat) (hd : decode cc pc = .ok (.ifCond .ne off, 3)) (hq : pc + 3 = q) (ht : (pc : Int) + off = (tgt : Int)) (kt : b = true → Wp S tgt lv st w n ce sl) (kf : b = false → Wp S q lv st w n ce sl) : Wp S pc lv (.int (bI b) :: st) w n ce sl := by
  intro D p l e s m args below meth c H locs ls Q hC hX hl hH hn hdm hs hS
  subst hb
  subst hq
  exact lv_if_ne hC.1 hC.2.1 hd ht (fun h => kt (bI_ne_t h) D p l e s m args below meth c H locs ls Q hC hX hl hH hn hdm hs hS) (fun h => kf (bI_ne_f h) D p l e s m args below meth c H locs ls Q hC hX hl hH hn hdm hs hS)
theorem r_if0_ne {S : PS} {cc : ByteArray} {pc : Nat} {lv : List (Nat × Value)} {st : List Value} {w : PW} {n ce sl : Nat} {x : Int32} {off : Int} (hb : S.1.1 = cc) (q tgt : Nat) (hd : decode cc pc = .ok (.ifCond .ne off, 3)) (hq : pc + 3 = q) (ht : (pc : Int) + off = (tgt : Int)) (kt : ¬ x = 0 → Wp S tgt lv st w n ce sl) (kf : x = 0 → Wp S q lv st w n ce sl) : Wp S pc lv (.int x :: st) w n ce sl := by
  intro D p l e s m args below meth c H locs ls Q hC hX hl hH hn hdm hs hS
  subst hb
  subst hq
  exact lv_if_ne hC.1 hC.2.1 hd ht (fun h => kt h D p l e s m args below meth c H locs ls Q hC hX hl hH hn hdm hs hS) (fun h => kf h D p l e s m args below meth c H locs ls Q hC hX hl hH hn hdm hs hS)
theorem r_if0_eq {S : PS} {cc : ByteArray} {pc : Nat} {lv : List (Nat × Value)} {st : List Value} {w : PW} {n ce sl : Nat} {x : Int32} {off : Int} (hb : S.1.1 = cc) (q tgt : Nat) (hd : decode cc pc = .ok (.ifCond .eq off, 3)) (hq : pc + 3 = q) (ht : (pc : Int) + off = (tgt : Int)) (kt : x = 0 → Wp S tgt lv st w n ce sl) (kf : ¬ x = 0 → Wp S q lv st w n ce sl) : Wp S pc lv (.int x :: st) w n ce sl := by
  intro D p l e s m args below meth c H locs ls Q hC hX hl hH hn hdm hs hS
  subst hb
  subst hq
  exact lv_if_eq hC.1 hC.2.1 hd ht (fun h => kt h D p l e s m args below meth c H locs ls Q hC hX hl hH hn hdm hs hS) (fun h => kf h D p l e s m args below meth c H locs ls Q hC hX hl hH hn hdm hs hS)
theorem r_ifnonnull {S : PS} {cc : ByteArray} {pc : Nat} {lv : List (Nat × Value)} {st : List Value} {w : PW} {n ce sl : Nat} {a : Nat} {off : Int} (hb : S.1.1 = cc) (tgt : Nat) (hd : decode cc pc = .ok (.ifnonnull off, 3)) (ht : (pc : Int) + off = (tgt : Int)) (kk : Wp S tgt lv st w n ce sl) : Wp S pc lv (.ref a :: st) w n ce sl := by
  intro D p l e s m args below meth c H locs ls Q hC hX hl hH hn hdm hs hS
  subst hb
  exact lv_ifnonnull hC.1 hC.2.1 hd ht (kk D p l e s m args below meth c H locs ls Q hC hX hl hH hn hdm hs hS)
theorem r_ifnull {S : PS} {cc : ByteArray} {pc : Nat} {lv : List (Nat × Value)} {st : List Value} {w : PW} {n ce sl : Nat} {a : Nat} {off : Int} (hb : S.1.1 = cc) (q : Nat) (hd : decode cc pc = .ok (.ifnull off, 3)) (hq : pc + 3 = q) (kk : Wp S q lv st w n ce sl) : Wp S pc lv (.ref a :: st) w n ce sl := by
  intro D p l e s m args below meth c H locs ls Q hC hX hl hH hn hdm hs hS
  subst hb
  subst hq
  exact lv_ifnull hC.1 hC.2.1 hd (kk D p l e s m args below meth c H locs ls Q hC hX hl hH hn hdm hs hS)
theorem r_ifnonnullN {S : PS} {cc : ByteArray} {pc : Nat} {lv : List (Nat × Value)} {st : List Value} {w : PW} {n ce sl : Nat} {off : Int} (hb : S.1.1 = cc) (q : Nat) (hd : decode cc pc = .ok (.ifnonnull off, 3)) (hq : pc + 3 = q) (kk : Wp S q lv st w n ce sl) : Wp S pc lv (.null :: st) w n ce sl := by
  intro D p l e s m args below meth c H locs ls Q hC hX hl hH hn hdm hs hS
  subst hb
  subst hq
  exact lv_ifnonnullN hC.1 hC.2.1 hd (kk D p l e s m args below meth c H locs ls Q hC hX hl hH hn hdm hs hS)
theorem r_ifnullN {S : PS} {cc : ByteArray} {pc : Nat} {lv : List (Nat × Value)} {st : List Value} {w : PW} {n ce sl : Nat} {off : Int} (hb : S.1.1 = cc) (tgt : Nat) (hd : decode cc pc = .ok (.ifnull off, 3)) (ht : (pc : Int) + off = (tgt : Int)) (kk : Wp S tgt lv st w n ce sl) : Wp S pc lv (.null :: st) w n ce sl := by
  intro D p l e s m args below meth c H locs ls Q hC hX hl hH hn hdm hs hS
  subst hb
  exact lv_ifnullN hC.1 hC.2.1 hd ht (kk D p l e s m args below meth c H locs ls Q hC hX hl hH hn hdm hs hS)
end
section
/-! rules for fields, arrays, new cells, calls and ends -/
theorem pK.same {D : PD} {u U : State} (h : u.vm = U.vm) (hk : pK D u) : pK D U := by
  refine ⟨va_K.moved (by rw [h]; exact Vm.Alike.refl _) hk.1, fun x hx => ?_⟩
  obtain ⟨-, hn⟩ := List.mem_filter.mp hx
  have h2 := hk.2 x hx
  cases x <;> first | (cases hn; done) | exact va_Nw.same rfl h h2 | skip
  rename_i ty
  cases ty <;> first | (cases hn; done) | exact va_AO.moved (by rw [h]; exact Vm.Alike.refl _) h2
theorem pH.one {D : PD} {w : PW} {H : Heap} {a : Nat} {e : PE} (h : pH D w H) (hw : w a = some e) : va_P (pG D) vwCl [(a, pE D e)] H := by
  intro k q hk
  cases k with
  | zero => cases hk; exact h a e hw
  | succ k => simp at hk
theorem pH.set {D : PD} {w : PW} {H H1 : Heap} {a : Nat} {e : PE} (h : pH D w H) (he : va_at (pG D) vwCl (a, pE D e) H1) (oq : ∀ q : Nat, q ≠ a → H1[q]? = H[q]?) : pH D (pset w a e) H1 := by
  intro b x hb
  by_cases hba : b = a
  · subst hba
    rw [pset_eq] at hb
    cases hb
    exact he
  · rw [pset_ne w e hba] at hb
    exact (h b x hb).kept (oq b hba)
theorem pH.push {D : PD} {w : PW} {H H1 : Heap} {a : Nat} {e : PE} (h : pH D w H) (ha : H.size = a) (he : va_at (pG D) vwCl (a, pE D e) H1) (oq : ∀ q : Nat, q < H.size → H1[q]? = H[q]?) : pH D (pset w a e) H1 := by
  intro b x hb
  by_cases hba : b = a
  · subst hba
    rw [pset_eq] at hb
    cases hb
    exact he
  · rw [pset_ne w e hba] at hb
    exact (h b x hb).kept (oq b (h b x hb).lt)
theorem pset_dom {w : PW} {a : Nat} {e : PE} {A : Nat → Prop} (h : ∀ q, (w q).isSome = true → A q) (ha : A a) : ∀ q, (pset w a e q).isSome = true → A q := by
  intro q hq
  by_cases hqa : q = a
  · rw [hqa]; exact ha
  · rw [pset_ne w e hqa] at hq
    exact h q hq
/-- field k of the class of number ci: its type, whether it is final -/
def pFd (ci k : Nat) (q : vw_C) (ty : FieldType) (fin : Bool) : Prop := vwCl[ci]? = some q ∧ (∀ x ∈ u_ws q.1 q.2.1 q.2.2, x ∈ PT) ∧ k < q.2.2 ∧ (q.2.1 k).1 = q.1 ∧ parseFieldDescriptor (q.2.1 k).2.2.1 = some ty ∧ (q.2.1 k).2.2.2 = fin ∧
  (∃ tyf : Nat → FieldType, ∀ j, j < q.2.2 → parseFieldDescriptor (q.2.1 j).2.2.1 = some (tyf j)) ∧ ∀ a, a < q.2.2 → ∀ b, b < q.2.2 → a ≠ b → (q.2.1 a).2.1 ≠ (q.2.1 b).2.1
/-- entry idx of the pool of class own names it -/
def pLk (own : String) (idx : Nat) (q : vw_C) (k : Nat) : Prop := Cond.fieldLink own idx q.1 (q.2.1 k).2.1 (q.2.1 k).2.2.1 ∈ PT ∨ ∃ host, Cond.fieldLinkNest own idx q.1 (q.2.1 k).2.1 (q.2.1 k).2.2.1 host ∈ PN
section PHR
variable {S : PS} {cc : ByteArray} {pc : Nat} {lv : List (Nat × Value)} {st : List Value} {w : PW} {n ce sl : Nat}
theorem r_get {own : String} {idx a ci k : Nat} {qc : vw_C} {ty : FieldType} {fin : Bool} {fs : List Value} {v : Value} (hb : S.1.1 = cc) (ho : S.1.2.1 = own) (q : Nat) (hd : decode cc pc = .ok (.getfield idx, 3)) (hq : pc + 3 = q) (hl0 : pLk own idx qc k) (hf : pFd ci k qc ty fin) (hw : w a = some (eO ci fs)) (hv : fs[k]? = some v)
    (kk : Wp S q lv (v :: st) w n ce sl) : Wp S pc lv (.ref a :: st) w n ce sl := by
  intro D p l e s m args below meth c H locs ls Q hC hX hl hH hn hdm hs hS
  subst hq; subst hb; subst ho
  obtain ⟨f1, f2, f3, f4, -⟩ := hf
  obtain ⟨hx, hcd, hml, hown, hts, hret, hnm, hlk, hK, hN⟩ := id hC
  have hk := kk D p l e s m args below meth c H locs ls Q hC hX hl hH hn hdm hs hS
  rcases hl0 with h | ⟨host, h⟩
  · exact va_get (C := qc.1) (T := qc.2.1) (N := qc.2.2) (ci := ci) hx hcd hts f2 hown hK (hH.one hw) 0 (fs := fs) rfl f1 k f3 (hts _ h) (fun _ h9 => by rw [f4] at h9; exact h9) hv hd hk
  · exact va_getN (C := qc.1) (T := qc.2.1) (N := qc.2.2) (ci := ci) (host := host) hx hcd hts f2 hown hK (hH.one hw) 0 (fs := fs) rfl f1 k f3 (va_Nw.use rfl (hN _ h)) (fun _ h9 => by rw [f4] at h9; exact h9) hv hd hk
theorem r_put {own : String} {idx a ci k : Nat} {qc : vw_C} {ty : FieldType} {fs : List Value} {v : Value} (hb : S.1.1 = cc) (ho : S.1.2.1 = own) (q : Nat) (hd : decode cc pc = .ok (.putfield idx, 3)) (hq : pc + 3 = q) (hl0 : pLk own idx qc k) (hf : pFd ci k qc ty false) (hw : w a = some (eO ci fs)) (hkl : k < fs.length) (hty : narrow ty v = v ∧ fits ty v = true)
    (kk : ∀ w1, w1 = pset w a (eO ci (fs.set k v)) → Wp S q lv st w1 n ce sl) : Wp S pc lv (v :: .ref a :: st) w n ce sl := by
  intro D p l e s m args below meth c H locs ls Q hC hX hl hH hn hdm hs hS
  subst hq; subst hb; subst ho
  obtain ⟨f1, f2, f3, f4, f5, f6, ⟨tyf, f7⟩, f8⟩ := hf
  obtain ⟨hx, hcd, hml, hown, hts, hret, hnm, hlk, hK, hN⟩ := id hC
  have hA : S.2.2.1 a := hdm a (by rw [hw]; rfl)
  have hap := va_apart (own := S.1.2.1) (C := qc.1) (T := qc.2.1) (N := qc.2.2) hts f2 tyf f7 f8 hK f1
  obtain ⟨r, h1, cell, q1, q2, q3, q4⟩ := hH a _ hw
  have hr : r = (qc.1, qc.2.1, qc.2.2) := Option.some.inj (h1.symm.trans f1)
  subst hr
  obtain ⟨hSl, hfc, kC, hkC, hkind⟩ := hK.1 ci _ f1
  obtain ⟨cf, kf, fi, f, hi, hsl⟩ := hSl k f3
  have hlay := hts _ (f2 _ (u_in_lay f3))
  unfold u_lay at hlay
  rw [if_neg (by rw [f6]; decide)] at hlay
  have hst := (u_facts hfc hkC (u_lays hts f2 f3) hi).1
  have h6 := u_store hfc hkC hkind hlay hi f5 hty.1 hty.2
  have hi2 := hi
  rw [f4] at hi2
  have key : ∀ H' : Heap, H'[a]? = some (cell.setSlot f.slot v) → H'.size = H.size → (∀ q, q ≠ a → H'[q]? = H[q]?) → W p l e S.2.1 s m args below meth c H' (locs ++ [⟨a, f.slot⟩]) ce sl Q (F0 m (pc + 3) ls st) := by
    intro H' e1 e2 e3
    rw [hsl] at e1 ⊢
    exact kk _ rfl D p l e s m args below meth c H' _ ls Q hC hX hl (hH.set ⟨_, f1, t_OB.to (V := updV (vp_V fs) k v) ⟨_, e1, q2, q3, t_set q4 hap f3 v⟩ (fun j _ => vp_updV_set hkl v j)⟩ e3) (e2.trans hn) (pset_dom hdm hA) hs (hS.put e2 e3 hA)
  rcases hl0 with h | ⟨host, h⟩
  · exact W.putK hx hcd (f := f) ⟨hown, hts _ h, ⟨_, _, _, hi2⟩, hst⟩ (by rw [q2]; exact h6) q1 q3 (by rw [hsl]; exact k2_hasslot (q4 k f3)) rfl rfl hd key
  · exact va_WputK hx hcd (f := f) hown (va_Nw.use rfl (hN _ h)) hi2 hst (by rw [q2]; exact h6) q1 q3 (by rw [hsl]; exact k2_hasslot (q4 k f3)) rfl rfl hd key
theorem r_putF {own : String} {idx a ci k : Nat} {qc : vw_C} {ty : FieldType} {fs : List Value} {v : Value} (hb : S.1.1 = cc) (ho : S.1.2.1 = own) (hname : S.1.2.2.2.2 = "<init>") (hoc : qc.1 = own) (q : Nat) (hd : decode cc pc = .ok (.putfield idx, 3)) (hq : pc + 3 = q) (hl0 : Cond.fieldLink own idx qc.1 (qc.2.1 k).2.1 (qc.2.1 k).2.2.1 ∈ PT) (hf : pFd ci k qc ty true) (hw : w a = some (eO ci fs)) (hkl : k < fs.length) (hty : narrow ty v = v ∧ fits ty v = true)
    (kk : ∀ w1, w1 = pset w a (eO ci (fs.set k v)) → Wp S q lv st w1 n ce sl) : Wp S pc lv (v :: .ref a :: st) w n ce sl := by
  intro D p l e s m args below meth c H locs ls Q hC hX hl hH hn hdm hs hS
  subst hq; subst hb; subst ho
  obtain ⟨f1, f2, f3, f4, f5, f6, ⟨tyf, f7⟩, f8⟩ := hf
  obtain ⟨hx, hcd, hml, hown, hts, hret, hnm, hlk, hK, hN⟩ := id hC
  have hA : S.2.2.1 a := hdm a (by rw [hw]; rfl)
  have hap := va_apart (own := S.1.2.1) (C := qc.1) (T := qc.2.1) (N := qc.2.2) hts f2 tyf f7 f8 hK f1
  obtain ⟨r, h1, cell, q1, q2, q3, q4⟩ := hH a _ hw
  have hr : r = (qc.1, qc.2.1, qc.2.2) := Option.some.inj (h1.symm.trans f1)
  subst hr
  obtain ⟨hSl, hfc, kC, hkC, hkind⟩ := hK.1 ci _ f1
  obtain ⟨cf, kf, fi, f, hi, hsl⟩ := hSl k f3
  have hlay := hts _ (f2 _ (u_in_lay f3))
  unfold u_lay at hlay
  rw [if_pos f6] at hlay
  have hst := (u_facts hfc hkC (u_lays hts f2 f3) hi).1
  have hcf : m.cls = cf := by
    obtain ⟨_, _, c', _, _, _, -, -, hf', -, -, -, hown2, -⟩ := Cond.laysFinal_spec hlay
    have e1 : c' = cf := by have := hi.symm.trans hf'; simp at this; exact this.1.symm
    rw [f4, hoc] at hown2
    rw [← e1]; exact Option.some.inj (hown.symm.trans hown2)
  have h6 := u_fits hfc hkC hkind (Or.inr hlay) hi f5 hty.1 hty.2
  have hi2 := hi
  rw [f4] at hi2
  refine W.putFinK hx hcd hown (hts _ hl0) hi2 hst hcf (hnm.trans hname) (by rw [q2]; exact h6) q1 q3 (by rw [hsl]; exact k2_hasslot (q4 k f3)) rfl rfl hd fun H' e1 e2 e3 => ?_
  rw [hsl] at e1 ⊢
  exact kk _ rfl D p l e s m args below meth c H' _ ls Q hC hX hl (hH.set ⟨_, f1, t_OB.to (V := updV (vp_V fs) k v) ⟨_, e1, q2, q3, t_set q4 hap f3 v⟩ (fun j _ => vp_updV_set hkl v j)⟩ e3) (e2.trans hn) (pset_dom hdm hA) hs (hS.put e2 e3 hA)
theorem r_alen {a k : Nat} {x : vp_A} (hb : S.1.1 = cc) (q : Nat) (hd : decode cc pc = .ok (.arraylength, 1)) (hq : pc + 1 = q) (hw : w a = some (.inl (k, x))) (hk5 : k < 5) (z : Int) (hz : (x.1 : Int) = z) (kk : Wp S q lv (.int (iI z) :: st) w n ce sl) : Wp S pc lv (.ref a :: st) w n ce sl := by
  intro D p l e s m args below meth c H locs ls Q hC hX hl hH hn hdm hs hS
  subst hq; subst hb; subst hz
  obtain ⟨hx, hcd, hml, hown, hts, hret, hnm, hlk, hK, hN⟩ := id hC
  have hk := kk D p l e s m args below meth c H locs ls Q hC hX hl hH hn hdm hs hS
  rw [iI_nat] at hk
  have hP := hH.one hw
  have h5 : k = 0 ∨ k = 1 ∨ k = 2 ∨ k = 3 ∨ k = 4 := by omega
  rcases h5 with rfl | rfl | rfl | rfl | rfl
  · exact va_alen hx hcd hK hP 0 0 rfl rfl rfl hd hk
  · exact va_alen hx hcd hK hP 0 1 rfl rfl rfl hd hk
  · exact va_alen hx hcd hK hP 0 2 rfl rfl rfl hd hk
  · exact va_alen hx hcd hK hP 0 3 rfl rfl rfl hd hk
  · exact va_alen hx hcd hK hP 0 4 rfl rfl rfl hd hk
theorem r_iald {a N : Nat} {f : Nat → Int32} {z : Int} (hb : S.1.1 = cc) (q : Nat) (hd : decode cc pc = .ok (.iaload, 1)) (hq : pc + 1 = q) (hw : w a = some (eI N f)) (j : Nat) (hz : z = (j : Int)) (hj : j < N ∧ N < 2147483648) (kk : Wp S q lv (.int (f j) :: st) w n ce sl) : Wp S pc lv (.int (iI z) :: .ref a :: st) w n ce sl := by
  intro D p l e s m args below meth c H locs ls Q hC hX hl hH hn hdm hs hS
  subst hq; subst hb; subst hz
  obtain ⟨hx, hcd, hml, hown, hts, hret, hnm, hlk, hK, hN⟩ := id hC
  refine va_iald hx hcd hK (hH.one hw) 0 0 rfl rfl (iI_vpin hj.1 hj.2) hd ?_
  rw [iI_clamp (by omega)]
  exact kk D p l e s m args below meth c H locs ls Q hC hX hl hH hn hdm hs hS
theorem r_zald {a N : Nat} {f : Nat → Int32} {z : Int} (hb : S.1.1 = cc) (q : Nat) (hd : decode cc pc = .ok (.baload, 1)) (hq : pc + 1 = q) (hw : w a = some (eZ N f)) (j : Nat) (hz : z = (j : Int)) (hj : j < N ∧ N < 2147483648) (kk : Wp S q lv (.int (f j) :: st) w n ce sl) : Wp S pc lv (.int (iI z) :: .ref a :: st) w n ce sl := by
  intro D p l e s m args below meth c H locs ls Q hC hX hl hH hn hdm hs hS
  subst hq; subst hb; subst hz
  obtain ⟨hx, hcd, hml, hown, hts, hret, hnm, hlk, hK, hN⟩ := id hC
  refine va_zald hx hcd hK (hH.one hw) 0 1 rfl rfl (iI_vpin hj.1 hj.2) hd ?_
  rw [iI_clamp (by omega)]
  exact kk D p l e s m args below meth c H locs ls Q hC hX hl hH hn hdm hs hS
theorem r_aald {a k N : Nat} {f : Nat → Option Nat} {z : Int} (hb : S.1.1 = cc) (q : Nat) (hd : decode cc pc = .ok (.aaload, 1)) (hq : pc + 1 = q) (hw : w a = some (eQ k N f)) (hk5 : 2 ≤ k ∧ k < 5) (j : Nat) (hz : z = (j : Int)) (hj : j < N ∧ N < 2147483648) (b : Nat) (hf : f j = some b) (kk : Wp S q lv (.ref b :: st) w n ce sl) : Wp S pc lv (.int (iI z) :: .ref a :: st) w n ce sl := by
  intro D p l e s m args below meth c H locs ls Q hC hX hl hH hn hdm hs hS
  subst hq; subst hb; subst hz
  obtain ⟨hx, hcd, hml, hown, hts, hret, hnm, hlk, hK, hN⟩ := id hC
  have hk := kk D p l e s m args below meth c H locs ls Q hC hX hl hH hn hdm hs hS
  have hk2 : W p l e S.2.1 s m args below meth c H locs ce sl Q (F0 m (pc + 1) ls (va_rf (f (iI (j : Int)).toNatClampNeg) :: st)) := by
    rw [iI_clamp (by omega), hf]
    exact hk
  have hP := hH.one hw
  have h5 : k = 2 ∨ k = 3 ∨ k = 4 := by omega
  rcases h5 with rfl | rfl | rfl
  · exact va_aldq hx hcd hK hP 0 2 rfl rfl (iI_vpin hj.1 hj.2) hd hk2
  · exact va_aldq hx hcd hK hP 0 3 rfl rfl (iI_vpin hj.1 hj.2) hd hk2
  · exact va_aldq hx hcd hK hP 0 4 rfl rfl (iI_vpin hj.1 hj.2) hd hk2
theorem p_notin {j N : Nat} (h : j < N ∧ N < 2147483648) {cA : ClassId} {g : Nat → Value} : ¬ (iI (j : Int) < 0 ∨ (arrV cA N g).slots.size ≤ (iI (j : Int)).toNatClampNeg) := by
  rw [arrV_size]
  exact iI_vpin h.1 h.2
theorem r_iast {a N : Nat} {f : Nat → Int32} {z : Int} {x : Int32} (hb : S.1.1 = cc) (q : Nat) (hd : decode cc pc = .ok (.iastore, 1)) (hq : pc + 1 = q) (hw : w a = some (eI N f)) (j : Nat) (hz : z = (j : Int)) (hj : j < N ∧ N < 2147483648) (kk : ∀ w1, w1 = pset w a (eI N (upd f j x)) → Wp S q lv st w1 n ce sl) : Wp S pc lv (.int x :: .int (iI z) :: .ref a :: st) w n ce sl := by
  intro D p l e s m args below meth c H locs ls Q hC hX hl hH hn hdm hs hS
  subst hq; subst hb; subst hz
  obtain ⟨hx, hcd, hml, hown, hts, hret, hnm, hlk, hK, hN⟩ := id hC
  have hA : S.2.2.1 a := hdm a (by rw [hw]; rfl)
  have hcell : H[a]? = some (arrV (D.2.2 0) N (fun j => .int (f j))) := hH a _ hw
  refine W.iast hx hcd hcell ((hK.2 0 _ rfl).1 N (fun j => .int (f j))) (fun q => by cases q) (p_notin hj) rfl rfl hd fun H1 e1 z1 oq => ?_
  refine kk _ rfl D p l e s m args below meth c H1 _ ls Q hC hX hl (hH.set ?_ oq) (z1.trans hn) (pset_dom hdm hA) hs (hS.put z1 oq hA)
  show H1[a]? = some (vp_cell _ _)
  rw [e1, iI_clamp (by omega), vp_cell_i, arrV_store]
  congr 2
  funext q
  by_cases hq : q = j
  · subst hq; simp [updV, upd]
  · simp [updV, upd, hq]
theorem r_zast {a N : Nat} {f : Nat → Int32} {z : Int} {x : Int32} (hx01 : narrow .boolean (.int x) = .int x) (hb : S.1.1 = cc) (q : Nat) (hd : decode cc pc = .ok (.bastore, 1)) (hq : pc + 1 = q) (hw : w a = some (eZ N f)) (j : Nat) (hz : z = (j : Int)) (hj : j < N ∧ N < 2147483648) (kk : ∀ w1, w1 = pset w a (eZ N (upd f j x)) → Wp S q lv st w1 n ce sl) : Wp S pc lv (.int x :: .int (iI z) :: .ref a :: st) w n ce sl := by
  intro D p l e s m args below meth c H locs ls Q hC hX hl hH hn hdm hs hS
  subst hq; subst hb; subst hz
  obtain ⟨hx, hcd, hml, hown, hts, hret, hnm, hlk, hK, hN⟩ := id hC
  have hA : S.2.2.1 a := hdm a (by rw [hw]; rfl)
  have hcell : H[a]? = some (arrV (D.2.2 1) N (fun j => .int (f j))) := hH a _ hw
  refine W.zast hx hcd hcell ((hK.2 1 _ rfl).1 N (fun j => .int (f j))) (fun q => by cases q) (p_notin hj) rfl rfl hd fun H1 e1 z1 oq => ?_
  refine kk _ rfl D p l e s m args below meth c H1 _ ls Q hC hX hl (hH.set ?_ oq) (z1.trans hn) (pset_dom hdm hA) hs (hS.put z1 oq hA)
  show H1[a]? = some (vp_cell _ _)
  rw [e1, hx01, iI_clamp (by omega), vp_cell_i, arrV_store]
  congr 2
  funext q
  by_cases hq : q = j
  · subst hq; simp [updV, upd]
  · simp [updV, upd, hq]
theorem r_aast {a k N b ci : Nat} {qc : vw_C} {fsb : List Value} {f : Nat → Option Nat} {z : Int} (hb : S.1.1 = cc) (q : Nat) (hd : decode cc pc = .ok (.aastore, 1)) (hq : pc + 1 = q) (hw : w a = some (eQ k N f)) (hwb : w b = some (eO ci fsb)) (hci : vwCl[ci]? = some qc) (hkc : (k = 2 ∧ qc.1 = RX0) ∨ (k = 3 ∧ qc.1 = RX3) ∨ (k = 4 ∧ qc.1 = RX4)) (j : Nat) (hz : z = (j : Int)) (hj : j < N ∧ N < 2147483648) (kk : ∀ w1, w1 = pset w a (eQ k N (va_up f j (some b))) → Wp S q lv st w1 n ce sl) : Wp S pc lv (.ref b :: .int (iI z) :: .ref a :: st) w n ce sl := by
  intro D p l e s m args below meth c H locs ls Q hC hX hl hH hn hdm hs hS
  subst hq; subst hb; subst hz
  obtain ⟨hx, hcd, hml, hown, hts, hret, hnm, hlk, hK, hN⟩ := id hC
  have hA : S.2.2.1 a := hdm a (by rw [hw]; rfl)
  have hcell : H[a]? = some (arrV (D.2.2 k) N (fun j => va_rf (f j))) := hH a _ hw
  obtain ⟨r', hr', cellV, g1, g2, g3, -⟩ := hH b _ hwb
  have hcls := (hK.1 ci qc hci).2
  have hRA : va_RA s (D.2.2 k) (.object qc.1) := by
    rcases hkc with ⟨rfl, h⟩ | ⟨rfl, h⟩ | ⟨rfl, h⟩ <;> rw [h]
    · exact (hK.2 2 _ rfl).2
    · exact (hK.2 3 _ rfl).2
    · exact (hK.2 4 _ rfl).2
  obtain ⟨kA, comp, k1, k2, k3, -⟩ := hRA
  have hcomp : comp = D.1 ci := Option.some.inj (k3.symm.trans hcls.1)
  subst hcomp
  obtain ⟨kC, hkC, -⟩ := hcls.2
  have h0 : ¬ (iI (j : Int)) < 0 := fun q => (iI_vpin hj.1 hj.2) (Or.inl q)
  have hjs : (iI (j : Int)).toNatClampNeg < (arrV (D.2.2 k) N (fun j => va_rf (f j))).slots.size := by rw [arrV_size, iI_clamp (by omega)]; exact hj.1
  refine W.aast hx hcd hcell (fun q h => by cases h) (fun h => by cases h) k1 k2 rfl hkC ⟨h0, hjs⟩ g1 (fun q h => by rw [g3] at h; cases h) (by rw [g2]; exact hkC) (by rw [g2]; exact va_assign hcls) rfl rfl hd fun H1 e1 z1 oq => ?_
  refine kk _ rfl D p l e s m args below meth c H1 _ ls Q hC hX hl (hH.set ?_ oq) (z1.trans hn) (pset_dom hdm hA) hs (hS.put z1 oq hA)
  show H1[a]? = some (vp_cell _ _)
  rw [e1, iI_clamp (by omega), vp_cell_q, arrV_store]
  congr 2
  funext q
  by_cases hq : q = j
  · subst hq; simp [updV, va_up, va_rf]
  · simp [updV, va_up, hq]
/-- what a new object of the class of number ci holds -/
def pNw (own : String) (idx ci : Nat) (q : vw_C) (fs : List Value) : Prop := vwCl[ci]? = some q ∧ (∀ x ∈ u_ws q.1 q.2.1 q.2.2, x ∈ PT) ∧ (∃ tyf : Nat → FieldType, (∀ j, j < q.2.2 → parseFieldDescriptor (q.2.1 j).2.2.1 = some (tyf j)) ∧ ∀ j, j < q.2.2 → defaultValue (tyf j) = vp_V fs j) ∧
  Cond.classLink own idx q.1 ∈ PT ∧ Cond.instantiable q.1 q.2.2 ∈ PT ∧ Cond.initialized q.1 ∈ PT
theorem r_new {own : String} {idx ci : Nat} {qc : vw_C} {fs : List Value} (hb : S.1.1 = cc) (ho : S.1.2.1 = own) (q : Nat) (hd : decode cc pc = .ok (.new idx, 3)) (hq : pc + 3 = q) (hN0 : pNw own idx ci qc fs) (hce : ce + 1 ≤ S.2.1.cells) (hsl : sl + qc.2.2 ≤ S.2.1.slots)
    (kk : ∀ w1, w1 = pset w n (eO ci fs) → Wp S q lv (.ref n :: st) w1 (n + 1) (ce + 1) (sl + qc.2.2)) : Wp S pc lv st w n ce sl := by
  intro D p l e s m args below meth c H locs ls Q hC hX hl hH hn hdm hs hS
  subst hq; subst hb; subst ho
  obtain ⟨f1, f2, ⟨tyf, f3, f4⟩, f5, f6, f7⟩ := hN0
  obtain ⟨hx, hcd, hml, hown, hts, hret, hnm, hlk, hK, hN⟩ := id hC
  have hKn := hK.1 ci _ f1
  refine W.newcK hx hcd hown (hts _ f5) (hts _ f6) (hts _ f7) rfl hd hce hsl hKn.2.1 hn fun H1 kC hkC e1 z1 o1 => ?_
  refine kk _ rfl D p l e s m args below meth c H1 locs ls Q hC hX hl (hH.push hn ⟨_, f1, (u_born tyf hts f2 hKn hkC e1 f3).to f4⟩ (fun q hq => o1 q (by omega))) z1 (pset_dom hdm (hs _ (by rw [← hn]; exact hS.1))) hs ⟨Nat.le_trans hS.1 (by omega), fun x h1 h2 => (o1 x (by have := hS.1; omega)).trans (hS.2.1 x h1 h2), hS.2.2⟩
theorem p_newarr {k N : Nat} {ty : FieldType} {at0 : ArrayType} (x : (Nat → Int32) ⊕ (Nat → Int64) ⊕ (Nat → UInt32) ⊕ (Nat → UInt64) ⊕ (Nat → Option Nat)) (hb : S.1.1 = cc) (q : Nat) (hd : decode cc pc = .ok (.newarray at0, 2)) (hq : pc + 2 = q) (hty : newarray.typeOf at0 = ty) (hT : ∀ D : PD, (pT D)[k]? = some (D.2.2 k, ty)) (hra : ∀ (s : State) (cA : ClassId), va_RA s cA ty → s.vm.findClass ("[" ++ ty.toString) = some cA) (hac : Cond.arrayClass ty ∈ PT)
    (hx0 : ∀ cA : ClassId, vp_cell cA (N, x) = arrV cA N (fun _ => defaultValue ty)) {z : Int} (hz : z = (N : Int)) (hN2 : N < 2147483647) (hbytes : N * componentBytes ty ≤ 536870912) (hce : ce + 1 ≤ S.2.1.cells) (hsl : sl + N ≤ S.2.1.slots)
    (kk : ∀ w1, w1 = pset w n (.inl (k, N, x)) → Wp S q lv (.ref n :: st) w1 (n + 1) (ce + 1) (sl + N)) : Wp S pc lv (.int (iI z) :: st) w n ce sl := by
  intro D p l e s m args below meth c H locs ls Q hC hX hl hH hn hdm hs hS
  subst hq; subst hb; subst hz; subst hty
  obtain ⟨hx, hcd, hml, hown, hts, hret, hnm, hlk, hK, hN⟩ := id hC
  refine va_newaK (N := N) hx hcd (hts _ hac) rfl hd rfl (fun h => (iI_vpin (N := N + 1) (j := N) (by omega) (by omega) : vp_in _ _) (Or.inl h)) (iI_clamp (by omega)) hbytes hce hsl hn fun H1 cA e1 z1 o1 hAr hNm => ?_
  have hcA : cA = D.2.2 k := Option.some.inj (hNm.symm.trans (hra s _ (hK.2 k _ (hT D)).2))
  subst hcA
  refine kk _ rfl D p l e s m args below meth c H1 locs ls Q hC hX hl (hH.push hn ?_ (fun q hq => o1 q (by omega))) z1 (pset_dom hdm (hs _ (by rw [← hn]; exact hS.1))) hs ⟨Nat.le_trans hS.1 (by omega), fun x h1 h2 => (o1 x (by have := hS.1; omega)).trans (hS.2.1 x h1 h2), hS.2.2⟩
  show H1[n]? = some (vp_cell _ _)
  rw [hx0]
  exact e1
theorem r_newI {N : Nat} {z : Int} (hb : S.1.1 = cc) (q : Nat) (hd : decode cc pc = .ok (.newarray .int, 2)) (hq : pc + 2 = q) (hac : Cond.arrayClass .int ∈ PT) (hz : z = (N : Int)) (hN2 : N ≤ 134217728) (hce : ce + 1 ≤ S.2.1.cells) (hsl : sl + N ≤ S.2.1.slots)
    (kk : ∀ w1, w1 = pset w n (eI N (fun _ => 0)) → Wp S q lv (.ref n :: st) w1 (n + 1) (ce + 1) (sl + N)) : Wp S pc lv (.int (iI z) :: st) w n ce sl :=
  p_newarr (k := 0) (ty := .int) (.inl fun _ => 0) hb q hd hq rfl (fun _ => rfl) (fun _ _ h => h) hac (fun _ => rfl) hz (by omega) (by show N * 4 ≤ _; omega) hce hsl kk
theorem r_newZ {N : Nat} {z : Int} (hb : S.1.1 = cc) (q : Nat) (hd : decode cc pc = .ok (.newarray .boolean, 2)) (hq : pc + 2 = q) (hac : Cond.arrayClass .boolean ∈ PT) (hz : z = (N : Int)) (hN2 : N ≤ 134217728) (hce : ce + 1 ≤ S.2.1.cells) (hsl : sl + N ≤ S.2.1.slots)
    (kk : ∀ w1, w1 = pset w n (eZ N (fun _ => 0)) → Wp S q lv (.ref n :: st) w1 (n + 1) (ce + 1) (sl + N)) : Wp S pc lv (.int (iI z) :: st) w n ce sl :=
  p_newarr (k := 1) (ty := .boolean) (.inl fun _ => 0) hb q hd hq rfl (fun _ => rfl) (fun _ _ h => h) hac (fun _ => rfl) hz (by omega) (by show N * 1 ≤ _; omega) hce hsl kk
theorem r_newQ {own C : String} {idx k N : Nat} {z : Int} (hb : S.1.1 = cc) (ho : S.1.2.1 = own) (q : Nat) (hd : decode cc pc = .ok (.anewarray idx, 3)) (hq : pc + 3 = q) (hT : ∀ D : PD, (pT D)[k]? = some (D.2.2 k, .object C)) (hcl : Cond.classLink own idx C ∈ PT) (hao : Cond.arrayOver (.object C) ∈ PN) (hz : z = (N : Int)) (hN2 : N ≤ 134217728) (hce : ce + 1 ≤ S.2.1.cells) (hsl : sl + N ≤ S.2.1.slots)
    (kk : ∀ w1, w1 = pset w n (eQ k N (fun _ => none)) → Wp S q lv (.ref n :: st) w1 (n + 1) (ce + 1) (sl + N)) : Wp S pc lv (.int (iI z) :: st) w n ce sl := by
  intro D p l e s m args below meth c H locs ls Q hC hX hl hH hn hdm hs hS
  subst hq; subst hb; subst hz; subst ho
  obtain ⟨hx, hcd, hml, hown, hts, hret, hnm, hlk, hK, hN⟩ := id hC
  have hcl2 := iI_clamp (j := N) (by omega)
  refine W.anew hx hcd hown (hts _ hcl) (va_AO.use (hN _ hao)) rfl hd rfl (fun h => (iI_vpin (N := N + 1) (j := N) (by omega) (by omega) : vp_in _ _) (Or.inl h)) (by rw [hcl2]; omega) hce (by rw [hcl2]; exact hsl) fun cA kA comp f1 f2 f3 f4 => ?_
  rw [hcl2]
  obtain ⟨kA', comp', g1, g2, g3, g4⟩ := (hK.2 k _ (hT D)).2
  have hcA : cA = D.2.2 k := Option.some.inj (by first | exact f1.symm.trans g4 | exact f4.symm.trans g4)
  subst hcA
  generalize hH1 : H.push ({ cls := D.2.2 k, slots := Array.replicate N .null, vm := .none } : Cell) = H1
  have z1 : H1.size = H.size + 1 := by rw [← hH1, Array.size_push]
  have e1 : H1[H.size]? = some (arrV (D.2.2 k) N (fun _ => .null)) := by rw [← hH1, Array.getElem?_push_size, ← arrV_new]
  have o1 : ∀ q : Nat, q < H.size → H1[q]? = H[q]? := fun q hq => by rw [← hH1, Array.getElem?_push, if_neg (Nat.ne_of_lt hq)]
  rw [hn] at e1 z1
  have hk := kk _ rfl D p l e s m args below meth c H1 locs ls Q hC hX hl (hH.push hn e1 (fun q hq => o1 q (by omega))) z1 (pset_dom hdm (hs _ (by rw [← hn]; exact hS.1))) hs ⟨Nat.le_trans hS.1 (by omega), fun x h1 h2 => (o1 x (by have := hS.1; omega)).trans (hS.2.1 x h1 h2), hS.2.2⟩
  rw [← hn] at hk
  exact hk
theorem r_objInit {own : String} {idx a : Nat} (hb : S.1.1 = cc) (ho : S.1.2.1 = own) (q : Nat) (hd : decode cc pc = .ok (.invokespecial idx, 3)) (hq : pc + 3 = q) (h1 : Cond.methodLink own idx objectInit ∈ PT) (h2 : Cond.instanceMethod objectInit ∈ PT) (h3 : Cond.code objectInit ⟨#[0xb1]⟩ 1 none ∈ PT) (hfr : 1 ≤ S.2.1.frames) (hlo : (st.map fun v => v.category).sum + 12 ≤ S.2.1.locals)
    (kk : Wp S q lv st w n ce sl) : Wp S pc lv (.ref a :: st) w n ce sl := by
  intro D p l e s m args below meth c H locs ls Q hC hX hl hH hn hdm hs hS
  subst hq; subst hb; subst ho
  obtain ⟨hx, hcd, hml, hown, hts, hret, hnm, hlk, hK, hN⟩ := id hC
  exact W.objInit hx hcd hown (hts _ h1) (hts _ h2) (hts _ h3) rfl (by rw [hml]; exact hl.1) rfl hd hfr (by show 2 * 0 + _ + 12 ≤ _; omega) (kk D p l e s m args below meth c H locs ls Q hC hX hl hH hn hdm hs hS)
def pMx (own : String) (idx : Nat) (y : MethodName) (b : ByteArray) (L : Nat) : Prop := Cond.methodLink own idx y ∈ PT ∧ Cond.static y ∈ PT ∧ Cond.initialized "java/lang/Math" ∈ PT ∧ Cond.code y b L (some .int) ∈ PT
theorem r_max {own : String} {idx : Nat} {a b : Int} (hb : S.1.1 = cc) (ho : S.1.2.1 = own) (q : Nat) (hd : decode cc pc = .ok (.invokestatic idx, 3)) (hq : pc + 3 = q) (hM : pMx own idx Lib.Math.max.name Lib.Math.max.code 2) (hfr : 1 ≤ S.2.1.frames) (hlo : (st.map fun v => v.category).sum + 13 ≤ S.2.1.locals) (hce : ce ≤ S.2.1.cells) (hsl : sl ≤ S.2.1.slots) (ha : -2147483648 ≤ a ∧ a < 2147483648) (hbb : -2147483648 ≤ b ∧ b < 2147483648) (z : Int) (hz : (if a < b then b else a) = z)
    (kk : Wp S q lv (.int (iI z) :: st) w n ce sl) : Wp S pc lv (.int (iI b) :: .int (iI a) :: st) w n ce sl := by
  intro D p l e s m args below meth c H locs ls Q hC hX hl hH hn hdm hs hS
  subst hq; subst hb; subst ho; subst hz
  obtain ⟨hx, hcd, hml, hown, hts, hret, hnm, hlk, hK, hN⟩ := id hC
  refine va_mmax hx hcd (by rw [hml]; exact hl.1.symm) hown (hts _ hM.1) (hts _ hM.2.1) (hts _ hM.2.2.1) (hts _ hM.2.2.2) hfr hlo hce hsl hd ?_
  have hk := kk D p l e s m args below meth c H locs ls Q hC hX hl hH hn hdm hs hS
  simp only [iI_cmp_lt ha hbb]
  split <;> rename_i h <;> simp only [h, if_true, if_false] at hk <;> exact hk
theorem r_min {own : String} {idx : Nat} {a b : Int} (hb : S.1.1 = cc) (ho : S.1.2.1 = own) (q : Nat) (hd : decode cc pc = .ok (.invokestatic idx, 3)) (hq : pc + 3 = q) (hM : pMx own idx Lib.Math.min.name Lib.Math.min.code 2) (hfr : 1 ≤ S.2.1.frames) (hlo : (st.map fun v => v.category).sum + 13 ≤ S.2.1.locals) (hce : ce ≤ S.2.1.cells) (hsl : sl ≤ S.2.1.slots) (ha : -2147483648 ≤ a ∧ a < 2147483648) (hbb : -2147483648 ≤ b ∧ b < 2147483648) (z : Int) (hz : (if b < a then b else a) = z)
    (kk : Wp S q lv (.int (iI z) :: st) w n ce sl) : Wp S pc lv (.int (iI b) :: .int (iI a) :: st) w n ce sl := by
  intro D p l e s m args below meth c H locs ls Q hC hX hl hH hn hdm hs hS
  subst hq; subst hb; subst ho; subst hz
  obtain ⟨hx, hcd, hml, hown, hts, hret, hnm, hlk, hK, hN⟩ := id hC
  refine va_mmin hx hcd (by rw [hml]; exact hl.1.symm) hown (hts _ hM.1) (hts _ hM.2.1) (hts _ hM.2.2.1) (hts _ hM.2.2.2) hfr hlo hce hsl hd ?_
  have hk := kk D p l e s m args below meth c H locs ls Q hC hX hl hH hn hdm hs hS
  simp only [iI_cmp_lt hbb ha]
  split <;> rename_i h <;> simp only [h, if_true, if_false] at hk <;> exact hk
theorem r_abs {own : String} {idx : Nat} {a : Int} (hb : S.1.1 = cc) (ho : S.1.2.1 = own) (q : Nat) (hd : decode cc pc = .ok (.invokestatic idx, 3)) (hq : pc + 3 = q) (hM : pMx own idx Lib.Math.abs.name Lib.Math.abs.code 1) (hfr : 1 ≤ S.2.1.frames) (hlo : (st.map fun v => v.category).sum + 13 ≤ S.2.1.locals) (hce : ce ≤ S.2.1.cells) (hsl : sl ≤ S.2.1.slots) (ha : -2147483648 ≤ a ∧ a < 2147483648) (z : Int) (hz : (if 0 ≤ a then a else -a) = z)
    (kk : Wp S q lv (.int (iI z) :: st) w n ce sl) : Wp S pc lv (.int (iI a) :: st) w n ce sl := by
  intro D p l e s m args below meth c H locs ls Q hC hX hl hH hn hdm hs hS
  subst hq; subst hb; subst ho; subst hz
  obtain ⟨hx, hcd, hml, hown, hts, hret, hnm, hlk, hK, hN⟩ := id hC
  refine va_mabs hx hcd (by rw [hml]; exact hl.1.symm) hown (hts _ hM.1) (hts _ hM.2.1) (hts _ hM.2.2.1) (hts _ hM.2.2.2) hfr hlo hce hsl hd ?_
  have hk := kk D p l e s m args below meth c H locs ls Q hC hX hl hH hn hdm hs hS
  have h0 : (0 : Int32) ≤ iI a ↔ 0 ≤ a := iI_cmp_le (a := 0) (b := a) (by decide) ha
  have h1 : (0 : Int32) - iI a = iI (-a) := by rw [show (0 : Int32) = iI 0 from rfl, iI_sub, Int.zero_sub]
  simp only [h0, h1]
  split <;> rename_i h <;> simp only [h, if_true, if_false] at hk <;> exact hk
theorem r_ldc2 {own : String} {idx : Nat} {v : Int64} (hb : S.1.1 = cc) (ho : S.1.2.1 = own) (q : Nat) (hd : decode cc pc = .ok (.ldc2_w idx, 3)) (hq : pc + 3 = q) (h1 : Cond.constantLong own idx v ∈ PT) (kk : Wp S q lv (.long v :: st) w n ce sl) : Wp S pc lv st w n ce sl := by
  intro D p l e s m args below meth c H locs ls Q hC hX hl hH hn hdm hs hS
  subst hq; subst hb; subst ho
  obtain ⟨hx, hcd, hml, hown, hts, hret, hnm, hlk, hK, hN⟩ := id hC
  exact lv_ldc2 hx hcd hown (hts _ h1) hd (kk D p l e s m args below meth c H locs ls Q hC hX hl hH hn hdm hs hS)
/-! ends -/
section PRET
variable {b : ByteArray} {own name : String} {nL : Nat} {ret : Option FieldType} {rm : Room} {A : Nat → Prop} {Q : Option Value → PW → Nat → Prop}
theorem r_iret {v : Int32} {ty : FieldType} (hS0 : S = mS b own nL ret name rm A Q) (hd : decode b pc = .ok (.ireturn, 1)) (hr : ret = some ty) (hnw : narrow ty (.int v) = .int v) (hce : ce ≤ rm.cells) (hsl : sl ≤ rm.slots) (hq : Q (some (.int v)) w n) : Wp S pc lv [.int v] w n ce sl := by
  intro D p l e s m args below meth c H locs ls Q' hC hX hl hH hn hdm hs hS
  subst hS0
  obtain ⟨hx, hcd, hml, hown, hts, hret, hnm, hlk, hK⟩ := id hC
  cases hX
  refine W.widen hce hsl ?_
  exact W.zret hx hcd (hret.trans hr) hnw (fun t ht hW => ⟨⟨_, w, rfl, by rw [ht, hn]; exact hq, by rw [ht]; exact hH, hdm, pK.moved hW hK⟩, hS.F ht⟩) hS.2.2 hd hlk
theorem r_lret {v : Int64} (hS0 : S = mS b own nL ret name rm A Q) (hd : decode b pc = .ok (.lreturn, 1)) (hr : ret = some .long) (hce : ce ≤ rm.cells) (hsl : sl ≤ rm.slots) (hq : Q (some (.long v)) w n) : Wp S pc lv [.long v] w n ce sl := by
  intro D p l e s m args below meth c H locs ls Q' hC hX hl hH hn hdm hs hS
  subst hS0
  obtain ⟨hx, hcd, hml, hown, hts, hret, hnm, hlk, hK⟩ := id hC
  cases hX
  refine W.widen hce hsl ?_
  exact W.lret hx hcd (hret.trans hr) (fun t ht hW => ⟨⟨_, w, rfl, by rw [ht, hn]; exact hq, by rw [ht]; exact hH, hdm, pK.moved hW hK⟩, hS.F ht⟩) hS.2.2 hd hlk
theorem r_vret (hS0 : S = mS b own nL ret name rm A Q) (hd : decode b pc = .ok (.return_, 1)) (hr : ret = none) (hce : ce ≤ rm.cells) (hsl : sl ≤ rm.slots) (hq : Q none w n) : Wp S pc lv [] w n ce sl := by
  intro D p l e s m args below meth c H locs ls Q' hC hX hl hH hn hdm hs hS
  subst hS0
  obtain ⟨hx, hcd, hml, hown, hts, hret, hnm, hlk, hK⟩ := id hC
  cases hX
  refine W.widen hce hsl ?_
  exact W.vret hx hcd (hret.trans hr) (fun t ht hW => ⟨⟨_, w, rfl, by rw [ht, hn]; exact hq, by rw [ht]; exact hH, hdm, pK.moved hW hK⟩, hS.F ht⟩) hS.2.2 hd hlk
theorem r_aret {v : Value} {C : String} (hS0 : S = mS b own nL ret name rm A Q) (hd : decode b pc = .ok (.areturn, 1)) (hr : ret = some (.object C)) (hv : v = .null ∨ ∃ a, v = .ref a) (hce : ce ≤ rm.cells) (hsl : sl ≤ rm.slots) (hq : Q (some v) w n) : Wp S pc lv [v] w n ce sl := by
  intro D p l e s m args below meth c H locs ls Q' hC hX hl hH hn hdm hs hS
  subst hS0
  obtain ⟨hx, hcd, hml, hown, hts, hret, hnm, hlk, hK⟩ := id hC
  cases hX
  refine W.widen hce hsl ?_
  exact W.aret hx hcd (hret.trans hr) (Or.inl ⟨_, rfl⟩) hv (fun t ht hW => ⟨⟨_, w, rfl, by rw [ht, hn]; exact hq, by rw [ht]; exact hH, hdm, pK.moved hW hK⟩, hS.F ht⟩) hS.2.2 hd hlk
end PRET
/-! calls -/
theorem p_call {p : Program} {l : Launch} {e : Env} {R : Room} {s : State} {m : MethodId} {args a : Array Value} {below : List Frame} {meth : Method} {c : Code} {H : Heap} {locs : List Loc} {ls : Array Slot} {st0 rest : List Value} {Q : State → Prop} {D : PD} {A0 A1 : Nat → Prop} {Q1 : Option Value → PW → Nat → Prop} {mc ms : Nat} (hr : va_Run p l e R s m args below meth c H locs ce sl mc ms (F0 m pc ls st0) rest (pQ D A1 Q1 a) A1) (hS : va_S A0 s.heap H locs) (hA : ∀ q, A1 q → A0 q)
    (kk : ∀ (v : Option Value) (w1 : PW) (H1 : Heap) (locs1 : List Loc), Q1 v w1 H1.size → pH D w1 H1 → (∀ a, (w1 a).isSome = true → A1 a) → va_S A0 s.heap H1 locs1 → W p l e R s m args below meth c H1 locs1 (ce + mc) (sl + ms) Q (F0 m (pc + 3) ls (v.toList ++ rest))) : W p l e R s m args below meth c H locs ce sl Q (F0 m pc ls st0) := by
  intro T hT X
  obtain ⟨v, st₀, t, T', L, h0, X', hL, e1, e2, ⟨⟨v', w1, hv, hp, hb, hd1, -⟩, hz, hk⟩, st⟩ := hr T hT X
  cases hv
  rw [h0] at hz hk
  obtain ⟨t2, a1, b1⟩ := kk v w1 T'.heap (locs ++ L) (by rw [e1]; exact hp) (by rw [e1]; exact hb) hd1
    ⟨Nat.le_trans hS.1 (by rw [e1]; exact hz), fun q h1 h2 => by rw [e1, hk q (Nat.lt_of_lt_of_le h1 hS.1) (fun z => h2 (hA q z))]; exact hS.2.1 q h1 h2, fun q hq => by
      rcases List.mem_append.mp hq with h | h
      · exact hS.2.2 q h
      · exact hA _ (hL q h)⟩ T' rfl X'
  exact ⟨t2, st t2 a1, b1⟩
def pMt (y : MethodName) (b : ByteArray) (L : Nat) (r : Option FieldType) (k : Nat) : Prop := Cond.code y b L r ∈ PT ∧ Cond.initialized y.cls ∈ PT ∧ (y.cls ≠ "java/lang/invoke/MethodHandle" ∧ y.cls ≠ "java/lang/invoke/VarHandle") ∧ (parseMethodDescriptor y.desc).map (fun d => d.parameters.length) = some k
def pCV (own : String) (idx : Nat) (y : MethodName) (b : ByteArray) (L : Nat) (r : Option FieldType) (k : Nat) : Prop := pMt y b L r k ∧ Cond.methodLink own idx y ∈ PT ∧ Cond.instanceMethod y ∈ PT ∧ Cond.selects y.cls y y ∈ PT
def pCS (own : String) (idx : Nat) (y : MethodName) (b : ByteArray) (L : Nat) (r : Option FieldType) (k : Nat) : Prop := pMt y b L r k ∧ Cond.methodLink own idx y ∈ PT ∧ Cond.static y ∈ PT
def pCN (own : String) (idx : Nat) (y : MethodName) (b : ByteArray) (L : Nat) (k : Nat) : Prop := pMt y b L none k ∧ Cond.methodLink own idx y ∈ PT ∧ Cond.instanceMethod y ∈ PT ∧ y.name = "<init>"
theorem pMt.cb {R : Room} {s : State} {args : Array Value} {own : String} {idx : Nat} {y : MethodName} {b : ByteArray} {L : Nat} {r : Option FieldType} {k : Nat} {rm : Room} (h : pMt y b L r k) (hl : Cond.methodLink own idx y ∈ PT) (hts : ∀ x ∈ PT, x.before args s = true) (hR : rm.frames + 1 ≤ R.frames ∧ 8 + (L + 11) + rm.locals ≤ R.locals) : CallB R s args own idx y b L r (Cond.code y b L r :: PT) rm rm.cells rm.slots k := by
  refine ⟨rfl, rfl, hR.1, hR.2, pay_in hts (PT_cons h.1), List.mem_cons_self, hts _ h.1, hts _ h.2.1, h.2.2.1, fun sig hsig => ?_, hts _ hl⟩
  have h2 := h.2.2.2
  rw [hsig] at h2
  exact (Option.some.inj h2).symm
theorem p_blind {D : PD} {w : PW} {n : Nat} (av : List Value) : FrameBlind (va_Pc av (fun U => U.heap.size = n ∧ pH D w U.heap ∧ pK D U)) := fun a U g mk q => ⟨q.1, q.2.1, q.2.2.1, pK.same (u := U) (U := U.calling g mk a) rfl q.2.2.2⟩
theorem p_pA {S : PS} {s : State} {H : Heap} {locs : List Loc} {w : PW} {n : Nat} (hn : H.size = n) (hdm : ∀ a, (w a).isSome = true → S.2.2.1 a) (hs : ∀ q, s.heap.size ≤ q → S.2.2.1 q) (hS : va_S S.2.2.1 s.heap H locs) : ∀ q, pA w n q → S.2.2.1 q := fun q hq => hq.elim (hdm q) (fun h => hs q (Nat.le_trans hS.1 (by rw [hn]; exact h)))
section PCALL
variable {own : String} {idx : Nat} {y : MethodName} {b : ByteArray} {L : Nat} {r : Option FieldType} {rm : Room} {k a ci : Nat} {As : List Value} {qc : vw_C} {fs : List Value} {st0 : List Value} {Q : Option Value → PW → Nat → Prop}
theorem r_callV (hb : S.1.1 = cc) (ho : S.1.2.1 = own) (q : Nat) (hd : decode cc pc = .ok (.invokevirtual idx, 3)) (hq : pc + 3 = q) (hl0 : pCV own idx y b L r k) (hc : Ctr y b L r rm (.ref a :: As) w n Q) (hk : As.length = k) (hst : st0 = As.reverse ++ .ref a :: st) (hw : w a = some (eO ci fs)) (hci : vwCl[ci]? = some qc) (hqc : qc.1 = y.cls) (hR : rm.frames + 1 ≤ S.2.1.frames ∧ 8 + (L + 11) + rm.locals ≤ S.2.1.locals) (hcat : (st.map fun v => v.category).sum ≤ 8) (hce : ce + rm.cells ≤ S.2.1.cells) (hsl : sl + rm.slots ≤ S.2.1.slots)
    (kk : ∀ v w1 n1, Q v w1 n1 → Wp S q lv (v.toList ++ st) w1 n1 (ce + rm.cells) (sl + rm.slots)) : Wp S pc lv st0 w n ce sl := by
  intro D p l e s m args below meth c H locs ls Q' hC hX hl hH hn hdm hs hS
  subst hq; subst hb; subst ho
  obtain ⟨hx, hcd, hml, hown, hts, hret, hnm, hlk, hK⟩ := id hC
  obtain ⟨m1, m2, m3, m4⟩ := hl0
  obtain ⟨cell, c1, c2, c3⟩ := va_recv hK.1 (hH.one hw) hci (q0 := 0) rfl
  rw [hqc] at c3
  refine p_call (va_runV (C := y.cls) (rest := st) ⟨hx, hcd, hml, hown, hts⟩ (hc l D) ⟨pMt.cb m1 m2 hts hR, hts _ m3, hts _ m4⟩ ⟨p_blind _, ⟨cell, c1, c2, c3⟩, fun U hU hW => ⟨rfl, by rw [hU, hn], by rw [hU]; exact hH, pK.moved hW hK⟩⟩ rfl hk hl.1 hst (lv_room hcat) hd ⟨hce, hsl⟩) hS (p_pA hn hdm hs hS) fun v w1 H1 locs1 g1 g2 g3 g4 => ?_
  exact kk v w1 _ g1 D p l e s m args below meth c H1 locs1 ls Q' hC hX hl g2 rfl (fun q hq => p_pA hn hdm hs hS q (g3 q hq)) hs g4
theorem r_callS (hb : S.1.1 = cc) (ho : S.1.2.1 = own) (q : Nat) (hd : decode cc pc = .ok (.invokestatic idx, 3)) (hq : pc + 3 = q) (hl0 : pCS own idx y b L r k) (hc : Ctr y b L r rm As w n Q) (hk : As.length = k) (hst : st0 = As.reverse ++ st) (hR : rm.frames + 1 ≤ S.2.1.frames ∧ 8 + (L + 11) + rm.locals ≤ S.2.1.locals) (hcat : (st.map fun v => v.category).sum ≤ 8) (hce : ce + rm.cells ≤ S.2.1.cells) (hsl : sl + rm.slots ≤ S.2.1.slots)
    (kk : ∀ v w1 n1, Q v w1 n1 → Wp S q lv (v.toList ++ st) w1 n1 (ce + rm.cells) (sl + rm.slots)) : Wp S pc lv st0 w n ce sl := by
  intro D p l e s m args below meth c H locs ls Q' hC hX hl hH hn hdm hs hS
  subst hq; subst hb; subst ho
  obtain ⟨hx, hcd, hml, hown, hts, hret, hnm, hlk, hK⟩ := id hC
  obtain ⟨m1, m2, m3⟩ := hl0
  refine p_call (va_runS (rest := st) ⟨hx, hcd, hml, hown, hts⟩ (hc l D) ⟨pMt.cb m1 m2 hts hR, hts _ m3⟩ ⟨p_blind _, fun U hU hW => ⟨rfl, by rw [hU, hn], by rw [hU]; exact hH, pK.moved hW hK⟩⟩ rfl hk hl.1 hst (lv_room hcat) hd ⟨hce, hsl⟩) hS (p_pA hn hdm hs hS) fun v w1 H1 locs1 g1 g2 g3 g4 => ?_
  exact kk v w1 _ g1 D p l e s m args below meth c H1 locs1 ls Q' hC hX hl g2 rfl (fun q hq => p_pA hn hdm hs hS q (g3 q hq)) hs g4
theorem r_callN (hb : S.1.1 = cc) (ho : S.1.2.1 = own) (q : Nat) (hd : decode cc pc = .ok (.invokespecial idx, 3)) (hq : pc + 3 = q) (hl0 : pCN own idx y b L k) (hc : Ctr y b L none rm (.ref a :: As) w n Q) (hk : As.length = k) (hst : st0 = As.reverse ++ .ref a :: st) (hR : rm.frames + 1 ≤ S.2.1.frames ∧ 8 + (L + 11) + rm.locals ≤ S.2.1.locals) (hcat : (st.map fun v => v.category).sum ≤ 8) (hce : ce + rm.cells ≤ S.2.1.cells) (hsl : sl + rm.slots ≤ S.2.1.slots)
    (kk : ∀ v w1 n1, Q v w1 n1 → Wp S q lv (v.toList ++ st) w1 n1 (ce + rm.cells) (sl + rm.slots)) : Wp S pc lv st0 w n ce sl := by
  intro D p l e s m args below meth c H locs ls Q' hC hX hl hH hn hdm hs hS
  subst hq; subst hb; subst ho
  obtain ⟨hx, hcd, hml, hown, hts, hret, hnm, hlk, hK⟩ := id hC
  obtain ⟨m1, m2, m3, m4⟩ := hl0
  refine p_call (va_runI (rest := st) ⟨hx, hcd, hml, hown, hts⟩ (hc l D) ⟨pMt.cb m1 m2 hts hR, m4, hts _ m3⟩ ⟨p_blind _, fun U hU hW => ⟨rfl, by rw [hU, hn], by rw [hU]; exact hH, pK.moved hW hK⟩⟩ rfl hk hl.1 hst (lv_room hcat) hd ⟨hce, hsl⟩) hS (p_pA hn hdm hs hS) fun v w1 H1 locs1 g1 g2 g3 g4 => ?_
  exact kk v w1 _ g1 D p l e s m args below meth c H1 locs1 ls Q' hC hX hl g2 rfl (fun q hq => p_pA hn hdm hs hS q (g3 q hq)) hs g4
end PCALL
end PHR
end
section
/-! which entry of a pool is what: the words of tables_1 by their places -/
theorem PT_pos (ws : List Cond) (ps : List Nat) (h : ws = ps.filterMap (fun i => tables_1[i]?)) (g : ws.all goodWord = true) : ∀ x ∈ ws, x ∈ PT := by
  intro x hx
  have h1 := List.all_eq_true.mp g x hx
  rw [h] at hx
  obtain ⟨i, -, hi⟩ := List.mem_filterMap.mp hx
  exact PT_t i hi h1
theorem PT_sel {i : Nat} {q : MethodName × Nat} (h : lw_privs[i]? = some q) : Cond.selects q.1.cls q.1 q.1 ∈ PT := PT_of (List.mem_append_left _ (List.mem_map.mpr ⟨q, List.mem_of_getElem? h, rfl⟩)) rfl
theorem cl_X0 : ∀ x ∈ u_ws RX0 TX0 4, x ∈ PT := PT_pos _ [197, 199, 201, 203] (by decide +kernel) (by decide +kernel)
theorem pf_X0_0 : pFd 0 0 (RX0, TX0, 4) (.array .int) true := ⟨rfl, cl_X0, by decide, rfl, by decide +kernel, rfl, ⟨tyX0, tyX0_ok⟩, nmX0⟩
theorem pf_X0_1 : pFd 0 1 (RX0, TX0, 4) (.array .int) true := ⟨rfl, cl_X0, by decide, rfl, by decide +kernel, rfl, ⟨tyX0, tyX0_ok⟩, nmX0⟩
theorem pf_X0_2 : pFd 0 2 (RX0, TX0, 4) (.array .int) true := ⟨rfl, cl_X0, by decide, rfl, by decide +kernel, rfl, ⟨tyX0, tyX0_ok⟩, nmX0⟩
theorem pf_X0_3 : pFd 0 3 (RX0, TX0, 4) .int false := ⟨rfl, cl_X0, by decide, rfl, by decide +kernel, rfl, ⟨tyX0, tyX0_ok⟩, nmX0⟩
theorem cl_X1 : ∀ x ∈ u_ws RX1 TX1 5, x ∈ PT := PT_pos _ [167, 169, 171, 173, 175] (by decide +kernel) (by decide +kernel)
theorem pf_X1_0 : pFd 1 0 (RX1, TX1, 5) (.array .int) true := ⟨rfl, cl_X1, by decide, rfl, by decide +kernel, rfl, ⟨tyX1, tyX1_ok⟩, nmX1⟩
theorem pf_X1_1 : pFd 1 1 (RX1, TX1, 5) .int false := ⟨rfl, cl_X1, by decide, rfl, by decide +kernel, rfl, ⟨tyX1, tyX1_ok⟩, nmX1⟩
theorem pf_X1_2 : pFd 1 2 (RX1, TX1, 5) .int false := ⟨rfl, cl_X1, by decide, rfl, by decide +kernel, rfl, ⟨tyX1, tyX1_ok⟩, nmX1⟩
theorem pf_X1_3 : pFd 1 3 (RX1, TX1, 5) .int false := ⟨rfl, cl_X1, by decide, rfl, by decide +kernel, rfl, ⟨tyX1, tyX1_ok⟩, nmX1⟩
theorem pf_X1_4 : pFd 1 4 (RX1, TX1, 5) .int false := ⟨rfl, cl_X1, by decide, rfl, by decide +kernel, rfl, ⟨tyX1, tyX1_ok⟩, nmX1⟩
theorem cl_X2 : ∀ x ∈ u_ws RX2 TX2 2, x ∈ PT := PT_pos _ [128, 130] (by decide +kernel) (by decide +kernel)
theorem pf_X2_0 : pFd 2 0 (RX2, TX2, 2) (.array (.object "AnchoredComments$Page")) true := ⟨rfl, cl_X2, by decide, rfl, by decide +kernel, rfl, ⟨tyX2, tyX2_ok⟩, nmX2⟩
theorem pf_X2_1 : pFd 2 1 (RX2, TX2, 2) .int false := ⟨rfl, cl_X2, by decide, rfl, by decide +kernel, rfl, ⟨tyX2, tyX2_ok⟩, nmX2⟩
theorem cl_X3 : ∀ x ∈ u_ws RX3 TX3 8, x ∈ PT := PT_pos _ [81, 83, 85, 87, 89, 91, 93, 95] (by decide +kernel) (by decide +kernel)
theorem pf_X3_0 : pFd 3 0 (RX3, TX3, 8) (.object "AnchoredComments$Text") true := ⟨rfl, cl_X3, by decide, rfl, by decide +kernel, rfl, ⟨tyX3, tyX3_ok⟩, nmX3⟩
theorem pf_X3_1 : pFd 3 1 (RX3, TX3, 8) (.object "AnchoredComments$Text") true := ⟨rfl, cl_X3, by decide, rfl, by decide +kernel, rfl, ⟨tyX3, tyX3_ok⟩, nmX3⟩
theorem pf_X3_2 : pFd 3 2 (RX3, TX3, 8) (.object "AnchoredComments$Text") true := ⟨rfl, cl_X3, by decide, rfl, by decide +kernel, rfl, ⟨tyX3, tyX3_ok⟩, nmX3⟩
theorem pf_X3_3 : pFd 3 3 (RX3, TX3, 8) .int false := ⟨rfl, cl_X3, by decide, rfl, by decide +kernel, rfl, ⟨tyX3, tyX3_ok⟩, nmX3⟩
theorem pf_X3_4 : pFd 3 4 (RX3, TX3, 8) .int false := ⟨rfl, cl_X3, by decide, rfl, by decide +kernel, rfl, ⟨tyX3, tyX3_ok⟩, nmX3⟩
theorem pf_X3_5 : pFd 3 5 (RX3, TX3, 8) .int false := ⟨rfl, cl_X3, by decide, rfl, by decide +kernel, rfl, ⟨tyX3, tyX3_ok⟩, nmX3⟩
theorem pf_X3_6 : pFd 3 6 (RX3, TX3, 8) .int false := ⟨rfl, cl_X3, by decide, rfl, by decide +kernel, rfl, ⟨tyX3, tyX3_ok⟩, nmX3⟩
theorem pf_X3_7 : pFd 3 7 (RX3, TX3, 8) .int false := ⟨rfl, cl_X3, by decide, rfl, by decide +kernel, rfl, ⟨tyX3, tyX3_ok⟩, nmX3⟩
theorem cl_X4 : ∀ x ∈ u_ws RX4 TX4 4, x ∈ PT := PT_pos _ [107, 109, 111, 113] (by decide +kernel) (by decide +kernel)
theorem pf_X4_0 : pFd 4 0 (RX4, TX4, 4) (.object "AnchoredComments$Text") true := ⟨rfl, cl_X4, by decide, rfl, by decide +kernel, rfl, ⟨tyX4, tyX4_ok⟩, nmX4⟩
theorem pf_X4_1 : pFd 4 1 (RX4, TX4, 4) (.array (.object "AnchoredComments$Note")) true := ⟨rfl, cl_X4, by decide, rfl, by decide +kernel, rfl, ⟨tyX4, tyX4_ok⟩, nmX4⟩
theorem pf_X4_2 : pFd 4 2 (RX4, TX4, 4) .int false := ⟨rfl, cl_X4, by decide, rfl, by decide +kernel, rfl, ⟨tyX4, tyX4_ok⟩, nmX4⟩
theorem pf_X4_3 : pFd 4 3 (RX4, TX4, 4) .int false := ⟨rfl, cl_X4, by decide, rfl, by decide +kernel, rfl, ⟨tyX4, tyX4_ok⟩, nmX4⟩
theorem cl_X5 : ∀ x ∈ u_ws RX5 TX5 3, x ∈ PT := PT_pos _ [209, 211, 213] (by decide +kernel) (by decide +kernel)
theorem pf_X5_0 : pFd 5 0 (RX5, TX5, 3) (.array (.object "AnchoredComments$Note")) true := ⟨rfl, cl_X5, by decide, rfl, by decide +kernel, rfl, ⟨tyX5, tyX5_ok⟩, nmX5⟩
theorem pf_X5_1 : pFd 5 1 (RX5, TX5, 3) (.array (.object "AnchoredComments$Choices")) true := ⟨rfl, cl_X5, by decide, rfl, by decide +kernel, rfl, ⟨tyX5, tyX5_ok⟩, nmX5⟩
theorem pf_X5_2 : pFd 5 2 (RX5, TX5, 3) .int false := ⟨rfl, cl_X5, by decide, rfl, by decide +kernel, rfl, ⟨tyX5, tyX5_ok⟩, nmX5⟩
theorem cl_X6 : ∀ x ∈ u_ws RX6 TX6 3, x ∈ PT := PT_pos _ [145, 147, 149] (by decide +kernel) (by decide +kernel)
theorem pf_X6_0 : pFd 6 0 (RX6, TX6, 3) (.object "AnchoredComments$Page") true := ⟨rfl, cl_X6, by decide, rfl, by decide +kernel, rfl, ⟨tyX6, tyX6_ok⟩, nmX6⟩
theorem pf_X6_1 : pFd 6 1 (RX6, TX6, 3) .int false := ⟨rfl, cl_X6, by decide, rfl, by decide +kernel, rfl, ⟨tyX6, tyX6_ok⟩, nmX6⟩
theorem pf_X6_2 : pFd 6 2 (RX6, TX6, 3) .boolean false := ⟨rfl, cl_X6, by decide, rfl, by decide +kernel, rfl, ⟨tyX6, tyX6_ok⟩, nmX6⟩
theorem cl_X7 : ∀ x ∈ u_ws RX7 TX7 2, x ∈ PT := PT_pos _ [37, 39] (by decide +kernel) (by decide +kernel)
theorem pf_X7_0 : pFd 7 0 (RX7, TX7, 2) (.array .int) true := ⟨rfl, cl_X7, by decide, rfl, by decide +kernel, rfl, ⟨tyX7, tyX7_ok⟩, nmX7⟩
theorem pf_X7_1 : pFd 7 1 (RX7, TX7, 2) .int false := ⟨rfl, cl_X7, by decide, rfl, by decide +kernel, rfl, ⟨tyX7, tyX7_ok⟩, nmX7⟩
theorem cl_X8 : ∀ x ∈ u_ws RX8 TX8 8, x ∈ PT := PT_pos _ [224, 226, 228, 230, 232, 234, 236, 238] (by decide +kernel) (by decide +kernel)
theorem pf_X8_0 : pFd 8 0 (RX8, TX8, 8) (.object "AnchoredComments$Text") true := ⟨rfl, cl_X8, by decide, rfl, by decide +kernel, rfl, ⟨tyX8, tyX8_ok⟩, nmX8⟩
theorem pf_X8_1 : pFd 8 1 (RX8, TX8, 8) (.object "AnchoredComments$Page") true := ⟨rfl, cl_X8, by decide, rfl, by decide +kernel, rfl, ⟨tyX8, tyX8_ok⟩, nmX8⟩
theorem pf_X8_2 : pFd 8 2 (RX8, TX8, 8) (.object "AnchoredComments$History") true := ⟨rfl, cl_X8, by decide, rfl, by decide +kernel, rfl, ⟨tyX8, tyX8_ok⟩, nmX8⟩
theorem pf_X8_3 : pFd 8 3 (RX8, TX8, 8) (.object "AnchoredComments$Slot") true := ⟨rfl, cl_X8, by decide, rfl, by decide +kernel, rfl, ⟨tyX8, tyX8_ok⟩, nmX8⟩
theorem pf_X8_4 : pFd 8 4 (RX8, TX8, 8) (.object "AnchoredComments$Slot") true := ⟨rfl, cl_X8, by decide, rfl, by decide +kernel, rfl, ⟨tyX8, tyX8_ok⟩, nmX8⟩
theorem pf_X8_5 : pFd 8 5 (RX8, TX8, 8) (.object "AnchoredComments$Finder") true := ⟨rfl, cl_X8, by decide, rfl, by decide +kernel, rfl, ⟨tyX8, tyX8_ok⟩, nmX8⟩
theorem pf_X8_6 : pFd 8 6 (RX8, TX8, 8) (.object "AnchoredComments$Planner") true := ⟨rfl, cl_X8, by decide, rfl, by decide +kernel, rfl, ⟨tyX8, tyX8_ok⟩, nmX8⟩
theorem pf_X8_7 : pFd 8 7 (RX8, TX8, 8) .int false := ⟨rfl, cl_X8, by decide, rfl, by decide +kernel, rfl, ⟨tyX8, tyX8_ok⟩, nmX8⟩
theorem cl_X9 : ∀ x ∈ u_ws RX9 TX9 20, x ∈ PT := PT_pos _ [645, 647, 649, 651, 653, 655, 657, 659, 661, 663, 665, 667, 669, 671, 673, 675, 677, 679, 681, 683] (by decide +kernel) (by decide +kernel)
theorem pf_X9_0 : pFd 9 0 (RX9, TX9, 20) (.array .int) true := ⟨rfl, cl_X9, by decide, rfl, by decide +kernel, rfl, ⟨tyX9, tyX9_ok⟩, nmX9⟩
theorem pf_X9_1 : pFd 9 1 (RX9, TX9, 20) (.array .int) true := ⟨rfl, cl_X9, by decide, rfl, by decide +kernel, rfl, ⟨tyX9, tyX9_ok⟩, nmX9⟩
theorem pf_X9_2 : pFd 9 2 (RX9, TX9, 20) (.array .int) true := ⟨rfl, cl_X9, by decide, rfl, by decide +kernel, rfl, ⟨tyX9, tyX9_ok⟩, nmX9⟩
theorem pf_X9_3 : pFd 9 3 (RX9, TX9, 20) .int false := ⟨rfl, cl_X9, by decide, rfl, by decide +kernel, rfl, ⟨tyX9, tyX9_ok⟩, nmX9⟩
theorem pf_X9_4 : pFd 9 4 (RX9, TX9, 20) (.array .int) true := ⟨rfl, cl_X9, by decide, rfl, by decide +kernel, rfl, ⟨tyX9, tyX9_ok⟩, nmX9⟩
theorem pf_X9_5 : pFd 9 5 (RX9, TX9, 20) (.array .boolean) true := ⟨rfl, cl_X9, by decide, rfl, by decide +kernel, rfl, ⟨tyX9, tyX9_ok⟩, nmX9⟩
theorem pf_X9_6 : pFd 9 6 (RX9, TX9, 20) .int false := ⟨rfl, cl_X9, by decide, rfl, by decide +kernel, rfl, ⟨tyX9, tyX9_ok⟩, nmX9⟩
theorem pf_X9_7 : pFd 9 7 (RX9, TX9, 20) (.array .int) true := ⟨rfl, cl_X9, by decide, rfl, by decide +kernel, rfl, ⟨tyX9, tyX9_ok⟩, nmX9⟩
theorem pf_X9_8 : pFd 9 8 (RX9, TX9, 20) .int false := ⟨rfl, cl_X9, by decide, rfl, by decide +kernel, rfl, ⟨tyX9, tyX9_ok⟩, nmX9⟩
theorem pf_X9_9 : pFd 9 9 (RX9, TX9, 20) (.array .int) true := ⟨rfl, cl_X9, by decide, rfl, by decide +kernel, rfl, ⟨tyX9, tyX9_ok⟩, nmX9⟩
theorem pf_X9_10 : pFd 9 10 (RX9, TX9, 20) .int false := ⟨rfl, cl_X9, by decide, rfl, by decide +kernel, rfl, ⟨tyX9, tyX9_ok⟩, nmX9⟩
theorem pf_X9_11 : pFd 9 11 (RX9, TX9, 20) .int false := ⟨rfl, cl_X9, by decide, rfl, by decide +kernel, rfl, ⟨tyX9, tyX9_ok⟩, nmX9⟩
theorem pf_X9_12 : pFd 9 12 (RX9, TX9, 20) .int false := ⟨rfl, cl_X9, by decide, rfl, by decide +kernel, rfl, ⟨tyX9, tyX9_ok⟩, nmX9⟩
theorem pf_X9_13 : pFd 9 13 (RX9, TX9, 20) .int false := ⟨rfl, cl_X9, by decide, rfl, by decide +kernel, rfl, ⟨tyX9, tyX9_ok⟩, nmX9⟩
theorem pf_X9_14 : pFd 9 14 (RX9, TX9, 20) .int false := ⟨rfl, cl_X9, by decide, rfl, by decide +kernel, rfl, ⟨tyX9, tyX9_ok⟩, nmX9⟩
theorem pf_X9_15 : pFd 9 15 (RX9, TX9, 20) (.array .int) true := ⟨rfl, cl_X9, by decide, rfl, by decide +kernel, rfl, ⟨tyX9, tyX9_ok⟩, nmX9⟩
theorem pf_X9_16 : pFd 9 16 (RX9, TX9, 20) .int false := ⟨rfl, cl_X9, by decide, rfl, by decide +kernel, rfl, ⟨tyX9, tyX9_ok⟩, nmX9⟩
theorem pf_X9_17 : pFd 9 17 (RX9, TX9, 20) (.array .int) true := ⟨rfl, cl_X9, by decide, rfl, by decide +kernel, rfl, ⟨tyX9, tyX9_ok⟩, nmX9⟩
theorem pf_X9_18 : pFd 9 18 (RX9, TX9, 20) (.array .int) true := ⟨rfl, cl_X9, by decide, rfl, by decide +kernel, rfl, ⟨tyX9, tyX9_ok⟩, nmX9⟩
theorem pf_X9_19 : pFd 9 19 (RX9, TX9, 20) (.array .int) true := ⟨rfl, cl_X9, by decide, rfl, by decide +kernel, rfl, ⟨tyX9, tyX9_ok⟩, nmX9⟩
theorem lkw_X7_15 : Cond.fieldLink RX7 15 (RX7, TX7, 2).1 ((RX7, TX7, 2).2.1 0).2.1 ((RX7, TX7, 2).2.1 0).2.2.1 ∈ PT := PT_t 29 (by decide +kernel) rfl
theorem lk_X7_15 : pLk RX7 15 (RX7, TX7, 2) 0 := Or.inl lkw_X7_15
theorem lk_X1_71 : pLk RX1 71 (RX7, TX7, 2) 0 := Or.inr ⟨"AnchoredComments", PN_t 30 (by decide +kernel) rfl⟩
theorem lkw_X7_21 : Cond.fieldLink RX7 21 (RX7, TX7, 2).1 ((RX7, TX7, 2).2.1 1).2.1 ((RX7, TX7, 2).2.1 1).2.2.1 ∈ PT := PT_t 31 (by decide +kernel) rfl
theorem lk_X7_21 : pLk RX7 21 (RX7, TX7, 2) 1 := Or.inl lkw_X7_21
theorem lk_X0_21 : pLk RX0 21 (RX7, TX7, 2) 1 := Or.inr ⟨"AnchoredComments", PN_t 32 (by decide +kernel) rfl⟩
theorem lk_X8_60 : pLk RX8 60 (RX7, TX7, 2) 1 := Or.inr ⟨"AnchoredComments", PN_t 33 (by decide +kernel) rfl⟩
theorem lk_X1_48 : pLk RX1 48 (RX7, TX7, 2) 1 := Or.inr ⟨"AnchoredComments", PN_t 34 (by decide +kernel) rfl⟩
theorem lk_X4_58 : pLk RX4 58 (RX7, TX7, 2) 1 := Or.inr ⟨"AnchoredComments", PN_t 35 (by decide +kernel) rfl⟩
theorem lk_X3_78 : pLk RX3 78 (RX7, TX7, 2) 1 := Or.inr ⟨"AnchoredComments", PN_t 36 (by decide +kernel) rfl⟩
theorem lkw_X3_14 : Cond.fieldLink RX3 14 (RX3, TX3, 8).1 ((RX3, TX3, 8).2.1 0).2.1 ((RX3, TX3, 8).2.1 0).2.2.1 ∈ PT := PT_t 60 (by decide +kernel) rfl
theorem lk_X3_14 : pLk RX3 14 (RX3, TX3, 8) 0 := Or.inl lkw_X3_14
theorem lk_X8_186 : pLk RX8 186 (RX3, TX3, 8) 0 := Or.inr ⟨"AnchoredComments", PN_t 61 (by decide +kernel) rfl⟩
theorem lkw_X3_20 : Cond.fieldLink RX3 20 (RX3, TX3, 8).1 ((RX3, TX3, 8).2.1 1).2.1 ((RX3, TX3, 8).2.1 1).2.2.1 ∈ PT := PT_t 62 (by decide +kernel) rfl
theorem lk_X3_20 : pLk RX3 20 (RX3, TX3, 8) 1 := Or.inl lkw_X3_20
theorem lk_X1_18 : pLk RX1 18 (RX3, TX3, 8) 1 := Or.inr ⟨"AnchoredComments", PN_t 63 (by decide +kernel) rfl⟩
theorem lk_X8_127 : pLk RX8 127 (RX3, TX3, 8) 1 := Or.inr ⟨"AnchoredComments", PN_t 64 (by decide +kernel) rfl⟩
theorem lkw_X3_23 : Cond.fieldLink RX3 23 (RX3, TX3, 8).1 ((RX3, TX3, 8).2.1 2).2.1 ((RX3, TX3, 8).2.1 2).2.2.1 ∈ PT := PT_t 65 (by decide +kernel) rfl
theorem lk_X3_23 : pLk RX3 23 (RX3, TX3, 8) 2 := Or.inl lkw_X3_23
theorem lk_X8_189 : pLk RX8 189 (RX3, TX3, 8) 2 := Or.inr ⟨"AnchoredComments", PN_t 66 (by decide +kernel) rfl⟩
theorem lkw_X3_30 : Cond.fieldLink RX3 30 (RX3, TX3, 8).1 ((RX3, TX3, 8).2.1 3).2.1 ((RX3, TX3, 8).2.1 3).2.2.1 ∈ PT := PT_t 67 (by decide +kernel) rfl
theorem lk_X3_30 : pLk RX3 30 (RX3, TX3, 8) 3 := Or.inl lkw_X3_30
theorem lk_X4_47 : pLk RX4 47 (RX3, TX3, 8) 3 := Or.inr ⟨"AnchoredComments", PN_t 68 (by decide +kernel) rfl⟩
theorem lk_X8_180 : pLk RX8 180 (RX3, TX3, 8) 3 := Or.inr ⟨"AnchoredComments", PN_t 69 (by decide +kernel) rfl⟩
theorem lk_X5_35 : pLk RX5 35 (RX3, TX3, 8) 4 := Or.inr ⟨"AnchoredComments", PN_t 70 (by decide +kernel) rfl⟩
theorem lkw_X3_34 : Cond.fieldLink RX3 34 (RX3, TX3, 8).1 ((RX3, TX3, 8).2.1 4).2.1 ((RX3, TX3, 8).2.1 4).2.2.1 ∈ PT := PT_t 71 (by decide +kernel) rfl
theorem lk_X3_34 : pLk RX3 34 (RX3, TX3, 8) 4 := Or.inl lkw_X3_34
theorem lk_X8_113 : pLk RX8 113 (RX3, TX3, 8) 4 := Or.inr ⟨"AnchoredComments", PN_t 72 (by decide +kernel) rfl⟩
theorem lkw_X3_37 : Cond.fieldLink RX3 37 (RX3, TX3, 8).1 ((RX3, TX3, 8).2.1 5).2.1 ((RX3, TX3, 8).2.1 5).2.2.1 ∈ PT := PT_t 73 (by decide +kernel) rfl
theorem lk_X3_37 : pLk RX3 37 (RX3, TX3, 8) 5 := Or.inl lkw_X3_37
theorem lk_X5_42 : pLk RX5 42 (RX3, TX3, 8) 5 := Or.inr ⟨"AnchoredComments", PN_t 74 (by decide +kernel) rfl⟩
theorem lk_X8_121 : pLk RX8 121 (RX3, TX3, 8) 5 := Or.inr ⟨"AnchoredComments", PN_t 75 (by decide +kernel) rfl⟩
theorem lkw_X3_40 : Cond.fieldLink RX3 40 (RX3, TX3, 8).1 ((RX3, TX3, 8).2.1 6).2.1 ((RX3, TX3, 8).2.1 6).2.2.1 ∈ PT := PT_t 76 (by decide +kernel) rfl
theorem lk_X3_40 : pLk RX3 40 (RX3, TX3, 8) 6 := Or.inl lkw_X3_40
theorem lk_X8_118 : pLk RX8 118 (RX3, TX3, 8) 6 := Or.inr ⟨"AnchoredComments", PN_t 77 (by decide +kernel) rfl⟩
theorem lkw_X3_43 : Cond.fieldLink RX3 43 (RX3, TX3, 8).1 ((RX3, TX3, 8).2.1 7).2.1 ((RX3, TX3, 8).2.1 7).2.2.1 ∈ PT := PT_t 78 (by decide +kernel) rfl
theorem lk_X3_43 : pLk RX3 43 (RX3, TX3, 8) 7 := Or.inl lkw_X3_43
theorem lk_X4_82 : pLk RX4 82 (RX3, TX3, 8) 7 := Or.inr ⟨"AnchoredComments", PN_t 79 (by decide +kernel) rfl⟩
theorem lk_X8_183 : pLk RX8 183 (RX3, TX3, 8) 7 := Or.inr ⟨"AnchoredComments", PN_t 80 (by decide +kernel) rfl⟩
theorem lkw_X4_14 : Cond.fieldLink RX4 14 (RX4, TX4, 4).1 ((RX4, TX4, 4).2.1 0).2.1 ((RX4, TX4, 4).2.1 0).2.2.1 ∈ PT := PT_t 98 (by decide +kernel) rfl
theorem lk_X4_14 : pLk RX4 14 (RX4, TX4, 4) 0 := Or.inl lkw_X4_14
theorem lk_X8_73 : pLk RX8 73 (RX4, TX4, 4) 0 := Or.inr ⟨"AnchoredComments", PN_t 99 (by decide +kernel) rfl⟩
theorem lkw_X4_22 : Cond.fieldLink RX4 22 (RX4, TX4, 4).1 ((RX4, TX4, 4).2.1 1).2.1 ((RX4, TX4, 4).2.1 1).2.2.1 ∈ PT := PT_t 100 (by decide +kernel) rfl
theorem lk_X4_22 : pLk RX4 22 (RX4, TX4, 4) 1 := Or.inl lkw_X4_22
theorem lk_X5_32 : pLk RX5 32 (RX4, TX4, 4) 1 := Or.inr ⟨"AnchoredComments", PN_t 101 (by decide +kernel) rfl⟩
theorem lk_X8_176 : pLk RX8 176 (RX4, TX4, 4) 1 := Or.inr ⟨"AnchoredComments", PN_t 102 (by decide +kernel) rfl⟩
theorem lk_X5_29 : pLk RX5 29 (RX4, TX4, 4) 2 := Or.inr ⟨"AnchoredComments", PN_t 103 (by decide +kernel) rfl⟩
theorem lkw_X4_31 : Cond.fieldLink RX4 31 (RX4, TX4, 4).1 ((RX4, TX4, 4).2.1 2).2.1 ((RX4, TX4, 4).2.1 2).2.2.1 ∈ PT := PT_t 104 (by decide +kernel) rfl
theorem lk_X4_31 : pLk RX4 31 (RX4, TX4, 4) 2 := Or.inl lkw_X4_31
theorem lk_X8_96 : pLk RX8 96 (RX4, TX4, 4) 2 := Or.inr ⟨"AnchoredComments", PN_t 105 (by decide +kernel) rfl⟩
theorem lkw_X4_41 : Cond.fieldLink RX4 41 (RX4, TX4, 4).1 ((RX4, TX4, 4).2.1 3).2.1 ((RX4, TX4, 4).2.1 3).2.2.1 ∈ PT := PT_t 106 (by decide +kernel) rfl
theorem lk_X4_41 : pLk RX4 41 (RX4, TX4, 4) 3 := Or.inl lkw_X4_41
theorem lkw_X2_11 : Cond.fieldLink RX2 11 (RX2, TX2, 2).1 ((RX2, TX2, 2).2.1 0).2.1 ((RX2, TX2, 2).2.1 0).2.2.1 ∈ PT := PT_t 125 (by decide +kernel) rfl
theorem lk_X2_11 : pLk RX2 11 (RX2, TX2, 2) 0 := Or.inl lkw_X2_11
theorem lkw_X2_18 : Cond.fieldLink RX2 18 (RX2, TX2, 2).1 ((RX2, TX2, 2).2.1 1).2.1 ((RX2, TX2, 2).2.1 1).2.2.1 ∈ PT := PT_t 126 (by decide +kernel) rfl
theorem lk_X2_18 : pLk RX2 18 (RX2, TX2, 2) 1 := Or.inl lkw_X2_18
theorem lk_X8_166 : pLk RX8 166 (RX2, TX2, 2) 1 := Or.inr ⟨"AnchoredComments", PN_t 127 (by decide +kernel) rfl⟩
theorem lkw_X6_10 : Cond.fieldLink RX6 10 (RX6, TX6, 3).1 ((RX6, TX6, 3).2.1 0).2.1 ((RX6, TX6, 3).2.1 0).2.2.1 ∈ PT := PT_t 141 (by decide +kernel) rfl
theorem lk_X6_10 : pLk RX6 10 (RX6, TX6, 3) 0 := Or.inl lkw_X6_10
theorem lk_X8_216 : pLk RX8 216 (RX6, TX6, 3) 0 := Or.inr ⟨"AnchoredComments", PN_t 142 (by decide +kernel) rfl⟩
theorem lk_X8_215 : pLk RX8 215 (RX6, TX6, 3) 1 := Or.inr ⟨"AnchoredComments", PN_t 143 (by decide +kernel) rfl⟩
theorem lk_X8_211 : pLk RX8 211 (RX6, TX6, 3) 2 := Or.inr ⟨"AnchoredComments", PN_t 144 (by decide +kernel) rfl⟩
theorem lkw_X1_9 : Cond.fieldLink RX1 9 (RX1, TX1, 5).1 ((RX1, TX1, 5).2.1 0).2.1 ((RX1, TX1, 5).2.1 0).2.2.1 ∈ PT := PT_t 158 (by decide +kernel) rfl
theorem lk_X1_9 : pLk RX1 9 (RX1, TX1, 5) 0 := Or.inl lkw_X1_9
theorem lkw_X1_38 : Cond.fieldLink RX1 38 (RX1, TX1, 5).1 ((RX1, TX1, 5).2.1 1).2.1 ((RX1, TX1, 5).2.1 1).2.2.1 ∈ PT := PT_t 159 (by decide +kernel) rfl
theorem lk_X1_38 : pLk RX1 38 (RX1, TX1, 5) 1 := Or.inl lkw_X1_38
theorem lk_X8_134 : pLk RX8 134 (RX1, TX1, 5) 1 := Or.inr ⟨"AnchoredComments", PN_t 160 (by decide +kernel) rfl⟩
theorem lkw_X1_42 : Cond.fieldLink RX1 42 (RX1, TX1, 5).1 ((RX1, TX1, 5).2.1 2).2.1 ((RX1, TX1, 5).2.1 2).2.2.1 ∈ PT := PT_t 161 (by decide +kernel) rfl
theorem lk_X1_42 : pLk RX1 42 (RX1, TX1, 5) 2 := Or.inl lkw_X1_42
theorem lk_X8_137 : pLk RX8 137 (RX1, TX1, 5) 2 := Or.inr ⟨"AnchoredComments", PN_t 162 (by decide +kernel) rfl⟩
theorem lkw_X1_45 : Cond.fieldLink RX1 45 (RX1, TX1, 5).1 ((RX1, TX1, 5).2.1 3).2.1 ((RX1, TX1, 5).2.1 3).2.2.1 ∈ PT := PT_t 163 (by decide +kernel) rfl
theorem lk_X1_45 : pLk RX1 45 (RX1, TX1, 5) 3 := Or.inl lkw_X1_45
theorem lk_X8_140 : pLk RX8 140 (RX1, TX1, 5) 3 := Or.inr ⟨"AnchoredComments", PN_t 164 (by decide +kernel) rfl⟩
theorem lk_X0_40 : pLk RX0 40 (RX1, TX1, 5) 4 := Or.inr ⟨"AnchoredComments", PN_t 165 (by decide +kernel) rfl⟩
theorem lkw_X1_55 : Cond.fieldLink RX1 55 (RX1, TX1, 5).1 ((RX1, TX1, 5).2.1 4).2.1 ((RX1, TX1, 5).2.1 4).2.2.1 ∈ PT := PT_t 166 (by decide +kernel) rfl
theorem lk_X1_55 : pLk RX1 55 (RX1, TX1, 5) 4 := Or.inl lkw_X1_55
theorem lkw_X0_9 : Cond.fieldLink RX0 9 (RX0, TX0, 4).1 ((RX0, TX0, 4).2.1 0).2.1 ((RX0, TX0, 4).2.1 0).2.2.1 ∈ PT := PT_t 193 (by decide +kernel) rfl
theorem lk_X0_9 : pLk RX0 9 (RX0, TX0, 4) 0 := Or.inl lkw_X0_9
theorem lkw_X0_15 : Cond.fieldLink RX0 15 (RX0, TX0, 4).1 ((RX0, TX0, 4).2.1 1).2.1 ((RX0, TX0, 4).2.1 1).2.2.1 ∈ PT := PT_t 194 (by decide +kernel) rfl
theorem lk_X0_15 : pLk RX0 15 (RX0, TX0, 4) 1 := Or.inl lkw_X0_15
theorem lkw_X0_18 : Cond.fieldLink RX0 18 (RX0, TX0, 4).1 ((RX0, TX0, 4).2.1 2).2.1 ((RX0, TX0, 4).2.1 2).2.2.1 ∈ PT := PT_t 195 (by decide +kernel) rfl
theorem lk_X0_18 : pLk RX0 18 (RX0, TX0, 4) 2 := Or.inl lkw_X0_18
theorem lkw_X0_33 : Cond.fieldLink RX0 33 (RX0, TX0, 4).1 ((RX0, TX0, 4).2.1 3).2.1 ((RX0, TX0, 4).2.1 3).2.2.1 ∈ PT := PT_t 196 (by decide +kernel) rfl
theorem lk_X0_33 : pLk RX0 33 (RX0, TX0, 4) 3 := Or.inl lkw_X0_33
theorem lkw_X5_11 : Cond.fieldLink RX5 11 (RX5, TX5, 3).1 ((RX5, TX5, 3).2.1 0).2.1 ((RX5, TX5, 3).2.1 0).2.2.1 ∈ PT := PT_t 206 (by decide +kernel) rfl
theorem lk_X5_11 : pLk RX5 11 (RX5, TX5, 3) 0 := Or.inl lkw_X5_11
theorem lkw_X5_19 : Cond.fieldLink RX5 19 (RX5, TX5, 3).1 ((RX5, TX5, 3).2.1 1).2.1 ((RX5, TX5, 3).2.1 1).2.2.1 ∈ PT := PT_t 207 (by decide +kernel) rfl
theorem lk_X5_19 : pLk RX5 19 (RX5, TX5, 3) 1 := Or.inl lkw_X5_19
theorem lkw_X5_25 : Cond.fieldLink RX5 25 (RX5, TX5, 3).1 ((RX5, TX5, 3).2.1 2).2.1 ((RX5, TX5, 3).2.1 2).2.2.1 ∈ PT := PT_t 208 (by decide +kernel) rfl
theorem lk_X5_25 : pLk RX5 25 (RX5, TX5, 3) 2 := Or.inl lkw_X5_25
theorem lkw_X8_14 : Cond.fieldLink RX8 14 (RX8, TX8, 8).1 ((RX8, TX8, 8).2.1 0).2.1 ((RX8, TX8, 8).2.1 0).2.2.1 ∈ PT := PT_t 216 (by decide +kernel) rfl
theorem lk_X8_14 : pLk RX8 14 (RX8, TX8, 8) 0 := Or.inl lkw_X8_14
theorem lkw_X8_21 : Cond.fieldLink RX8 21 (RX8, TX8, 8).1 ((RX8, TX8, 8).2.1 1).2.1 ((RX8, TX8, 8).2.1 1).2.2.1 ∈ PT := PT_t 217 (by decide +kernel) rfl
theorem lk_X8_21 : pLk RX8 21 (RX8, TX8, 8) 1 := Or.inl lkw_X8_21
theorem lkw_X8_28 : Cond.fieldLink RX8 28 (RX8, TX8, 8).1 ((RX8, TX8, 8).2.1 2).2.1 ((RX8, TX8, 8).2.1 2).2.2.1 ∈ PT := PT_t 218 (by decide +kernel) rfl
theorem lk_X8_28 : pLk RX8 28 (RX8, TX8, 8) 2 := Or.inl lkw_X8_28
theorem lkw_X8_35 : Cond.fieldLink RX8 35 (RX8, TX8, 8).1 ((RX8, TX8, 8).2.1 3).2.1 ((RX8, TX8, 8).2.1 3).2.2.1 ∈ PT := PT_t 219 (by decide +kernel) rfl
theorem lk_X8_35 : pLk RX8 35 (RX8, TX8, 8) 3 := Or.inl lkw_X8_35
theorem lkw_X8_39 : Cond.fieldLink RX8 39 (RX8, TX8, 8).1 ((RX8, TX8, 8).2.1 4).2.1 ((RX8, TX8, 8).2.1 4).2.2.1 ∈ PT := PT_t 220 (by decide +kernel) rfl
theorem lk_X8_39 : pLk RX8 39 (RX8, TX8, 8) 4 := Or.inl lkw_X8_39
theorem lkw_X8_45 : Cond.fieldLink RX8 45 (RX8, TX8, 8).1 ((RX8, TX8, 8).2.1 5).2.1 ((RX8, TX8, 8).2.1 5).2.2.1 ∈ PT := PT_t 221 (by decide +kernel) rfl
theorem lk_X8_45 : pLk RX8 45 (RX8, TX8, 8) 5 := Or.inl lkw_X8_45
theorem lkw_X8_52 : Cond.fieldLink RX8 52 (RX8, TX8, 8).1 ((RX8, TX8, 8).2.1 6).2.1 ((RX8, TX8, 8).2.1 6).2.2.1 ∈ PT := PT_t 222 (by decide +kernel) rfl
theorem lk_X8_52 : pLk RX8 52 (RX8, TX8, 8) 6 := Or.inl lkw_X8_52
theorem lkw_X8_56 : Cond.fieldLink RX8 56 (RX8, TX8, 8).1 ((RX8, TX8, 8).2.1 7).2.1 ((RX8, TX8, 8).2.1 7).2.2.1 ∈ PT := PT_t 223 (by decide +kernel) rfl
theorem lk_X8_56 : pLk RX8 56 (RX8, TX8, 8) 7 := Or.inl lkw_X8_56
theorem lkw_X9_7 : Cond.fieldLink RX9 7 (RX9, TX9, 20).1 ((RX9, TX9, 20).2.1 0).2.1 ((RX9, TX9, 20).2.1 0).2.2.1 ∈ PT := PT_t 625 (by decide +kernel) rfl
theorem lk_X9_7 : pLk RX9 7 (RX9, TX9, 20) 0 := Or.inl lkw_X9_7
theorem lkw_X9_13 : Cond.fieldLink RX9 13 (RX9, TX9, 20).1 ((RX9, TX9, 20).2.1 1).2.1 ((RX9, TX9, 20).2.1 1).2.2.1 ∈ PT := PT_t 626 (by decide +kernel) rfl
theorem lk_X9_13 : pLk RX9 13 (RX9, TX9, 20) 1 := Or.inl lkw_X9_13
theorem lkw_X9_16 : Cond.fieldLink RX9 16 (RX9, TX9, 20).1 ((RX9, TX9, 20).2.1 2).2.1 ((RX9, TX9, 20).2.1 2).2.2.1 ∈ PT := PT_t 627 (by decide +kernel) rfl
theorem lk_X9_16 : pLk RX9 16 (RX9, TX9, 20) 2 := Or.inl lkw_X9_16
theorem lkw_X9_60 : Cond.fieldLink RX9 60 (RX9, TX9, 20).1 ((RX9, TX9, 20).2.1 3).2.1 ((RX9, TX9, 20).2.1 3).2.2.1 ∈ PT := PT_t 628 (by decide +kernel) rfl
theorem lk_X9_60 : pLk RX9 60 (RX9, TX9, 20) 3 := Or.inl lkw_X9_60
theorem lkw_X9_19 : Cond.fieldLink RX9 19 (RX9, TX9, 20).1 ((RX9, TX9, 20).2.1 4).2.1 ((RX9, TX9, 20).2.1 4).2.2.1 ∈ PT := PT_t 629 (by decide +kernel) rfl
theorem lk_X9_19 : pLk RX9 19 (RX9, TX9, 20) 4 := Or.inl lkw_X9_19
theorem lkw_X9_22 : Cond.fieldLink RX9 22 (RX9, TX9, 20).1 ((RX9, TX9, 20).2.1 5).2.1 ((RX9, TX9, 20).2.1 5).2.2.1 ∈ PT := PT_t 630 (by decide +kernel) rfl
theorem lk_X9_22 : pLk RX9 22 (RX9, TX9, 20) 5 := Or.inl lkw_X9_22
theorem lkw_X9_26 : Cond.fieldLink RX9 26 (RX9, TX9, 20).1 ((RX9, TX9, 20).2.1 6).2.1 ((RX9, TX9, 20).2.1 6).2.2.1 ∈ PT := PT_t 631 (by decide +kernel) rfl
theorem lk_X9_26 : pLk RX9 26 (RX9, TX9, 20) 6 := Or.inl lkw_X9_26
theorem lkw_X9_30 : Cond.fieldLink RX9 30 (RX9, TX9, 20).1 ((RX9, TX9, 20).2.1 7).2.1 ((RX9, TX9, 20).2.1 7).2.2.1 ∈ PT := PT_t 632 (by decide +kernel) rfl
theorem lk_X9_30 : pLk RX9 30 (RX9, TX9, 20) 7 := Or.inl lkw_X9_30
theorem lkw_X9_63 : Cond.fieldLink RX9 63 (RX9, TX9, 20).1 ((RX9, TX9, 20).2.1 8).2.1 ((RX9, TX9, 20).2.1 8).2.2.1 ∈ PT := PT_t 633 (by decide +kernel) rfl
theorem lk_X9_63 : pLk RX9 63 (RX9, TX9, 20) 8 := Or.inl lkw_X9_63
theorem lkw_X9_33 : Cond.fieldLink RX9 33 (RX9, TX9, 20).1 ((RX9, TX9, 20).2.1 9).2.1 ((RX9, TX9, 20).2.1 9).2.2.1 ∈ PT := PT_t 634 (by decide +kernel) rfl
theorem lk_X9_33 : pLk RX9 33 (RX9, TX9, 20) 9 := Or.inl lkw_X9_33
theorem lkw_X9_115 : Cond.fieldLink RX9 115 (RX9, TX9, 20).1 ((RX9, TX9, 20).2.1 10).2.1 ((RX9, TX9, 20).2.1 10).2.2.1 ∈ PT := PT_t 635 (by decide +kernel) rfl
theorem lk_X9_115 : pLk RX9 115 (RX9, TX9, 20) 10 := Or.inl lkw_X9_115
theorem lkw_X9_118 : Cond.fieldLink RX9 118 (RX9, TX9, 20).1 ((RX9, TX9, 20).2.1 11).2.1 ((RX9, TX9, 20).2.1 11).2.2.1 ∈ PT := PT_t 636 (by decide +kernel) rfl
theorem lk_X9_118 : pLk RX9 118 (RX9, TX9, 20) 11 := Or.inl lkw_X9_118
theorem lkw_X9_125 : Cond.fieldLink RX9 125 (RX9, TX9, 20).1 ((RX9, TX9, 20).2.1 12).2.1 ((RX9, TX9, 20).2.1 12).2.2.1 ∈ PT := PT_t 637 (by decide +kernel) rfl
theorem lk_X9_125 : pLk RX9 125 (RX9, TX9, 20) 12 := Or.inl lkw_X9_125
theorem lkw_X9_128 : Cond.fieldLink RX9 128 (RX9, TX9, 20).1 ((RX9, TX9, 20).2.1 13).2.1 ((RX9, TX9, 20).2.1 13).2.2.1 ∈ PT := PT_t 638 (by decide +kernel) rfl
theorem lk_X9_128 : pLk RX9 128 (RX9, TX9, 20) 13 := Or.inl lkw_X9_128
theorem lkw_X9_131 : Cond.fieldLink RX9 131 (RX9, TX9, 20).1 ((RX9, TX9, 20).2.1 14).2.1 ((RX9, TX9, 20).2.1 14).2.2.1 ∈ PT := PT_t 639 (by decide +kernel) rfl
theorem lk_X9_131 : pLk RX9 131 (RX9, TX9, 20) 14 := Or.inl lkw_X9_131
theorem lkw_X9_36 : Cond.fieldLink RX9 36 (RX9, TX9, 20).1 ((RX9, TX9, 20).2.1 15).2.1 ((RX9, TX9, 20).2.1 15).2.2.1 ∈ PT := PT_t 640 (by decide +kernel) rfl
theorem lk_X9_36 : pLk RX9 36 (RX9, TX9, 20) 15 := Or.inl lkw_X9_36
theorem lkw_X9_141 : Cond.fieldLink RX9 141 (RX9, TX9, 20).1 ((RX9, TX9, 20).2.1 16).2.1 ((RX9, TX9, 20).2.1 16).2.2.1 ∈ PT := PT_t 641 (by decide +kernel) rfl
theorem lk_X9_141 : pLk RX9 141 (RX9, TX9, 20) 16 := Or.inl lkw_X9_141
theorem lkw_X9_39 : Cond.fieldLink RX9 39 (RX9, TX9, 20).1 ((RX9, TX9, 20).2.1 17).2.1 ((RX9, TX9, 20).2.1 17).2.2.1 ∈ PT := PT_t 642 (by decide +kernel) rfl
theorem lk_X9_39 : pLk RX9 39 (RX9, TX9, 20) 17 := Or.inl lkw_X9_39
theorem lkw_X9_42 : Cond.fieldLink RX9 42 (RX9, TX9, 20).1 ((RX9, TX9, 20).2.1 18).2.1 ((RX9, TX9, 20).2.1 18).2.2.1 ∈ PT := PT_t 643 (by decide +kernel) rfl
theorem lk_X9_42 : pLk RX9 42 (RX9, TX9, 20) 18 := Or.inl lkw_X9_42
theorem lkw_X9_45 : Cond.fieldLink RX9 45 (RX9, TX9, 20).1 ((RX9, TX9, 20).2.1 19).2.1 ((RX9, TX9, 20).2.1 19).2.2.1 ∈ PT := PT_t 644 (by decide +kernel) rfl
theorem lk_X9_45 : pLk RX9 45 (RX9, TX9, 20) 19 := Or.inl lkw_X9_45
theorem mt_X8_init : pMt yX8_init cX8_init 1 none 0 := ⟨PT_t 16 (by decide +kernel) rfl, PT_t 1 (by decide +kernel) rfl, by decide +kernel, by decide +kernel⟩
theorem mt_X7_init : pMt yX7_init cX7_init 2 none 1 := ⟨PT_t 24 (by decide +kernel) rfl, PT_t 2 (by decide +kernel) rfl, by decide +kernel, by decide +kernel⟩
theorem mt_X4_init : pMt yX4_init cX4_init 2 none 0 := ⟨PT_t 47 (by decide +kernel) rfl, PT_t 4 (by decide +kernel) rfl, by decide +kernel, by decide +kernel⟩
theorem mt_X3_init : pMt yX3_init cX3_init 1 none 0 := ⟨PT_t 56 (by decide +kernel) rfl, PT_t 5 (by decide +kernel) rfl, by decide +kernel, by decide +kernel⟩
theorem mt_X2_init : pMt yX2_init cX2_init 2 none 0 := ⟨PT_t 120 (by decide +kernel) rfl, PT_t 6 (by decide +kernel) rfl, by decide +kernel, by decide +kernel⟩
theorem mt_X6_init : pMt yX6_init cX6_init 1 none 0 := ⟨PT_t 137 (by decide +kernel) rfl, PT_t 7 (by decide +kernel) rfl, by decide +kernel, by decide +kernel⟩
theorem mt_X1_init : pMt yX1_init cX1_init 1 none 0 := ⟨PT_t 156 (by decide +kernel) rfl, PT_t 8 (by decide +kernel) rfl, by decide +kernel, by decide +kernel⟩
theorem mt_X5_init : pMt yX5_init cX5_init 3 none 0 := ⟨PT_t 182 (by decide +kernel) rfl, PT_t 9 (by decide +kernel) rfl, by decide +kernel, by decide +kernel⟩
theorem mt_X0_init : pMt yX0_init cX0_init 1 none 0 := ⟨PT_t 191 (by decide +kernel) rfl, PT_t 10 (by decide +kernel) rfl, by decide +kernel, by decide +kernel⟩
theorem mt_X8_type : pMt yX8_type cX8_type 2 (some .int) 1 := ⟨PT_t 244 (by decide +kernel) rfl, PT_t 1 (by decide +kernel) rfl, by decide +kernel, by decide +kernel⟩
theorem mt_X7_append : pMt yX7_append cX7_append 2 none 1 := ⟨PT_t 248 (by decide +kernel) rfl, PT_t 2 (by decide +kernel) rfl, by decide +kernel, by decide +kernel⟩
theorem mt_X8_clearBuffer : pMt yX8_clearBuffer cX8_clearBuffer 2 (some .int) 0 := ⟨PT_t 252 (by decide +kernel) rfl, PT_t 1 (by decide +kernel) rfl, by decide +kernel, by decide +kernel⟩
theorem mt_X7_empty : pMt yX7_empty cX7_empty 1 none 0 := ⟨PT_t 256 (by decide +kernel) rfl, PT_t 2 (by decide +kernel) rfl, by decide +kernel, by decide +kernel⟩
theorem mt_X8_load : pMt yX8_load cX8_load 2 (some .int) 0 := ⟨PT_t 260 (by decide +kernel) rfl, PT_t 1 (by decide +kernel) rfl, by decide +kernel, by decide +kernel⟩
theorem mt_X2_record : pMt yX2_record cX2_record 2 none 1 := ⟨PT_t 264 (by decide +kernel) rfl, PT_t 6 (by decide +kernel) rfl, by decide +kernel, by decide +kernel⟩
theorem mt_X2_dropOldest : pMt yX2_dropOldest cX2_dropOldest 3 none 0 := ⟨PT_t 268 (by decide +kernel) rfl, PT_t 6 (by decide +kernel) rfl, by decide +kernel, by decide +kernel⟩
theorem mt_X4_become : pMt yX4_become cX4_become 3 none 1 := ⟨PT_t 272 (by decide +kernel) rfl, PT_t 4 (by decide +kernel) rfl, by decide +kernel, by decide +kernel⟩
theorem mt_X7_become : pMt yX7_become cX7_become 2 none 1 := ⟨PT_t 276 (by decide +kernel) rfl, PT_t 2 (by decide +kernel) rfl, by decide +kernel, by decide +kernel⟩
theorem mt_X7_copyPart : pMt yX7_copyPart cX7_copyPart 5 none 3 := ⟨PT_t 280 (by decide +kernel) rfl, PT_t 2 (by decide +kernel) rfl, by decide +kernel, by decide +kernel⟩
theorem mt_X7_at : pMt yX7_at cX7_at 2 (some .int) 1 := ⟨PT_t 284 (by decide +kernel) rfl, PT_t 2 (by decide +kernel) rfl, by decide +kernel, by decide +kernel⟩
theorem mt_X3_become : pMt yX3_become cX3_become 2 none 1 := ⟨PT_t 292 (by decide +kernel) rfl, PT_t 5 (by decide +kernel) rfl, by decide +kernel, by decide +kernel⟩
theorem mt_X4_replaceDocument : pMt yX4_replaceDocument cX4_replaceDocument 3 none 1 := ⟨PT_t 297 (by decide +kernel) rfl, PT_t 4 (by decide +kernel) rfl, by decide +kernel, by decide +kernel⟩
theorem mt_X3_moveForReplacement : pMt yX3_moveForReplacement cX3_moveForReplacement 2 none 1 := ⟨PT_t 301 (by decide +kernel) rfl, PT_t 5 (by decide +kernel) rfl, by decide +kernel, by decide +kernel⟩
theorem mt_X8_insert : pMt yX8_insert cX8_insert 2 (some .int) 1 := ⟨PT_t 306 (by decide +kernel) rfl, PT_t 1 (by decide +kernel) rfl, by decide +kernel, by decide +kernel⟩
theorem mt_X8_isPosition : pMt yX8_isPosition cX8_isPosition 2 (some .boolean) 1 := ⟨PT_t 310 (by decide +kernel) rfl, PT_t 1 (by decide +kernel) rfl, by decide +kernel, by decide +kernel⟩
theorem mt_X4_putIn : pMt yX4_putIn cX4_putIn 4 none 2 := ⟨PT_t 314 (by decide +kernel) rfl, PT_t 4 (by decide +kernel) rfl, by decide +kernel, by decide +kernel⟩
theorem mt_X7_putLetters : pMt yX7_putLetters cX7_putLetters 5 none 2 := ⟨PT_t 318 (by decide +kernel) rfl, PT_t 2 (by decide +kernel) rfl, by decide +kernel, by decide +kernel⟩
theorem mt_X3_moveForInsert : pMt yX3_moveForInsert cX3_moveForInsert 3 none 2 := ⟨PT_t 322 (by decide +kernel) rfl, PT_t 5 (by decide +kernel) rfl, by decide +kernel, by decide +kernel⟩
theorem mt_X8_delete : pMt yX8_delete cX8_delete 3 (some .int) 2 := ⟨PT_t 326 (by decide +kernel) rfl, PT_t 1 (by decide +kernel) rfl, by decide +kernel, by decide +kernel⟩
theorem mt_X4_cutOut : pMt yX4_cutOut cX4_cutOut 5 (some .int) 2 := ⟨PT_t 330 (by decide +kernel) rfl, PT_t 4 (by decide +kernel) rfl, by decide +kernel, by decide +kernel⟩
theorem mt_X7_cutLetters : pMt yX7_cutLetters cX7_cutLetters 4 none 2 := ⟨PT_t 334 (by decide +kernel) rfl, PT_t 2 (by decide +kernel) rfl, by decide +kernel, by decide +kernel⟩
theorem mt_X3_moveForDelete : pMt yX3_moveForDelete cX3_moveForDelete 3 (some .boolean) 2 := ⟨PT_t 338 (by decide +kernel) rfl, PT_t 5 (by decide +kernel) rfl, by decide +kernel, by decide +kernel⟩
theorem mt_X3_boundAfterDelete : pMt yX3_boundAfterDelete cX3_boundAfterDelete 3 (some .int) 3 := ⟨PT_t 341 (by decide +kernel) rfl, PT_t 5 (by decide +kernel) rfl, by decide +kernel, by decide +kernel⟩
theorem mt_X8_comment : pMt yX8_comment cX8_comment 3 (some .int) 2 := ⟨PT_t 345 (by decide +kernel) rfl, PT_t 1 (by decide +kernel) rfl, by decide +kernel, by decide +kernel⟩
theorem mt_X8_isRange : pMt yX8_isRange cX8_isRange 4 (some .boolean) 3 := ⟨PT_t 349 (by decide +kernel) rfl, PT_t 1 (by decide +kernel) rfl, by decide +kernel, by decide +kernel⟩
theorem mt_X4_addNote : pMt yX4_addNote cX4_addNote 4 (some .int) 2 := ⟨PT_t 353 (by decide +kernel) rfl, PT_t 4 (by decide +kernel) rfl, by decide +kernel, by decide +kernel⟩
theorem mt_X3_begin : pMt yX3_begin cX3_begin 5 none 4 := ⟨PT_t 357 (by decide +kernel) rfl, PT_t 5 (by decide +kernel) rfl, by decide +kernel, by decide +kernel⟩
theorem mt_X3_attachTo : pMt yX3_attachTo cX3_attachTo 3 none 2 := ⟨PT_t 361 (by decide +kernel) rfl, PT_t 5 (by decide +kernel) rfl, by decide +kernel, by decide +kernel⟩
theorem mt_X3_quoteFrom : pMt yX3_quoteFrom cX3_quoteFrom 2 none 1 := ⟨PT_t 365 (by decide +kernel) rfl, PT_t 5 (by decide +kernel) rfl, by decide +kernel, by decide +kernel⟩
theorem mt_X8_remove : pMt yX8_remove cX8_remove 3 (some .int) 1 := ⟨PT_t 370 (by decide +kernel) rfl, PT_t 1 (by decide +kernel) rfl, by decide +kernel, by decide +kernel⟩
theorem mt_X4_indexOf : pMt yX4_indexOf cX4_indexOf 3 (some .int) 1 := ⟨PT_t 374 (by decide +kernel) rfl, PT_t 4 (by decide +kernel) rfl, by decide +kernel, by decide +kernel⟩
theorem mt_X4_drop : pMt yX4_drop cX4_drop 4 none 1 := ⟨PT_t 378 (by decide +kernel) rfl, PT_t 4 (by decide +kernel) rfl, by decide +kernel, by decide +kernel⟩
theorem mt_X8_quoteAnew : pMt yX8_quoteAnew cX8_quoteAnew 3 (some .int) 1 := ⟨PT_t 382 (by decide +kernel) rfl, PT_t 1 (by decide +kernel) rfl, by decide +kernel, by decide +kernel⟩
theorem mt_X4_find : pMt yX4_find cX4_find 3 (some (.object "AnchoredComments$Note")) 1 := ⟨PT_t 386 (by decide +kernel) rfl, PT_t 4 (by decide +kernel) rfl, by decide +kernel, by decide +kernel⟩
theorem mt_X8_attach : pMt yX8_attach cX8_attach 3 (some .int) 1 := ⟨PT_t 392 (by decide +kernel) rfl, PT_t 1 (by decide +kernel) rfl, by decide +kernel, by decide +kernel⟩
theorem mt_X1_search : pMt yX1_search cX1_search 5 none 2 := ⟨PT_t 396 (by decide +kernel) rfl, PT_t 8 (by decide +kernel) rfl, by decide +kernel, by decide +kernel⟩
theorem mt_X1_searchAt : pMt yX1_searchAt cX1_searchAt 11 (some .int) 3 := ⟨PT_t 400 (by decide +kernel) rfl, PT_t 8 (by decide +kernel) rfl, by decide +kernel, by decide +kernel⟩
theorem mt_X1_beginRow : pMt yX1_beginRow cX1_beginRow 2 none 0 := ⟨PT_t 406 (by decide +kernel) rfl, PT_t 8 (by decide +kernel) rfl, by decide +kernel, by decide +kernel⟩
theorem mt_X1_takeLetter : pMt yX1_takeLetter cX1_takeLetter 10 none 2 := ⟨PT_t 411 (by decide +kernel) rfl, PT_t 8 (by decide +kernel) rfl, by decide +kernel, by decide +kernel⟩
theorem mt_X1_endOfRow : pMt yX1_endOfRow cX1_endOfRow 2 (some .int) 1 := ⟨PT_t 415 (by decide +kernel) rfl, PT_t 8 (by decide +kernel) rfl, by decide +kernel, by decide +kernel⟩
theorem mt_X3_scoreOf : pMt yX3_scoreOf cX3_scoreOf 6 (some .int) 4 := ⟨PT_t 419 (by decide +kernel) rfl, PT_t 5 (by decide +kernel) rfl, by decide +kernel, by decide +kernel⟩
theorem mt_X3_likeBefore : pMt yX3_likeBefore cX3_likeBefore 4 (some .int) 2 := ⟨PT_t 423 (by decide +kernel) rfl, PT_t 5 (by decide +kernel) rfl, by decide +kernel, by decide +kernel⟩
theorem mt_X3_likeBehind : pMt yX3_likeBehind cX3_likeBehind 4 (some .int) 2 := ⟨PT_t 428 (by decide +kernel) rfl, PT_t 5 (by decide +kernel) rfl, by decide +kernel, by decide +kernel⟩
theorem mt_X8_attachAll : pMt yX8_attachAll cX8_attachAll 1 (some .int) 0 := ⟨PT_t 436 (by decide +kernel) rfl, PT_t 1 (by decide +kernel) rfl, by decide +kernel, by decide +kernel⟩
theorem mt_X5_gather : pMt yX5_gather cX5_gather 3 (some .int) 1 := ⟨PT_t 440 (by decide +kernel) rfl, PT_t 9 (by decide +kernel) rfl, by decide +kernel, by decide +kernel⟩
theorem mt_X5_takeIn : pMt yX5_takeIn cX5_takeIn 3 none 1 := ⟨PT_t 444 (by decide +kernel) rfl, PT_t 9 (by decide +kernel) rfl, by decide +kernel, by decide +kernel⟩
theorem mt_X5_plan : pMt yX5_plan cX5_plan 5 none 3 := ⟨PT_t 448 (by decide +kernel) rfl, PT_t 9 (by decide +kernel) rfl, by decide +kernel, by decide +kernel⟩
theorem mt_X0_beNothing : pMt yX0_beNothing cX0_beNothing 2 none 0 := ⟨PT_t 452 (by decide +kernel) rfl, PT_t 10 (by decide +kernel) rfl, by decide +kernel, by decide +kernel⟩
theorem mt_X0_weigh : pMt yX0_weigh cX0_weigh 7 none 4 := ⟨PT_t 456 (by decide +kernel) rfl, PT_t 10 (by decide +kernel) rfl, by decide +kernel, by decide +kernel⟩
theorem mt_X0_addUp : pMt yX0_addUp cX0_addUp 4 none 1 := ⟨PT_t 462 (by decide +kernel) rfl, PT_t 10 (by decide +kernel) rfl, by decide +kernel, by decide +kernel⟩
theorem mt_X0_sumFrom : pMt yX0_sumFrom cX0_sumFrom 2 (some .int) 1 := ⟨PT_t 466 (by decide +kernel) rfl, PT_t 10 (by decide +kernel) rfl, by decide +kernel, by decide +kernel⟩
theorem mt_X5_carryOut : pMt yX5_carryOut cX5_carryOut 5 (some .int) 0 := ⟨PT_t 471 (by decide +kernel) rfl, PT_t 9 (by decide +kernel) rfl, by decide +kernel, by decide +kernel⟩
theorem mt_X0_choose : pMt yX0_choose cX0_choose 7 (some .int) 2 := ⟨PT_t 475 (by decide +kernel) rfl, PT_t 10 (by decide +kernel) rfl, by decide +kernel, by decide +kernel⟩
theorem mt_X0_endAt : pMt yX0_endAt cX0_endAt 2 (some .int) 1 := ⟨PT_t 479 (by decide +kernel) rfl, PT_t 10 (by decide +kernel) rfl, by decide +kernel, by decide +kernel⟩
theorem mt_X8_merge : pMt yX8_merge cX8_merge 1 (some .int) 0 := ⟨PT_t 484 (by decide +kernel) rfl, PT_t 1 (by decide +kernel) rfl, by decide +kernel, by decide +kernel⟩
theorem mt_X4_hasTwins : pMt yX4_hasTwins cX4_hasTwins 2 (some .boolean) 0 := ⟨PT_t 488 (by decide +kernel) rfl, PT_t 4 (by decide +kernel) rfl, by decide +kernel, by decide +kernel⟩
theorem mt_X4_firstTwin : pMt yX4_firstTwin cX4_firstTwin 3 (some .int) 1 := ⟨PT_t 492 (by decide +kernel) rfl, PT_t 4 (by decide +kernel) rfl, by decide +kernel, by decide +kernel⟩
theorem mt_X3_isTwinOf : pMt yX3_isTwinOf cX3_isTwinOf 2 (some .boolean) 1 := ⟨PT_t 496 (by decide +kernel) rfl, PT_t 5 (by decide +kernel) rfl, by decide +kernel, by decide +kernel⟩
theorem mt_X4_mergeTwins : pMt yX4_mergeTwins cX4_mergeTwins 4 (some .int) 0 := ⟨PT_t 500 (by decide +kernel) rfl, PT_t 4 (by decide +kernel) rfl, by decide +kernel, by decide +kernel⟩
theorem mt_X8_undo : pMt yX8_undo cX8_undo 1 (some .int) 0 := ⟨PT_t 505 (by decide +kernel) rfl, PT_t 1 (by decide +kernel) rfl, by decide +kernel, by decide +kernel⟩
theorem mt_X2_stepBack : pMt yX2_stepBack cX2_stepBack 2 none 1 := ⟨PT_t 509 (by decide +kernel) rfl, PT_t 6 (by decide +kernel) rfl, by decide +kernel, by decide +kernel⟩
theorem mt_X8_length : pMt yX8_length cX8_length 1 (some .int) 0 := ⟨PT_t 513 (by decide +kernel) rfl, PT_t 1 (by decide +kernel) rfl, by decide +kernel, by decide +kernel⟩
theorem mt_X8_letter : pMt yX8_letter cX8_letter 2 (some .int) 1 := ⟨PT_t 517 (by decide +kernel) rfl, PT_t 1 (by decide +kernel) rfl, by decide +kernel, by decide +kernel⟩
theorem mt_X8_isLetterIndex : pMt yX8_isLetterIndex cX8_isLetterIndex 2 (some .boolean) 1 := ⟨PT_t 521 (by decide +kernel) rfl, PT_t 1 (by decide +kernel) rfl, by decide +kernel, by decide +kernel⟩
theorem mt_X8_comments : pMt yX8_comments cX8_comments 1 (some .int) 0 := ⟨PT_t 526 (by decide +kernel) rfl, PT_t 1 (by decide +kernel) rfl, by decide +kernel, by decide +kernel⟩
theorem mt_X8_commentAt : pMt yX8_commentAt cX8_commentAt 2 (some .int) 1 := ⟨PT_t 530 (by decide +kernel) rfl, PT_t 1 (by decide +kernel) rfl, by decide +kernel, by decide +kernel⟩
theorem mt_X8_state : pMt yX8_state cX8_state 3 (some .int) 1 := ⟨PT_t 534 (by decide +kernel) rfl, PT_t 1 (by decide +kernel) rfl, by decide +kernel, by decide +kernel⟩
theorem mt_X8_range : pMt yX8_range cX8_range 4 (some .int) 2 := ⟨PT_t 538 (by decide +kernel) rfl, PT_t 1 (by decide +kernel) rfl, by decide +kernel, by decide +kernel⟩
theorem mt_X8_weight : pMt yX8_weight cX8_weight 3 (some .int) 1 := ⟨PT_t 542 (by decide +kernel) rfl, PT_t 1 (by decide +kernel) rfl, by decide +kernel, by decide +kernel⟩
theorem mt_X8_quoted : pMt yX8_quoted cX8_quoted 6 (some .int) 3 := ⟨PT_t 546 (by decide +kernel) rfl, PT_t 1 (by decide +kernel) rfl, by decide +kernel, by decide +kernel⟩
theorem mt_X8_distance : pMt yX8_distance cX8_distance 3 (some .int) 1 := ⟨PT_t 550 (by decide +kernel) rfl, PT_t 1 (by decide +kernel) rfl, by decide +kernel, by decide +kernel⟩
theorem mt_X1_distanceTo : pMt yX1_distanceTo cX1_distanceTo 6 (some .int) 4 := ⟨PT_t 554 (by decide +kernel) rfl, PT_t 8 (by decide +kernel) rfl, by decide +kernel, by decide +kernel⟩
theorem mt_X8_score : pMt yX8_score cX8_score 6 (some .int) 3 := ⟨PT_t 558 (by decide +kernel) rfl, PT_t 1 (by decide +kernel) rfl, by decide +kernel, by decide +kernel⟩
theorem mt_X8_best : pMt yX8_best cX8_best 4 (some .int) 2 := ⟨PT_t 563 (by decide +kernel) rfl, PT_t 1 (by decide +kernel) rfl, by decide +kernel, by decide +kernel⟩
theorem mt_X8_overlap : pMt yX8_overlap cX8_overlap 5 (some .int) 2 := ⟨PT_t 567 (by decide +kernel) rfl, PT_t 1 (by decide +kernel) rfl, by decide +kernel, by decide +kernel⟩
theorem mt_X8_covering : pMt yX8_covering cX8_covering 3 (some .int) 2 := ⟨PT_t 573 (by decide +kernel) rfl, PT_t 1 (by decide +kernel) rfl, by decide +kernel, by decide +kernel⟩
theorem mt_X4_numberCovering : pMt yX4_numberCovering cX4_numberCovering 4 (some .int) 2 := ⟨PT_t 577 (by decide +kernel) rfl, PT_t 4 (by decide +kernel) rfl, by decide +kernel, by decide +kernel⟩
theorem mt_X3_covers : pMt yX3_covers cX3_covers 2 (some .boolean) 1 := ⟨PT_t 581 (by decide +kernel) rfl, PT_t 5 (by decide +kernel) rfl, by decide +kernel, by decide +kernel⟩
theorem mt_X4_rankOf : pMt yX4_rankOf cX4_rankOf 5 (some .int) 2 := ⟨PT_t 585 (by decide +kernel) rfl, PT_t 4 (by decide +kernel) rfl, by decide +kernel, by decide +kernel⟩
theorem mt_X3_standsBefore : pMt yX3_standsBefore cX3_standsBefore 2 (some .boolean) 1 := ⟨PT_t 589 (by decide +kernel) rfl, PT_t 5 (by decide +kernel) rfl, by decide +kernel, by decide +kernel⟩
theorem mt_X8_setThreshold : pMt yX8_setThreshold cX8_setThreshold 3 (some .int) 1 := ⟨PT_t 593 (by decide +kernel) rfl, PT_t 1 (by decide +kernel) rfl, by decide +kernel, by decide +kernel⟩
theorem mt_X8_save : pMt yX8_save cX8_save 3 (some .int) 1 := ⟨PT_t 597 (by decide +kernel) rfl, PT_t 1 (by decide +kernel) rfl, by decide +kernel, by decide +kernel⟩
theorem mt_X8_restore : pMt yX8_restore cX8_restore 3 (some .int) 1 := ⟨PT_t 602 (by decide +kernel) rfl, PT_t 1 (by decide +kernel) rfl, by decide +kernel, by decide +kernel⟩
theorem mt_X8_checksum : pMt yX8_checksum cX8_checksum 4 (some .long) 0 := ⟨PT_t 606 (by decide +kernel) rfl, PT_t 1 (by decide +kernel) rfl, by decide +kernel, by decide +kernel⟩
theorem mt_X8_mix : pMt yX8_mix cX8_mix 3 (some .long) 2 := ⟨PT_t 610 (by decide +kernel) rfl, PT_t 1 (by decide +kernel) rfl, by decide +kernel, by decide +kernel⟩
theorem mt_X8_mixText : pMt yX8_mixText cX8_mixText 6 (some .long) 2 := ⟨PT_t 614 (by decide +kernel) rfl, PT_t 1 (by decide +kernel) rfl, by decide +kernel, by decide +kernel⟩
theorem mt_X8_mixNote : pMt yX8_mixNote cX8_mixNote 6 (some .long) 2 := ⟨PT_t 618 (by decide +kernel) rfl, PT_t 1 (by decide +kernel) rfl, by decide +kernel, by decide +kernel⟩
theorem mt_X9_init : pMt yX9_init cX9_init 1 none 0 := ⟨PT_t 623 (by decide +kernel) rfl, PT_t 11 (by decide +kernel) rfl, by decide +kernel, by decide +kernel⟩
theorem mt_X9_type : pMt yX9_type cX9_type 2 (some .int) 1 := ⟨PT_t 690 (by decide +kernel) rfl, PT_t 11 (by decide +kernel) rfl, by decide +kernel, by decide +kernel⟩
theorem mt_X9_in : pMt yX9_in cX9_in 3 (some .boolean) 3 := ⟨PT_t 693 (by decide +kernel) rfl, PT_t 11 (by decide +kernel) rfl, by decide +kernel, by decide +kernel⟩
theorem mt_X9_clearBuffer : pMt yX9_clearBuffer cX9_clearBuffer 2 (some .int) 0 := ⟨PT_t 697 (by decide +kernel) rfl, PT_t 11 (by decide +kernel) rfl, by decide +kernel, by decide +kernel⟩
theorem mt_X9_load : pMt yX9_load cX9_load 3 (some .int) 0 := ⟨PT_t 701 (by decide +kernel) rfl, PT_t 11 (by decide +kernel) rfl, by decide +kernel, by decide +kernel⟩
theorem mt_X9_begins : pMt yX9_begins cX9_begins 1 none 0 := ⟨PT_t 705 (by decide +kernel) rfl, PT_t 11 (by decide +kernel) rfl, by decide +kernel, by decide +kernel⟩
theorem mt_X9_copies : pMt yX9_copies cX9_copies 5 none 4 := ⟨PT_t 708 (by decide +kernel) rfl, PT_t 11 (by decide +kernel) rfl, by decide +kernel, by decide +kernel⟩
theorem mt_X9_at : pMt yX9_at cX9_at 2 (some .int) 2 := ⟨PT_t 711 (by decide +kernel) rfl, PT_t 11 (by decide +kernel) rfl, by decide +kernel, by decide +kernel⟩
theorem mt_X9_least : pMt yX9_least cX9_least 2 (some .int) 2 := ⟨PT_t 714 (by decide +kernel) rfl, PT_t 11 (by decide +kernel) rfl, by decide +kernel, by decide +kernel⟩
theorem mt_X9_made : pMt yX9_made cX9_made 3 (some .int) 1 := ⟨PT_t 718 (by decide +kernel) rfl, PT_t 11 (by decide +kernel) rfl, by decide +kernel, by decide +kernel⟩
theorem mt_X9_insert : pMt yX9_insert cX9_insert 4 (some .int) 1 := ⟨PT_t 722 (by decide +kernel) rfl, PT_t 11 (by decide +kernel) rfl, by decide +kernel, by decide +kernel⟩
theorem mt_X9_isPosition : pMt yX9_isPosition cX9_isPosition 2 (some .boolean) 1 := ⟨PT_t 726 (by decide +kernel) rfl, PT_t 11 (by decide +kernel) rfl, by decide +kernel, by decide +kernel⟩
theorem mt_X9_delete : pMt yX9_delete cX9_delete 6 (some .int) 2 := ⟨PT_t 730 (by decide +kernel) rfl, PT_t 11 (by decide +kernel) rfl, by decide +kernel, by decide +kernel⟩
theorem mt_X9_without : pMt yX9_without cX9_without 3 (some .int) 3 := ⟨PT_t 733 (by decide +kernel) rfl, PT_t 11 (by decide +kernel) rfl, by decide +kernel, by decide +kernel⟩
theorem mt_X9_comment : pMt yX9_comment cX9_comment 4 (some .int) 2 := ⟨PT_t 737 (by decide +kernel) rfl, PT_t 11 (by decide +kernel) rfl, by decide +kernel, by decide +kernel⟩
theorem mt_X9_quotes : pMt yX9_quotes cX9_quotes 4 none 1 := ⟨PT_t 741 (by decide +kernel) rfl, PT_t 11 (by decide +kernel) rfl, by decide +kernel, by decide +kernel⟩
theorem mt_X9_quotesPart : pMt yX9_quotesPart cX9_quotesPart 6 none 4 := ⟨PT_t 745 (by decide +kernel) rfl, PT_t 11 (by decide +kernel) rfl, by decide +kernel, by decide +kernel⟩
theorem mt_X9_remove : pMt yX9_remove cX9_remove 3 (some .int) 1 := ⟨PT_t 749 (by decide +kernel) rfl, PT_t 11 (by decide +kernel) rfl, by decide +kernel, by decide +kernel⟩
theorem mt_X9_find : pMt yX9_find cX9_find 3 (some .int) 1 := ⟨PT_t 753 (by decide +kernel) rfl, PT_t 11 (by decide +kernel) rfl, by decide +kernel, by decide +kernel⟩
theorem mt_X9_removes : pMt yX9_removes cX9_removes 3 none 1 := ⟨PT_t 757 (by decide +kernel) rfl, PT_t 11 (by decide +kernel) rfl, by decide +kernel, by decide +kernel⟩
theorem mt_X9_quoteAnew : pMt yX9_quoteAnew cX9_quoteAnew 3 (some .int) 1 := ⟨PT_t 761 (by decide +kernel) rfl, PT_t 11 (by decide +kernel) rfl, by decide +kernel, by decide +kernel⟩
theorem mt_X9_attach : pMt yX9_attach cX9_attach 3 (some .int) 1 := ⟨PT_t 765 (by decide +kernel) rfl, PT_t 11 (by decide +kernel) rfl, by decide +kernel, by decide +kernel⟩
theorem mt_X9_findBest : pMt yX9_findBest cX9_findBest 4 (some .boolean) 1 := ⟨PT_t 769 (by decide +kernel) rfl, PT_t 11 (by decide +kernel) rfl, by decide +kernel, by decide +kernel⟩
theorem mt_X9_bestAt : pMt yX9_bestAt cX9_bestAt 7 (some .boolean) 2 := ⟨PT_t 773 (by decide +kernel) rfl, PT_t 11 (by decide +kernel) rfl, by decide +kernel, by decide +kernel⟩
theorem mt_X9_startsLine : pMt yX9_startsLine cX9_startsLine 3 none 1 := ⟨PT_t 777 (by decide +kernel) rfl, PT_t 11 (by decide +kernel) rfl, by decide +kernel, by decide +kernel⟩
theorem mt_X9_goesOn : pMt yX9_goesOn cX9_goesOn 6 none 2 := ⟨PT_t 781 (by decide +kernel) rfl, PT_t 11 (by decide +kernel) rfl, by decide +kernel, by decide +kernel⟩
theorem mt_X9_scored : pMt yX9_scored cX9_scored 6 (some .int) 4 := ⟨PT_t 785 (by decide +kernel) rfl, PT_t 11 (by decide +kernel) rfl, by decide +kernel, by decide +kernel⟩
theorem mt_X9_before : pMt yX9_before cX9_before 5 (some .int) 2 := ⟨PT_t 789 (by decide +kernel) rfl, PT_t 11 (by decide +kernel) rfl, by decide +kernel, by decide +kernel⟩
theorem mt_X9_behind : pMt yX9_behind cX9_behind 4 (some .int) 2 := ⟨PT_t 793 (by decide +kernel) rfl, PT_t 11 (by decide +kernel) rfl, by decide +kernel, by decide +kernel⟩
theorem mt_X9_attaches : pMt yX9_attaches cX9_attaches 4 none 3 := ⟨PT_t 797 (by decide +kernel) rfl, PT_t 11 (by decide +kernel) rfl, by decide +kernel, by decide +kernel⟩
theorem mt_X9_attachAll : pMt yX9_attachAll cX9_attachAll 5 (some .int) 0 := ⟨PT_t 801 (by decide +kernel) rfl, PT_t 11 (by decide +kernel) rfl, by decide +kernel, by decide +kernel⟩
theorem mt_X9_findOrder : pMt yX9_findOrder cX9_findOrder 3 none 0 := ⟨PT_t 805 (by decide +kernel) rfl, PT_t 11 (by decide +kernel) rfl, by decide +kernel, by decide +kernel⟩
theorem mt_X9_findScores : pMt yX9_findScores cX9_findScores 4 none 0 := ⟨PT_t 809 (by decide +kernel) rfl, PT_t 11 (by decide +kernel) rfl, by decide +kernel, by decide +kernel⟩
theorem mt_X9_findSums : pMt yX9_findSums cX9_findSums 6 none 0 := ⟨PT_t 813 (by decide +kernel) rfl, PT_t 11 (by decide +kernel) rfl, by decide +kernel, by decide +kernel⟩
theorem mt_X9_worth : pMt yX9_worth cX9_worth 4 (some .int) 2 := ⟨PT_t 817 (by decide +kernel) rfl, PT_t 11 (by decide +kernel) rfl, by decide +kernel, by decide +kernel⟩
theorem mt_X9_chosen : pMt yX9_chosen cX9_chosen 6 (some .int) 2 := ⟨PT_t 821 (by decide +kernel) rfl, PT_t 11 (by decide +kernel) rfl, by decide +kernel, by decide +kernel⟩
theorem mt_X9_merge : pMt yX9_merge cX9_merge 4 (some .int) 0 := ⟨PT_t 825 (by decide +kernel) rfl, PT_t 11 (by decide +kernel) rfl, by decide +kernel, by decide +kernel⟩
theorem mt_X9_isLike : pMt yX9_isLike cX9_isLike 4 (some .boolean) 2 := ⟨PT_t 829 (by decide +kernel) rfl, PT_t 11 (by decide +kernel) rfl, by decide +kernel, by decide +kernel⟩
theorem mt_X9_undo : pMt yX9_undo cX9_undo 1 (some .int) 0 := ⟨PT_t 833 (by decide +kernel) rfl, PT_t 11 (by decide +kernel) rfl, by decide +kernel, by decide +kernel⟩
theorem mt_X9_length : pMt yX9_length cX9_length 1 (some .int) 0 := ⟨PT_t 837 (by decide +kernel) rfl, PT_t 11 (by decide +kernel) rfl, by decide +kernel, by decide +kernel⟩
theorem mt_X9_letter : pMt yX9_letter cX9_letter 2 (some .int) 1 := ⟨PT_t 841 (by decide +kernel) rfl, PT_t 11 (by decide +kernel) rfl, by decide +kernel, by decide +kernel⟩
theorem mt_X9_isLetter : pMt yX9_isLetter cX9_isLetter 2 (some .boolean) 1 := ⟨PT_t 845 (by decide +kernel) rfl, PT_t 11 (by decide +kernel) rfl, by decide +kernel, by decide +kernel⟩
theorem mt_X9_comments : pMt yX9_comments cX9_comments 1 (some .int) 0 := ⟨PT_t 849 (by decide +kernel) rfl, PT_t 11 (by decide +kernel) rfl, by decide +kernel, by decide +kernel⟩
theorem mt_X9_commentAt : pMt yX9_commentAt cX9_commentAt 2 (some .int) 1 := ⟨PT_t 853 (by decide +kernel) rfl, PT_t 11 (by decide +kernel) rfl, by decide +kernel, by decide +kernel⟩
theorem mt_X9_state : pMt yX9_state cX9_state 2 (some .int) 1 := ⟨PT_t 857 (by decide +kernel) rfl, PT_t 11 (by decide +kernel) rfl, by decide +kernel, by decide +kernel⟩
theorem mt_X9_of : pMt yX9_of cX9_of 4 (some .int) 2 := ⟨PT_t 861 (by decide +kernel) rfl, PT_t 11 (by decide +kernel) rfl, by decide +kernel, by decide +kernel⟩
theorem mt_X9_range : pMt yX9_range cX9_range 3 (some .int) 2 := ⟨PT_t 865 (by decide +kernel) rfl, PT_t 11 (by decide +kernel) rfl, by decide +kernel, by decide +kernel⟩
theorem mt_X9_weight : pMt yX9_weight cX9_weight 2 (some .int) 1 := ⟨PT_t 869 (by decide +kernel) rfl, PT_t 11 (by decide +kernel) rfl, by decide +kernel, by decide +kernel⟩
theorem mt_X9_quoted : pMt yX9_quoted cX9_quoted 6 (some .int) 3 := ⟨PT_t 873 (by decide +kernel) rfl, PT_t 11 (by decide +kernel) rfl, by decide +kernel, by decide +kernel⟩
theorem mt_X9_distance : pMt yX9_distance cX9_distance 3 (some .int) 1 := ⟨PT_t 877 (by decide +kernel) rfl, PT_t 11 (by decide +kernel) rfl, by decide +kernel, by decide +kernel⟩
theorem mt_X9_distanceOf : pMt yX9_distanceOf cX9_distanceOf 5 (some .int) 3 := ⟨PT_t 881 (by decide +kernel) rfl, PT_t 11 (by decide +kernel) rfl, by decide +kernel, by decide +kernel⟩
theorem mt_X9_score : pMt yX9_score cX9_score 5 (some .int) 3 := ⟨PT_t 885 (by decide +kernel) rfl, PT_t 11 (by decide +kernel) rfl, by decide +kernel, by decide +kernel⟩
theorem mt_X9_best : pMt yX9_best cX9_best 4 (some .int) 2 := ⟨PT_t 889 (by decide +kernel) rfl, PT_t 11 (by decide +kernel) rfl, by decide +kernel, by decide +kernel⟩
theorem mt_X9_overlap : pMt yX9_overlap cX9_overlap 7 (some .int) 2 := ⟨PT_t 893 (by decide +kernel) rfl, PT_t 11 (by decide +kernel) rfl, by decide +kernel, by decide +kernel⟩
theorem mt_X9_covering : pMt yX9_covering cX9_covering 6 (some .int) 2 := ⟨PT_t 897 (by decide +kernel) rfl, PT_t 11 (by decide +kernel) rfl, by decide +kernel, by decide +kernel⟩
theorem mt_X9_covers : pMt yX9_covers cX9_covers 3 (some .boolean) 2 := ⟨PT_t 901 (by decide +kernel) rfl, PT_t 11 (by decide +kernel) rfl, by decide +kernel, by decide +kernel⟩
theorem mt_X9_isBefore : pMt yX9_isBefore cX9_isBefore 3 (some .boolean) 2 := ⟨PT_t 905 (by decide +kernel) rfl, PT_t 11 (by decide +kernel) rfl, by decide +kernel, by decide +kernel⟩
theorem mt_X9_setThreshold : pMt yX9_setThreshold cX9_setThreshold 3 (some .int) 1 := ⟨PT_t 909 (by decide +kernel) rfl, PT_t 11 (by decide +kernel) rfl, by decide +kernel, by decide +kernel⟩
theorem mt_X9_save : pMt yX9_save cX9_save 2 (some .int) 1 := ⟨PT_t 913 (by decide +kernel) rfl, PT_t 11 (by decide +kernel) rfl, by decide +kernel, by decide +kernel⟩
theorem mt_X9_restore : pMt yX9_restore cX9_restore 2 (some .int) 1 := ⟨PT_t 917 (by decide +kernel) rfl, PT_t 11 (by decide +kernel) rfl, by decide +kernel, by decide +kernel⟩
theorem mt_X9_checksum : pMt yX9_checksum cX9_checksum 5 (some .long) 0 := ⟨PT_t 921 (by decide +kernel) rfl, PT_t 11 (by decide +kernel) rfl, by decide +kernel, by decide +kernel⟩
theorem mt_X9_more : pMt yX9_more cX9_more 3 (some .long) 2 := ⟨PT_t 925 (by decide +kernel) rfl, PT_t 11 (by decide +kernel) rfl, by decide +kernel, by decide +kernel⟩
theorem mt_X9_moreOfPart : pMt yX9_moreOfPart cX9_moreOfPart 8 (some .long) 3 := ⟨PT_t 930 (by decide +kernel) rfl, PT_t 11 (by decide +kernel) rfl, by decide +kernel, by decide +kernel⟩
theorem ob_i : Cond.instanceMethod objectInit ∈ PT := PT_t 18 (by decide +kernel) rfl
theorem ob_c : Cond.code objectInit ⟨#[0xb1]⟩ 1 none ∈ PT := PT_t 19 (by decide +kernel) rfl
theorem ck_L_9 : pCN RL 9 yX8_init cX8_init 1 0 := ⟨mt_X8_init, PT_t 14 (by decide +kernel) rfl, PT_t 15 (by decide +kernel) rfl, rfl⟩
theorem ck_X8_1 : Cond.methodLink RX8 1 objectInit ∈ PT := PT_t 17 (by decide +kernel) rfl
theorem ck_X8_11 : pCN RX8 11 yX7_init cX7_init 2 1 := ⟨mt_X7_init, PT_t 22 (by decide +kernel) rfl, PT_t 23 (by decide +kernel) rfl, rfl⟩
theorem ck_X7_3 : Cond.methodLink RX7 3 objectInit ∈ PT := PT_t 25 (by decide +kernel) rfl
theorem ck_X7_9 : pMx RX7 9 Lib.Math.max.name Lib.Math.max.code 2 := ⟨PT_t 26 (by decide +kernel) rfl, PT_t 27 (by decide +kernel) rfl, PT_t 3 (by decide +kernel) rfl, PT_t 28 (by decide +kernel) rfl⟩
theorem ck_X8_20 : pCN RX8 20 yX4_init cX4_init 2 0 := ⟨mt_X4_init, PT_t 45 (by decide +kernel) rfl, PT_t 46 (by decide +kernel) rfl, rfl⟩
theorem ck_X4_3 : Cond.methodLink RX4 3 objectInit ∈ PT := PT_t 48 (by decide +kernel) rfl
theorem ck_X4_11 : pCN RX4 11 yX7_init cX7_init 2 1 := ⟨mt_X7_init, PT_t 50 (by decide +kernel) rfl, PT_t 23 (by decide +kernel) rfl, rfl⟩
theorem ck_X4_26 : pCN RX4 26 yX3_init cX3_init 1 0 := ⟨mt_X3_init, PT_t 54 (by decide +kernel) rfl, PT_t 55 (by decide +kernel) rfl, rfl⟩
theorem ck_X3_3 : Cond.methodLink RX3 3 objectInit ∈ PT := PT_t 57 (by decide +kernel) rfl
theorem ck_X3_11 : pCN RX3 11 yX7_init cX7_init 2 1 := ⟨mt_X7_init, PT_t 59 (by decide +kernel) rfl, PT_t 23 (by decide +kernel) rfl, rfl⟩
theorem ck_X8_27 : pCN RX8 27 yX2_init cX2_init 2 0 := ⟨mt_X2_init, PT_t 118 (by decide +kernel) rfl, PT_t 119 (by decide +kernel) rfl, rfl⟩
theorem ck_X2_3 : Cond.methodLink RX2 3 objectInit ∈ PT := PT_t 121 (by decide +kernel) rfl
theorem ck_X2_17 : pCN RX2 17 yX4_init cX4_init 2 0 := ⟨mt_X4_init, PT_t 124 (by decide +kernel) rfl, PT_t 46 (by decide +kernel) rfl, rfl⟩
theorem ck_X8_34 : pCN RX8 34 yX6_init cX6_init 1 0 := ⟨mt_X6_init, PT_t 135 (by decide +kernel) rfl, PT_t 136 (by decide +kernel) rfl, rfl⟩
theorem ck_X6_1 : Cond.methodLink RX6 1 objectInit ∈ PT := PT_t 138 (by decide +kernel) rfl
theorem ck_X6_9 : pCN RX6 9 yX4_init cX4_init 2 0 := ⟨mt_X4_init, PT_t 140 (by decide +kernel) rfl, PT_t 46 (by decide +kernel) rfl, rfl⟩
theorem ck_X8_44 : pCN RX8 44 yX1_init cX1_init 1 0 := ⟨mt_X1_init, PT_t 154 (by decide +kernel) rfl, PT_t 155 (by decide +kernel) rfl, rfl⟩
theorem ck_X1_3 : Cond.methodLink RX1 3 objectInit ∈ PT := PT_t 157 (by decide +kernel) rfl
theorem ck_X8_51 : pCN RX8 51 yX5_init cX5_init 3 0 := ⟨mt_X5_init, PT_t 180 (by decide +kernel) rfl, PT_t 181 (by decide +kernel) rfl, rfl⟩
theorem ck_X5_3 : Cond.methodLink RX5 3 objectInit ∈ PT := PT_t 183 (by decide +kernel) rfl
theorem ck_X5_23 : pCN RX5 23 yX3_init cX3_init 1 0 := ⟨mt_X3_init, PT_t 187 (by decide +kernel) rfl, PT_t 55 (by decide +kernel) rfl, rfl⟩
theorem ck_X5_24 : pCN RX5 24 yX0_init cX0_init 1 0 := ⟨mt_X0_init, PT_t 189 (by decide +kernel) rfl, PT_t 190 (by decide +kernel) rfl, rfl⟩
theorem ck_X0_3 : Cond.methodLink RX0 3 objectInit ∈ PT := PT_t 192 (by decide +kernel) rfl
theorem ck_L_13 : pCV RL 13 yX8_type cX8_type 2 (some .int) 1 := ⟨mt_X8_type, PT_t 241 (by decide +kernel) rfl, PT_t 242 (by decide +kernel) rfl, PT_t 243 (by decide +kernel) rfl⟩
theorem ck_X8_63 : pCV RX8 63 yX7_append cX7_append 2 none 1 := ⟨mt_X7_append, PT_t 245 (by decide +kernel) rfl, PT_t 246 (by decide +kernel) rfl, PT_t 247 (by decide +kernel) rfl⟩
theorem ck_L_18 : pCV RL 18 yX8_clearBuffer cX8_clearBuffer 2 (some .int) 0 := ⟨mt_X8_clearBuffer, PT_t 249 (by decide +kernel) rfl, PT_t 250 (by decide +kernel) rfl, PT_t 251 (by decide +kernel) rfl⟩
theorem ck_X8_66 : pCV RX8 66 yX7_empty cX7_empty 1 none 0 := ⟨mt_X7_empty, PT_t 253 (by decide +kernel) rfl, PT_t 254 (by decide +kernel) rfl, PT_t 255 (by decide +kernel) rfl⟩
theorem ck_L_23 : pCV RL 23 yX8_load cX8_load 2 (some .int) 0 := ⟨mt_X8_load, PT_t 257 (by decide +kernel) rfl, PT_t 258 (by decide +kernel) rfl, PT_t 259 (by decide +kernel) rfl⟩
theorem ck_X8_69 : pCV RX8 69 yX2_record cX2_record 2 none 1 := ⟨mt_X2_record, PT_t 261 (by decide +kernel) rfl, PT_t 262 (by decide +kernel) rfl, PT_t 263 (by decide +kernel) rfl⟩
theorem ck_X2_22 : pCV RX2 22 yX2_dropOldest cX2_dropOldest 3 none 0 := ⟨mt_X2_dropOldest, PT_t 265 (by decide +kernel) rfl, PT_t 267 (by decide +kernel) rfl, PT_sel (i := 0) (q := (yX2_dropOldest, 2)) (by decide +kernel)⟩
theorem ck_X2_25 : pCV RX2 25 yX4_become cX4_become 3 none 1 := ⟨mt_X4_become, PT_t 269 (by decide +kernel) rfl, PT_t 270 (by decide +kernel) rfl, PT_t 271 (by decide +kernel) rfl⟩
theorem ck_X4_27 : pCV RX4 27 yX7_become cX7_become 2 none 1 := ⟨mt_X7_become, PT_t 273 (by decide +kernel) rfl, PT_t 274 (by decide +kernel) rfl, PT_t 275 (by decide +kernel) rfl⟩
theorem ck_X7_25 : pCV RX7 25 yX7_copyPart cX7_copyPart 5 none 3 := ⟨mt_X7_copyPart, PT_t 277 (by decide +kernel) rfl, PT_t 278 (by decide +kernel) rfl, PT_t 279 (by decide +kernel) rfl⟩
theorem ck_X7_29 : pCV RX7 29 yX7_at cX7_at 2 (some .int) 1 := ⟨mt_X7_at, PT_t 281 (by decide +kernel) rfl, PT_t 282 (by decide +kernel) rfl, PT_t 283 (by decide +kernel) rfl⟩
theorem ck_X7_33 : pCV RX7 33 yX7_append cX7_append 2 none 1 := ⟨mt_X7_append, PT_t 285 (by decide +kernel) rfl, PT_t 246 (by decide +kernel) rfl, PT_t 247 (by decide +kernel) rfl⟩
theorem ck_X4_35 : pMx RX4 35 Lib.Math.min.name Lib.Math.min.code 2 := ⟨PT_t 286 (by decide +kernel) rfl, PT_t 287 (by decide +kernel) rfl, PT_t 3 (by decide +kernel) rfl, PT_t 288 (by decide +kernel) rfl⟩
theorem ck_X4_44 : pCV RX4 44 yX3_become cX3_become 2 none 1 := ⟨mt_X3_become, PT_t 289 (by decide +kernel) rfl, PT_t 290 (by decide +kernel) rfl, PT_t 291 (by decide +kernel) rfl⟩
theorem ck_X3_26 : pCV RX3 26 yX7_become cX7_become 2 none 1 := ⟨mt_X7_become, PT_t 293 (by decide +kernel) rfl, PT_t 274 (by decide +kernel) rfl, PT_t 275 (by decide +kernel) rfl⟩
theorem ck_X8_76 : pCV RX8 76 yX4_replaceDocument cX4_replaceDocument 3 none 1 := ⟨mt_X4_replaceDocument, PT_t 294 (by decide +kernel) rfl, PT_t 295 (by decide +kernel) rfl, PT_t 296 (by decide +kernel) rfl⟩
theorem ck_X4_61 : pCV RX4 61 yX3_moveForReplacement cX3_moveForReplacement 2 none 1 := ⟨mt_X3_moveForReplacement, PT_t 298 (by decide +kernel) rfl, PT_t 299 (by decide +kernel) rfl, PT_t 300 (by decide +kernel) rfl⟩
theorem ck_X3_61 : pMx RX3 61 Lib.Math.min.name Lib.Math.min.code 2 := ⟨PT_t 302 (by decide +kernel) rfl, PT_t 287 (by decide +kernel) rfl, PT_t 3 (by decide +kernel) rfl, PT_t 288 (by decide +kernel) rfl⟩
theorem ck_L_27 : pCV RL 27 yX8_insert cX8_insert 2 (some .int) 1 := ⟨mt_X8_insert, PT_t 303 (by decide +kernel) rfl, PT_t 304 (by decide +kernel) rfl, PT_t 305 (by decide +kernel) rfl⟩
theorem ck_X8_80 : pCV RX8 80 yX8_isPosition cX8_isPosition 2 (some .boolean) 1 := ⟨mt_X8_isPosition, PT_t 307 (by decide +kernel) rfl, PT_t 309 (by decide +kernel) rfl, PT_sel (i := 1) (q := (yX8_isPosition, 8)) (by decide +kernel)⟩
theorem ck_X8_84 : pCV RX8 84 yX4_putIn cX4_putIn 4 none 2 := ⟨mt_X4_putIn, PT_t 311 (by decide +kernel) rfl, PT_t 312 (by decide +kernel) rfl, PT_t 313 (by decide +kernel) rfl⟩
theorem ck_X4_64 : pCV RX4 64 yX7_putLetters cX7_putLetters 5 none 2 := ⟨mt_X7_putLetters, PT_t 315 (by decide +kernel) rfl, PT_t 316 (by decide +kernel) rfl, PT_t 317 (by decide +kernel) rfl⟩
theorem ck_X4_68 : pCV RX4 68 yX3_moveForInsert cX3_moveForInsert 3 none 2 := ⟨mt_X3_moveForInsert, PT_t 319 (by decide +kernel) rfl, PT_t 320 (by decide +kernel) rfl, PT_t 321 (by decide +kernel) rfl⟩
theorem ck_L_31 : pCV RL 31 yX8_delete cX8_delete 3 (some .int) 2 := ⟨mt_X8_delete, PT_t 323 (by decide +kernel) rfl, PT_t 324 (by decide +kernel) rfl, PT_t 325 (by decide +kernel) rfl⟩
theorem ck_X8_88 : pCV RX8 88 yX4_cutOut cX4_cutOut 5 (some .int) 2 := ⟨mt_X4_cutOut, PT_t 327 (by decide +kernel) rfl, PT_t 328 (by decide +kernel) rfl, PT_t 329 (by decide +kernel) rfl⟩
theorem ck_X4_72 : pCV RX4 72 yX7_cutLetters cX7_cutLetters 4 none 2 := ⟨mt_X7_cutLetters, PT_t 331 (by decide +kernel) rfl, PT_t 332 (by decide +kernel) rfl, PT_t 333 (by decide +kernel) rfl⟩
theorem ck_X4_75 : pCV RX4 75 yX3_moveForDelete cX3_moveForDelete 3 (some .boolean) 2 := ⟨mt_X3_moveForDelete, PT_t 335 (by decide +kernel) rfl, PT_t 336 (by decide +kernel) rfl, PT_t 337 (by decide +kernel) rfl⟩
theorem ck_X3_57 : pCS RX3 57 yX3_boundAfterDelete cX3_boundAfterDelete 3 (some .int) 3 := ⟨mt_X3_boundAfterDelete, PT_t 339 (by decide +kernel) rfl, PT_t 340 (by decide +kernel) rfl⟩
theorem ck_L_36 : pCV RL 36 yX8_comment cX8_comment 3 (some .int) 2 := ⟨mt_X8_comment, PT_t 342 (by decide +kernel) rfl, PT_t 343 (by decide +kernel) rfl, PT_t 344 (by decide +kernel) rfl⟩
theorem ck_X8_92 : pCV RX8 92 yX8_isRange cX8_isRange 4 (some .boolean) 3 := ⟨mt_X8_isRange, PT_t 346 (by decide +kernel) rfl, PT_t 348 (by decide +kernel) rfl, PT_sel (i := 2) (q := (yX8_isRange, 8)) (by decide +kernel)⟩
theorem ck_X8_99 : pCV RX8 99 yX4_addNote cX4_addNote 4 (some .int) 2 := ⟨mt_X4_addNote, PT_t 350 (by decide +kernel) rfl, PT_t 351 (by decide +kernel) rfl, PT_t 352 (by decide +kernel) rfl⟩
theorem ck_X4_54 : pCV RX4 54 yX3_begin cX3_begin 5 none 4 := ⟨mt_X3_begin, PT_t 354 (by decide +kernel) rfl, PT_t 355 (by decide +kernel) rfl, PT_t 356 (by decide +kernel) rfl⟩
theorem ck_X3_46 : pCV RX3 46 yX3_attachTo cX3_attachTo 3 none 2 := ⟨mt_X3_attachTo, PT_t 358 (by decide +kernel) rfl, PT_t 359 (by decide +kernel) rfl, PT_t 360 (by decide +kernel) rfl⟩
theorem ck_X3_50 : pCV RX3 50 yX3_quoteFrom cX3_quoteFrom 2 none 1 := ⟨mt_X3_quoteFrom, PT_t 362 (by decide +kernel) rfl, PT_t 363 (by decide +kernel) rfl, PT_t 364 (by decide +kernel) rfl⟩
theorem ck_X3_53 : pCV RX3 53 yX7_copyPart cX7_copyPart 5 none 3 := ⟨mt_X7_copyPart, PT_t 366 (by decide +kernel) rfl, PT_t 278 (by decide +kernel) rfl, PT_t 279 (by decide +kernel) rfl⟩
theorem ck_L_40 : pCV RL 40 yX8_remove cX8_remove 3 (some .int) 1 := ⟨mt_X8_remove, PT_t 367 (by decide +kernel) rfl, PT_t 368 (by decide +kernel) rfl, PT_t 369 (by decide +kernel) rfl⟩
theorem ck_X8_102 : pCV RX8 102 yX4_indexOf cX4_indexOf 3 (some .int) 1 := ⟨mt_X4_indexOf, PT_t 371 (by decide +kernel) rfl, PT_t 372 (by decide +kernel) rfl, PT_t 373 (by decide +kernel) rfl⟩
theorem ck_X8_106 : pCV RX8 106 yX4_drop cX4_drop 4 none 1 := ⟨mt_X4_drop, PT_t 375 (by decide +kernel) rfl, PT_t 376 (by decide +kernel) rfl, PT_t 377 (by decide +kernel) rfl⟩
theorem ck_L_44 : pCV RL 44 yX8_quoteAnew cX8_quoteAnew 3 (some .int) 1 := ⟨mt_X8_quoteAnew, PT_t 379 (by decide +kernel) rfl, PT_t 380 (by decide +kernel) rfl, PT_t 381 (by decide +kernel) rfl⟩
theorem ck_X8_109 : pCV RX8 109 yX4_find cX4_find 3 (some (.object "AnchoredComments$Note")) 1 := ⟨mt_X4_find, PT_t 383 (by decide +kernel) rfl, PT_t 384 (by decide +kernel) rfl, PT_t 385 (by decide +kernel) rfl⟩
theorem ck_X4_50 : pCV RX4 50 yX4_indexOf cX4_indexOf 3 (some .int) 1 := ⟨mt_X4_indexOf, PT_t 387 (by decide +kernel) rfl, PT_t 372 (by decide +kernel) rfl, PT_t 373 (by decide +kernel) rfl⟩
theorem ck_X8_124 : pCV RX8 124 yX3_quoteFrom cX3_quoteFrom 2 none 1 := ⟨mt_X3_quoteFrom, PT_t 388 (by decide +kernel) rfl, PT_t 363 (by decide +kernel) rfl, PT_t 364 (by decide +kernel) rfl⟩
theorem ck_L_48 : pCV RL 48 yX8_attach cX8_attach 3 (some .int) 1 := ⟨mt_X8_attach, PT_t 389 (by decide +kernel) rfl, PT_t 390 (by decide +kernel) rfl, PT_t 391 (by decide +kernel) rfl⟩
theorem ck_X8_130 : pCV RX8 130 yX1_search cX1_search 5 none 2 := ⟨mt_X1_search, PT_t 393 (by decide +kernel) rfl, PT_t 394 (by decide +kernel) rfl, PT_t 395 (by decide +kernel) rfl⟩
theorem ck_X1_51 : pCV RX1 51 yX1_searchAt cX1_searchAt 11 (some .int) 3 := ⟨mt_X1_searchAt, PT_t 397 (by decide +kernel) rfl, PT_t 398 (by decide +kernel) rfl, PT_t 399 (by decide +kernel) rfl⟩
theorem ck_X1_58 : pMx RX1 58 Lib.Math.max.name Lib.Math.max.code 2 := ⟨PT_t 401 (by decide +kernel) rfl, PT_t 27 (by decide +kernel) rfl, PT_t 3 (by decide +kernel) rfl, PT_t 28 (by decide +kernel) rfl⟩
theorem ck_X1_64 : pMx RX1 64 Lib.Math.min.name Lib.Math.min.code 2 := ⟨PT_t 402 (by decide +kernel) rfl, PT_t 287 (by decide +kernel) rfl, PT_t 3 (by decide +kernel) rfl, PT_t 288 (by decide +kernel) rfl⟩
theorem ck_X1_15 : pCV RX1 15 yX1_beginRow cX1_beginRow 2 none 0 := ⟨mt_X1_beginRow, PT_t 403 (by decide +kernel) rfl, PT_t 405 (by decide +kernel) rfl, PT_sel (i := 3) (q := (yX1_beginRow, 5)) (by decide +kernel)⟩
theorem ck_X1_24 : pCV RX1 24 yX7_at cX7_at 2 (some .int) 1 := ⟨mt_X7_at, PT_t 407 (by decide +kernel) rfl, PT_t 282 (by decide +kernel) rfl, PT_t 283 (by decide +kernel) rfl⟩
theorem ck_X1_30 : pCV RX1 30 yX1_takeLetter cX1_takeLetter 10 none 2 := ⟨mt_X1_takeLetter, PT_t 408 (by decide +kernel) rfl, PT_t 410 (by decide +kernel) rfl, PT_sel (i := 4) (q := (yX1_takeLetter, 5)) (by decide +kernel)⟩
theorem ck_X1_34 : pCV RX1 34 yX1_endOfRow cX1_endOfRow 2 (some .int) 1 := ⟨mt_X1_endOfRow, PT_t 412 (by decide +kernel) rfl, PT_t 414 (by decide +kernel) rfl, PT_sel (i := 5) (q := (yX1_endOfRow, 5)) (by decide +kernel)⟩
theorem ck_X1_67 : pCV RX1 67 yX3_scoreOf cX3_scoreOf 6 (some .int) 4 := ⟨mt_X3_scoreOf, PT_t 416 (by decide +kernel) rfl, PT_t 417 (by decide +kernel) rfl, PT_t 418 (by decide +kernel) rfl⟩
theorem ck_X3_67 : pCV RX3 67 yX3_likeBefore cX3_likeBefore 4 (some .int) 2 := ⟨mt_X3_likeBefore, PT_t 420 (by decide +kernel) rfl, PT_t 422 (by decide +kernel) rfl, PT_sel (i := 6) (q := (yX3_likeBefore, 8)) (by decide +kernel)⟩
theorem ck_X3_81 : pCV RX3 81 yX7_at cX7_at 2 (some .int) 1 := ⟨mt_X7_at, PT_t 424 (by decide +kernel) rfl, PT_t 282 (by decide +kernel) rfl, PT_t 283 (by decide +kernel) rfl⟩
theorem ck_X3_71 : pCV RX3 71 yX3_likeBehind cX3_likeBehind 4 (some .int) 2 := ⟨mt_X3_likeBehind, PT_t 425 (by decide +kernel) rfl, PT_t 427 (by decide +kernel) rfl, PT_sel (i := 7) (q := (yX3_likeBehind, 8)) (by decide +kernel)⟩
theorem ck_X3_74 : pMx RX3 74 Lib.Math.abs.name Lib.Math.abs.code 1 := ⟨PT_t 429 (by decide +kernel) rfl, PT_t 430 (by decide +kernel) rfl, PT_t 3 (by decide +kernel) rfl, PT_t 431 (by decide +kernel) rfl⟩
theorem ck_X8_143 : pCV RX8 143 yX3_attachTo cX3_attachTo 3 none 2 := ⟨mt_X3_attachTo, PT_t 432 (by decide +kernel) rfl, PT_t 359 (by decide +kernel) rfl, PT_t 360 (by decide +kernel) rfl⟩
theorem ck_L_52 : pCV RL 52 yX8_attachAll cX8_attachAll 1 (some .int) 0 := ⟨mt_X8_attachAll, PT_t 433 (by decide +kernel) rfl, PT_t 434 (by decide +kernel) rfl, PT_t 435 (by decide +kernel) rfl⟩
theorem ck_X8_147 : pCV RX8 147 yX5_gather cX5_gather 3 (some .int) 1 := ⟨mt_X5_gather, PT_t 437 (by decide +kernel) rfl, PT_t 438 (by decide +kernel) rfl, PT_t 439 (by decide +kernel) rfl⟩
theorem ck_X5_38 : pCV RX5 38 yX5_takeIn cX5_takeIn 3 none 1 := ⟨mt_X5_takeIn, PT_t 441 (by decide +kernel) rfl, PT_t 443 (by decide +kernel) rfl, PT_sel (i := 8) (q := (yX5_takeIn, 3)) (by decide +kernel)⟩
theorem ck_X8_151 : pCV RX8 151 yX5_plan cX5_plan 5 none 3 := ⟨mt_X5_plan, PT_t 445 (by decide +kernel) rfl, PT_t 446 (by decide +kernel) rfl, PT_t 447 (by decide +kernel) rfl⟩
theorem ck_X5_45 : pCV RX5 45 yX0_beNothing cX0_beNothing 2 none 0 := ⟨mt_X0_beNothing, PT_t 449 (by decide +kernel) rfl, PT_t 450 (by decide +kernel) rfl, PT_t 451 (by decide +kernel) rfl⟩
theorem ck_X5_48 : pCV RX5 48 yX0_weigh cX0_weigh 7 none 4 := ⟨mt_X0_weigh, PT_t 453 (by decide +kernel) rfl, PT_t 454 (by decide +kernel) rfl, PT_t 455 (by decide +kernel) rfl⟩
theorem ck_X0_27 : pMx RX0 27 Lib.Math.min.name Lib.Math.min.code 2 := ⟨PT_t 457 (by decide +kernel) rfl, PT_t 287 (by decide +kernel) rfl, PT_t 3 (by decide +kernel) rfl, PT_t 288 (by decide +kernel) rfl⟩
theorem ck_X0_34 : pCV RX0 34 yX1_searchAt cX1_searchAt 11 (some .int) 3 := ⟨mt_X1_searchAt, PT_t 458 (by decide +kernel) rfl, PT_t 398 (by decide +kernel) rfl, PT_t 399 (by decide +kernel) rfl⟩
theorem ck_X5_52 : pCV RX5 52 yX0_addUp cX0_addUp 4 none 1 := ⟨mt_X0_addUp, PT_t 459 (by decide +kernel) rfl, PT_t 460 (by decide +kernel) rfl, PT_t 461 (by decide +kernel) rfl⟩
theorem ck_X0_43 : pCV RX0 43 yX0_sumFrom cX0_sumFrom 2 (some .int) 1 := ⟨mt_X0_sumFrom, PT_t 463 (by decide +kernel) rfl, PT_t 464 (by decide +kernel) rfl, PT_t 465 (by decide +kernel) rfl⟩
theorem ck_X0_47 : pMx RX0 47 Lib.Math.max.name Lib.Math.max.code 2 := ⟨PT_t 467 (by decide +kernel) rfl, PT_t 27 (by decide +kernel) rfl, PT_t 3 (by decide +kernel) rfl, PT_t 28 (by decide +kernel) rfl⟩
theorem ck_X8_155 : pCV RX8 155 yX5_carryOut cX5_carryOut 5 (some .int) 0 := ⟨mt_X5_carryOut, PT_t 468 (by decide +kernel) rfl, PT_t 469 (by decide +kernel) rfl, PT_t 470 (by decide +kernel) rfl⟩
theorem ck_X5_56 : pCV RX5 56 yX0_choose cX0_choose 7 (some .int) 2 := ⟨mt_X0_choose, PT_t 472 (by decide +kernel) rfl, PT_t 473 (by decide +kernel) rfl, PT_t 474 (by decide +kernel) rfl⟩
theorem ck_X5_60 : pCV RX5 60 yX0_endAt cX0_endAt 2 (some .int) 1 := ⟨mt_X0_endAt, PT_t 476 (by decide +kernel) rfl, PT_t 477 (by decide +kernel) rfl, PT_t 478 (by decide +kernel) rfl⟩
theorem ck_X5_64 : pCV RX5 64 yX3_attachTo cX3_attachTo 3 none 2 := ⟨mt_X3_attachTo, PT_t 480 (by decide +kernel) rfl, PT_t 359 (by decide +kernel) rfl, PT_t 360 (by decide +kernel) rfl⟩
theorem ck_L_56 : pCV RL 56 yX8_merge cX8_merge 1 (some .int) 0 := ⟨mt_X8_merge, PT_t 481 (by decide +kernel) rfl, PT_t 482 (by decide +kernel) rfl, PT_t 483 (by decide +kernel) rfl⟩
theorem ck_X8_159 : pCV RX8 159 yX4_hasTwins cX4_hasTwins 2 (some .boolean) 0 := ⟨mt_X4_hasTwins, PT_t 485 (by decide +kernel) rfl, PT_t 486 (by decide +kernel) rfl, PT_t 487 (by decide +kernel) rfl⟩
theorem ck_X4_79 : pCV RX4 79 yX4_firstTwin cX4_firstTwin 3 (some .int) 1 := ⟨mt_X4_firstTwin, PT_t 489 (by decide +kernel) rfl, PT_t 491 (by decide +kernel) rfl, PT_sel (i := 9) (q := (yX4_firstTwin, 4)) (by decide +kernel)⟩
theorem ck_X4_88 : pCV RX4 88 yX3_isTwinOf cX3_isTwinOf 2 (some .boolean) 1 := ⟨mt_X3_isTwinOf, PT_t 493 (by decide +kernel) rfl, PT_t 494 (by decide +kernel) rfl, PT_t 495 (by decide +kernel) rfl⟩
theorem ck_X8_163 : pCV RX8 163 yX4_mergeTwins cX4_mergeTwins 4 (some .int) 0 := ⟨mt_X4_mergeTwins, PT_t 497 (by decide +kernel) rfl, PT_t 498 (by decide +kernel) rfl, PT_t 499 (by decide +kernel) rfl⟩
theorem ck_X4_85 : pCV RX4 85 yX4_drop cX4_drop 4 none 1 := ⟨mt_X4_drop, PT_t 501 (by decide +kernel) rfl, PT_t 376 (by decide +kernel) rfl, PT_t 377 (by decide +kernel) rfl⟩
theorem ck_L_60 : pCV RL 60 yX8_undo cX8_undo 1 (some .int) 0 := ⟨mt_X8_undo, PT_t 502 (by decide +kernel) rfl, PT_t 503 (by decide +kernel) rfl, PT_t 504 (by decide +kernel) rfl⟩
theorem ck_X8_167 : pCV RX8 167 yX2_stepBack cX2_stepBack 2 none 1 := ⟨mt_X2_stepBack, PT_t 506 (by decide +kernel) rfl, PT_t 507 (by decide +kernel) rfl, PT_t 508 (by decide +kernel) rfl⟩
theorem ck_L_64 : pCV RL 64 yX8_length cX8_length 1 (some .int) 0 := ⟨mt_X8_length, PT_t 510 (by decide +kernel) rfl, PT_t 511 (by decide +kernel) rfl, PT_t 512 (by decide +kernel) rfl⟩
theorem ck_L_68 : pCV RL 68 yX8_letter cX8_letter 2 (some .int) 1 := ⟨mt_X8_letter, PT_t 514 (by decide +kernel) rfl, PT_t 515 (by decide +kernel) rfl, PT_t 516 (by decide +kernel) rfl⟩
theorem ck_X8_170 : pCV RX8 170 yX8_isLetterIndex cX8_isLetterIndex 2 (some .boolean) 1 := ⟨mt_X8_isLetterIndex, PT_t 518 (by decide +kernel) rfl, PT_t 520 (by decide +kernel) rfl, PT_sel (i := 10) (q := (yX8_isLetterIndex, 8)) (by decide +kernel)⟩
theorem ck_X8_173 : pCV RX8 173 yX7_at cX7_at 2 (some .int) 1 := ⟨mt_X7_at, PT_t 522 (by decide +kernel) rfl, PT_t 282 (by decide +kernel) rfl, PT_t 283 (by decide +kernel) rfl⟩
theorem ck_L_72 : pCV RL 72 yX8_comments cX8_comments 1 (some .int) 0 := ⟨mt_X8_comments, PT_t 523 (by decide +kernel) rfl, PT_t 524 (by decide +kernel) rfl, PT_t 525 (by decide +kernel) rfl⟩
theorem ck_L_76 : pCV RL 76 yX8_commentAt cX8_commentAt 2 (some .int) 1 := ⟨mt_X8_commentAt, PT_t 527 (by decide +kernel) rfl, PT_t 528 (by decide +kernel) rfl, PT_t 529 (by decide +kernel) rfl⟩
theorem ck_L_80 : pCV RL 80 yX8_state cX8_state 3 (some .int) 1 := ⟨mt_X8_state, PT_t 531 (by decide +kernel) rfl, PT_t 532 (by decide +kernel) rfl, PT_t 533 (by decide +kernel) rfl⟩
theorem ck_L_84 : pCV RL 84 yX8_range cX8_range 4 (some .int) 2 := ⟨mt_X8_range, PT_t 535 (by decide +kernel) rfl, PT_t 536 (by decide +kernel) rfl, PT_t 537 (by decide +kernel) rfl⟩
theorem ck_L_89 : pCV RL 89 yX8_weight cX8_weight 3 (some .int) 1 := ⟨mt_X8_weight, PT_t 539 (by decide +kernel) rfl, PT_t 540 (by decide +kernel) rfl, PT_t 541 (by decide +kernel) rfl⟩
theorem ck_L_93 : pCV RL 93 yX8_quoted cX8_quoted 6 (some .int) 3 := ⟨mt_X8_quoted, PT_t 543 (by decide +kernel) rfl, PT_t 544 (by decide +kernel) rfl, PT_t 545 (by decide +kernel) rfl⟩
theorem ck_L_98 : pCV RL 98 yX8_distance cX8_distance 3 (some .int) 1 := ⟨mt_X8_distance, PT_t 547 (by decide +kernel) rfl, PT_t 548 (by decide +kernel) rfl, PT_t 549 (by decide +kernel) rfl⟩
theorem ck_X8_192 : pCV RX8 192 yX1_distanceTo cX1_distanceTo 6 (some .int) 4 := ⟨mt_X1_distanceTo, PT_t 551 (by decide +kernel) rfl, PT_t 552 (by decide +kernel) rfl, PT_t 553 (by decide +kernel) rfl⟩
theorem ck_L_102 : pCV RL 102 yX8_score cX8_score 6 (some .int) 3 := ⟨mt_X8_score, PT_t 555 (by decide +kernel) rfl, PT_t 556 (by decide +kernel) rfl, PT_t 557 (by decide +kernel) rfl⟩
theorem ck_X8_196 : pCV RX8 196 yX3_scoreOf cX3_scoreOf 6 (some .int) 4 := ⟨mt_X3_scoreOf, PT_t 559 (by decide +kernel) rfl, PT_t 417 (by decide +kernel) rfl, PT_t 418 (by decide +kernel) rfl⟩
theorem ck_L_106 : pCV RL 106 yX8_best cX8_best 4 (some .int) 2 := ⟨mt_X8_best, PT_t 560 (by decide +kernel) rfl, PT_t 561 (by decide +kernel) rfl, PT_t 562 (by decide +kernel) rfl⟩
theorem ck_L_110 : pCV RL 110 yX8_overlap cX8_overlap 5 (some .int) 2 := ⟨mt_X8_overlap, PT_t 564 (by decide +kernel) rfl, PT_t 565 (by decide +kernel) rfl, PT_t 566 (by decide +kernel) rfl⟩
theorem ck_X8_200 : pMx RX8 200 Lib.Math.min.name Lib.Math.min.code 2 := ⟨PT_t 568 (by decide +kernel) rfl, PT_t 287 (by decide +kernel) rfl, PT_t 3 (by decide +kernel) rfl, PT_t 288 (by decide +kernel) rfl⟩
theorem ck_X8_205 : pMx RX8 205 Lib.Math.max.name Lib.Math.max.code 2 := ⟨PT_t 569 (by decide +kernel) rfl, PT_t 27 (by decide +kernel) rfl, PT_t 3 (by decide +kernel) rfl, PT_t 28 (by decide +kernel) rfl⟩
theorem ck_L_114 : pCV RL 114 yX8_covering cX8_covering 3 (some .int) 2 := ⟨mt_X8_covering, PT_t 570 (by decide +kernel) rfl, PT_t 571 (by decide +kernel) rfl, PT_t 572 (by decide +kernel) rfl⟩
theorem ck_X8_208 : pCV RX8 208 yX4_numberCovering cX4_numberCovering 4 (some .int) 2 := ⟨mt_X4_numberCovering, PT_t 574 (by decide +kernel) rfl, PT_t 575 (by decide +kernel) rfl, PT_t 576 (by decide +kernel) rfl⟩
theorem ck_X4_92 : pCV RX4 92 yX3_covers cX3_covers 2 (some .boolean) 1 := ⟨mt_X3_covers, PT_t 578 (by decide +kernel) rfl, PT_t 579 (by decide +kernel) rfl, PT_t 580 (by decide +kernel) rfl⟩
theorem ck_X4_96 : pCV RX4 96 yX4_rankOf cX4_rankOf 5 (some .int) 2 := ⟨mt_X4_rankOf, PT_t 582 (by decide +kernel) rfl, PT_t 584 (by decide +kernel) rfl, PT_sel (i := 11) (q := (yX4_rankOf, 4)) (by decide +kernel)⟩
theorem ck_X4_100 : pCV RX4 100 yX3_standsBefore cX3_standsBefore 2 (some .boolean) 1 := ⟨mt_X3_standsBefore, PT_t 586 (by decide +kernel) rfl, PT_t 587 (by decide +kernel) rfl, PT_t 588 (by decide +kernel) rfl⟩
theorem ck_L_118 : pCV RL 118 yX8_setThreshold cX8_setThreshold 3 (some .int) 1 := ⟨mt_X8_setThreshold, PT_t 590 (by decide +kernel) rfl, PT_t 591 (by decide +kernel) rfl, PT_t 592 (by decide +kernel) rfl⟩
theorem ck_L_122 : pCV RL 122 yX8_save cX8_save 3 (some .int) 1 := ⟨mt_X8_save, PT_t 594 (by decide +kernel) rfl, PT_t 595 (by decide +kernel) rfl, PT_t 596 (by decide +kernel) rfl⟩
theorem ck_X8_217 : pCV RX8 217 yX4_become cX4_become 3 none 1 := ⟨mt_X4_become, PT_t 598 (by decide +kernel) rfl, PT_t 270 (by decide +kernel) rfl, PT_t 271 (by decide +kernel) rfl⟩
theorem ck_L_126 : pCV RL 126 yX8_restore cX8_restore 3 (some .int) 1 := ⟨mt_X8_restore, PT_t 599 (by decide +kernel) rfl, PT_t 600 (by decide +kernel) rfl, PT_t 601 (by decide +kernel) rfl⟩
theorem ck_L_130 : pCV RL 130 yX8_checksum cX8_checksum 4 (some .long) 0 := ⟨mt_X8_checksum, PT_t 603 (by decide +kernel) rfl, PT_t 604 (by decide +kernel) rfl, PT_t 605 (by decide +kernel) rfl⟩
theorem ck_X8_222 : pCS RX8 222 yX8_mix cX8_mix 3 (some .long) 2 := ⟨mt_X8_mix, PT_t 608 (by decide +kernel) rfl, PT_t 609 (by decide +kernel) rfl⟩
theorem ck_X8_226 : pCS RX8 226 yX8_mixText cX8_mixText 6 (some .long) 2 := ⟨mt_X8_mixText, PT_t 612 (by decide +kernel) rfl, PT_t 613 (by decide +kernel) rfl⟩
theorem ck_X8_230 : pCV RX8 230 yX8_mixNote cX8_mixNote 6 (some .long) 2 := ⟨mt_X8_mixNote, PT_t 615 (by decide +kernel) rfl, PT_t 617 (by decide +kernel) rfl, PT_sel (i := 12) (q := (yX8_mixNote, 8)) (by decide +kernel)⟩
theorem ck_L_12 : pCN RL 12 yX9_init cX9_init 1 0 := ⟨mt_X9_init, PT_t 621 (by decide +kernel) rfl, PT_t 622 (by decide +kernel) rfl, rfl⟩
theorem ck_X9_1 : Cond.methodLink RX9 1 objectInit ∈ PT := PT_t 624 (by decide +kernel) rfl
theorem ck_L_17 : pCV RL 17 yX9_type cX9_type 2 (some .int) 1 := ⟨mt_X9_type, PT_t 687 (by decide +kernel) rfl, PT_t 688 (by decide +kernel) rfl, PT_t 689 (by decide +kernel) rfl⟩
theorem ck_X9_52 : pCS RX9 52 yX9_in cX9_in 3 (some .boolean) 3 := ⟨mt_X9_in, PT_t 691 (by decide +kernel) rfl, PT_t 692 (by decide +kernel) rfl⟩
theorem ck_L_22 : pCV RL 22 yX9_clearBuffer cX9_clearBuffer 2 (some .int) 0 := ⟨mt_X9_clearBuffer, PT_t 694 (by decide +kernel) rfl, PT_t 695 (by decide +kernel) rfl, PT_t 696 (by decide +kernel) rfl⟩
theorem ck_L_26 : pCV RL 26 yX9_load cX9_load 3 (some .int) 0 := ⟨mt_X9_load, PT_t 698 (by decide +kernel) rfl, PT_t 699 (by decide +kernel) rfl, PT_t 700 (by decide +kernel) rfl⟩
theorem ck_X9_66 : pCV RX9 66 yX9_begins cX9_begins 1 none 0 := ⟨mt_X9_begins, PT_t 702 (by decide +kernel) rfl, PT_t 704 (by decide +kernel) rfl, PT_sel (i := 13) (q := (yX9_begins, 20)) (by decide +kernel)⟩
theorem ck_X9_56 : pCS RX9 56 yX9_copies cX9_copies 5 none 4 := ⟨mt_X9_copies, PT_t 706 (by decide +kernel) rfl, PT_t 707 (by decide +kernel) rfl⟩
theorem ck_X9_48 : pCS RX9 48 yX9_at cX9_at 2 (some .int) 2 := ⟨mt_X9_at, PT_t 709 (by decide +kernel) rfl, PT_t 710 (by decide +kernel) rfl⟩
theorem ck_X9_69 : pCS RX9 69 yX9_least cX9_least 2 (some .int) 2 := ⟨mt_X9_least, PT_t 712 (by decide +kernel) rfl, PT_t 713 (by decide +kernel) rfl⟩
theorem ck_X9_72 : pCV RX9 72 yX9_made cX9_made 3 (some .int) 1 := ⟨mt_X9_made, PT_t 715 (by decide +kernel) rfl, PT_t 717 (by decide +kernel) rfl, PT_sel (i := 14) (q := (yX9_made, 20)) (by decide +kernel)⟩
theorem ck_L_30 : pCV RL 30 yX9_insert cX9_insert 4 (some .int) 1 := ⟨mt_X9_insert, PT_t 719 (by decide +kernel) rfl, PT_t 720 (by decide +kernel) rfl, PT_t 721 (by decide +kernel) rfl⟩
theorem ck_X9_76 : pCV RX9 76 yX9_isPosition cX9_isPosition 2 (some .boolean) 1 := ⟨mt_X9_isPosition, PT_t 723 (by decide +kernel) rfl, PT_t 725 (by decide +kernel) rfl, PT_sel (i := 15) (q := (yX9_isPosition, 20)) (by decide +kernel)⟩
theorem ck_L_35 : pCV RL 35 yX9_delete cX9_delete 6 (some .int) 2 := ⟨mt_X9_delete, PT_t 727 (by decide +kernel) rfl, PT_t 728 (by decide +kernel) rfl, PT_t 729 (by decide +kernel) rfl⟩
theorem ck_X9_80 : pCS RX9 80 yX9_without cX9_without 3 (some .int) 3 := ⟨mt_X9_without, PT_t 731 (by decide +kernel) rfl, PT_t 732 (by decide +kernel) rfl⟩
theorem ck_L_39 : pCV RL 39 yX9_comment cX9_comment 4 (some .int) 2 := ⟨mt_X9_comment, PT_t 734 (by decide +kernel) rfl, PT_t 735 (by decide +kernel) rfl, PT_t 736 (by decide +kernel) rfl⟩
theorem ck_X9_88 : pCV RX9 88 yX9_quotes cX9_quotes 4 none 1 := ⟨mt_X9_quotes, PT_t 738 (by decide +kernel) rfl, PT_t 740 (by decide +kernel) rfl, PT_sel (i := 16) (q := (yX9_quotes, 20)) (by decide +kernel)⟩
theorem ck_X9_84 : pCV RX9 84 yX9_quotesPart cX9_quotesPart 6 none 4 := ⟨mt_X9_quotesPart, PT_t 742 (by decide +kernel) rfl, PT_t 744 (by decide +kernel) rfl, PT_sel (i := 17) (q := (yX9_quotesPart, 20)) (by decide +kernel)⟩
theorem ck_L_43 : pCV RL 43 yX9_remove cX9_remove 3 (some .int) 1 := ⟨mt_X9_remove, PT_t 746 (by decide +kernel) rfl, PT_t 747 (by decide +kernel) rfl, PT_t 748 (by decide +kernel) rfl⟩
theorem ck_X9_92 : pCV RX9 92 yX9_find cX9_find 3 (some .int) 1 := ⟨mt_X9_find, PT_t 750 (by decide +kernel) rfl, PT_t 752 (by decide +kernel) rfl, PT_sel (i := 18) (q := (yX9_find, 20)) (by decide +kernel)⟩
theorem ck_X9_95 : pCV RX9 95 yX9_removes cX9_removes 3 none 1 := ⟨mt_X9_removes, PT_t 754 (by decide +kernel) rfl, PT_t 756 (by decide +kernel) rfl, PT_sel (i := 19) (q := (yX9_removes, 20)) (by decide +kernel)⟩
theorem ck_L_47 : pCV RL 47 yX9_quoteAnew cX9_quoteAnew 3 (some .int) 1 := ⟨mt_X9_quoteAnew, PT_t 758 (by decide +kernel) rfl, PT_t 759 (by decide +kernel) rfl, PT_t 760 (by decide +kernel) rfl⟩
theorem ck_L_51 : pCV RL 51 yX9_attach cX9_attach 3 (some .int) 1 := ⟨mt_X9_attach, PT_t 762 (by decide +kernel) rfl, PT_t 763 (by decide +kernel) rfl, PT_t 764 (by decide +kernel) rfl⟩
theorem ck_X9_134 : pCV RX9 134 yX9_findBest cX9_findBest 4 (some .boolean) 1 := ⟨mt_X9_findBest, PT_t 766 (by decide +kernel) rfl, PT_t 768 (by decide +kernel) rfl, PT_sel (i := 20) (q := (yX9_findBest, 20)) (by decide +kernel)⟩
theorem ck_X9_121 : pCV RX9 121 yX9_bestAt cX9_bestAt 7 (some .boolean) 2 := ⟨mt_X9_bestAt, PT_t 770 (by decide +kernel) rfl, PT_t 772 (by decide +kernel) rfl, PT_sel (i := 21) (q := (yX9_bestAt, 20)) (by decide +kernel)⟩
theorem ck_X9_98 : pCV RX9 98 yX9_startsLine cX9_startsLine 3 none 1 := ⟨mt_X9_startsLine, PT_t 774 (by decide +kernel) rfl, PT_t 776 (by decide +kernel) rfl, PT_sel (i := 22) (q := (yX9_startsLine, 20)) (by decide +kernel)⟩
theorem ck_X9_101 : pCV RX9 101 yX9_goesOn cX9_goesOn 6 none 2 := ⟨mt_X9_goesOn, PT_t 778 (by decide +kernel) rfl, PT_t 780 (by decide +kernel) rfl, PT_sel (i := 23) (q := (yX9_goesOn, 20)) (by decide +kernel)⟩
theorem ck_X9_111 : pCV RX9 111 yX9_scored cX9_scored 6 (some .int) 4 := ⟨mt_X9_scored, PT_t 782 (by decide +kernel) rfl, PT_t 784 (by decide +kernel) rfl, PT_sel (i := 24) (q := (yX9_scored, 20)) (by decide +kernel)⟩
theorem ck_X9_105 : pCV RX9 105 yX9_before cX9_before 5 (some .int) 2 := ⟨mt_X9_before, PT_t 786 (by decide +kernel) rfl, PT_t 788 (by decide +kernel) rfl, PT_sel (i := 25) (q := (yX9_before, 20)) (by decide +kernel)⟩
theorem ck_X9_108 : pCV RX9 108 yX9_behind cX9_behind 4 (some .int) 2 := ⟨mt_X9_behind, PT_t 790 (by decide +kernel) rfl, PT_t 792 (by decide +kernel) rfl, PT_sel (i := 26) (q := (yX9_behind, 20)) (by decide +kernel)⟩
theorem ck_X9_137 : pCV RX9 137 yX9_attaches cX9_attaches 4 none 3 := ⟨mt_X9_attaches, PT_t 794 (by decide +kernel) rfl, PT_t 796 (by decide +kernel) rfl, PT_sel (i := 27) (q := (yX9_attaches, 20)) (by decide +kernel)⟩
theorem ck_L_55 : pCV RL 55 yX9_attachAll cX9_attachAll 5 (some .int) 0 := ⟨mt_X9_attachAll, PT_t 798 (by decide +kernel) rfl, PT_t 799 (by decide +kernel) rfl, PT_t 800 (by decide +kernel) rfl⟩
theorem ck_X9_147 : pCV RX9 147 yX9_findOrder cX9_findOrder 3 none 0 := ⟨mt_X9_findOrder, PT_t 802 (by decide +kernel) rfl, PT_t 804 (by decide +kernel) rfl, PT_sel (i := 28) (q := (yX9_findOrder, 20)) (by decide +kernel)⟩
theorem ck_X9_150 : pCV RX9 150 yX9_findScores cX9_findScores 4 none 0 := ⟨mt_X9_findScores, PT_t 806 (by decide +kernel) rfl, PT_t 808 (by decide +kernel) rfl, PT_sel (i := 29) (q := (yX9_findScores, 20)) (by decide +kernel)⟩
theorem ck_X9_153 : pCV RX9 153 yX9_findSums cX9_findSums 6 none 0 := ⟨mt_X9_findSums, PT_t 810 (by decide +kernel) rfl, PT_t 812 (by decide +kernel) rfl, PT_sel (i := 30) (q := (yX9_findSums, 20)) (by decide +kernel)⟩
theorem ck_X9_144 : pCV RX9 144 yX9_worth cX9_worth 4 (some .int) 2 := ⟨mt_X9_worth, PT_t 814 (by decide +kernel) rfl, PT_t 816 (by decide +kernel) rfl, PT_sel (i := 31) (q := (yX9_worth, 20)) (by decide +kernel)⟩
theorem ck_X9_156 : pCV RX9 156 yX9_chosen cX9_chosen 6 (some .int) 2 := ⟨mt_X9_chosen, PT_t 818 (by decide +kernel) rfl, PT_t 820 (by decide +kernel) rfl, PT_sel (i := 32) (q := (yX9_chosen, 20)) (by decide +kernel)⟩
theorem ck_L_59 : pCV RL 59 yX9_merge cX9_merge 4 (some .int) 0 := ⟨mt_X9_merge, PT_t 822 (by decide +kernel) rfl, PT_t 823 (by decide +kernel) rfl, PT_t 824 (by decide +kernel) rfl⟩
theorem ck_X9_159 : pCV RX9 159 yX9_isLike cX9_isLike 4 (some .boolean) 2 := ⟨mt_X9_isLike, PT_t 826 (by decide +kernel) rfl, PT_t 828 (by decide +kernel) rfl, PT_sel (i := 33) (q := (yX9_isLike, 20)) (by decide +kernel)⟩
theorem ck_L_63 : pCV RL 63 yX9_undo cX9_undo 1 (some .int) 0 := ⟨mt_X9_undo, PT_t 830 (by decide +kernel) rfl, PT_t 831 (by decide +kernel) rfl, PT_t 832 (by decide +kernel) rfl⟩
theorem ck_L_67 : pCV RL 67 yX9_length cX9_length 1 (some .int) 0 := ⟨mt_X9_length, PT_t 834 (by decide +kernel) rfl, PT_t 835 (by decide +kernel) rfl, PT_t 836 (by decide +kernel) rfl⟩
theorem ck_L_71 : pCV RL 71 yX9_letter cX9_letter 2 (some .int) 1 := ⟨mt_X9_letter, PT_t 838 (by decide +kernel) rfl, PT_t 839 (by decide +kernel) rfl, PT_t 840 (by decide +kernel) rfl⟩
theorem ck_X9_162 : pCV RX9 162 yX9_isLetter cX9_isLetter 2 (some .boolean) 1 := ⟨mt_X9_isLetter, PT_t 842 (by decide +kernel) rfl, PT_t 844 (by decide +kernel) rfl, PT_sel (i := 34) (q := (yX9_isLetter, 20)) (by decide +kernel)⟩
theorem ck_L_75 : pCV RL 75 yX9_comments cX9_comments 1 (some .int) 0 := ⟨mt_X9_comments, PT_t 846 (by decide +kernel) rfl, PT_t 847 (by decide +kernel) rfl, PT_t 848 (by decide +kernel) rfl⟩
theorem ck_L_79 : pCV RL 79 yX9_commentAt cX9_commentAt 2 (some .int) 1 := ⟨mt_X9_commentAt, PT_t 850 (by decide +kernel) rfl, PT_t 851 (by decide +kernel) rfl, PT_t 852 (by decide +kernel) rfl⟩
theorem ck_L_83 : pCV RL 83 yX9_state cX9_state 2 (some .int) 1 := ⟨mt_X9_state, PT_t 854 (by decide +kernel) rfl, PT_t 855 (by decide +kernel) rfl, PT_t 856 (by decide +kernel) rfl⟩
theorem ck_X9_165 : pCV RX9 165 yX9_of cX9_of 4 (some .int) 2 := ⟨mt_X9_of, PT_t 858 (by decide +kernel) rfl, PT_t 860 (by decide +kernel) rfl, PT_sel (i := 35) (q := (yX9_of, 20)) (by decide +kernel)⟩
theorem ck_L_88 : pCV RL 88 yX9_range cX9_range 3 (some .int) 2 := ⟨mt_X9_range, PT_t 862 (by decide +kernel) rfl, PT_t 863 (by decide +kernel) rfl, PT_t 864 (by decide +kernel) rfl⟩
theorem ck_L_92 : pCV RL 92 yX9_weight cX9_weight 2 (some .int) 1 := ⟨mt_X9_weight, PT_t 866 (by decide +kernel) rfl, PT_t 867 (by decide +kernel) rfl, PT_t 868 (by decide +kernel) rfl⟩
theorem ck_L_97 : pCV RL 97 yX9_quoted cX9_quoted 6 (some .int) 3 := ⟨mt_X9_quoted, PT_t 870 (by decide +kernel) rfl, PT_t 871 (by decide +kernel) rfl, PT_t 872 (by decide +kernel) rfl⟩
theorem ck_L_101 : pCV RL 101 yX9_distance cX9_distance 3 (some .int) 1 := ⟨mt_X9_distance, PT_t 874 (by decide +kernel) rfl, PT_t 875 (by decide +kernel) rfl, PT_t 876 (by decide +kernel) rfl⟩
theorem ck_X9_168 : pCV RX9 168 yX9_distanceOf cX9_distanceOf 5 (some .int) 3 := ⟨mt_X9_distanceOf, PT_t 878 (by decide +kernel) rfl, PT_t 880 (by decide +kernel) rfl, PT_sel (i := 36) (q := (yX9_distanceOf, 20)) (by decide +kernel)⟩
theorem ck_L_105 : pCV RL 105 yX9_score cX9_score 5 (some .int) 3 := ⟨mt_X9_score, PT_t 882 (by decide +kernel) rfl, PT_t 883 (by decide +kernel) rfl, PT_t 884 (by decide +kernel) rfl⟩
theorem ck_L_109 : pCV RL 109 yX9_best cX9_best 4 (some .int) 2 := ⟨mt_X9_best, PT_t 886 (by decide +kernel) rfl, PT_t 887 (by decide +kernel) rfl, PT_t 888 (by decide +kernel) rfl⟩
theorem ck_L_113 : pCV RL 113 yX9_overlap cX9_overlap 7 (some .int) 2 := ⟨mt_X9_overlap, PT_t 890 (by decide +kernel) rfl, PT_t 891 (by decide +kernel) rfl, PT_t 892 (by decide +kernel) rfl⟩
theorem ck_L_117 : pCV RL 117 yX9_covering cX9_covering 6 (some .int) 2 := ⟨mt_X9_covering, PT_t 894 (by decide +kernel) rfl, PT_t 895 (by decide +kernel) rfl, PT_t 896 (by decide +kernel) rfl⟩
theorem ck_X9_171 : pCV RX9 171 yX9_covers cX9_covers 3 (some .boolean) 2 := ⟨mt_X9_covers, PT_t 898 (by decide +kernel) rfl, PT_t 900 (by decide +kernel) rfl, PT_sel (i := 37) (q := (yX9_covers, 20)) (by decide +kernel)⟩
theorem ck_X9_174 : pCV RX9 174 yX9_isBefore cX9_isBefore 3 (some .boolean) 2 := ⟨mt_X9_isBefore, PT_t 902 (by decide +kernel) rfl, PT_t 904 (by decide +kernel) rfl, PT_sel (i := 38) (q := (yX9_isBefore, 20)) (by decide +kernel)⟩
theorem ck_L_121 : pCV RL 121 yX9_setThreshold cX9_setThreshold 3 (some .int) 1 := ⟨mt_X9_setThreshold, PT_t 906 (by decide +kernel) rfl, PT_t 907 (by decide +kernel) rfl, PT_t 908 (by decide +kernel) rfl⟩
theorem ck_L_125 : pCV RL 125 yX9_save cX9_save 2 (some .int) 1 := ⟨mt_X9_save, PT_t 910 (by decide +kernel) rfl, PT_t 911 (by decide +kernel) rfl, PT_t 912 (by decide +kernel) rfl⟩
theorem ck_L_129 : pCV RL 129 yX9_restore cX9_restore 2 (some .int) 1 := ⟨mt_X9_restore, PT_t 914 (by decide +kernel) rfl, PT_t 915 (by decide +kernel) rfl, PT_t 916 (by decide +kernel) rfl⟩
theorem ck_L_134 : pCV RL 134 yX9_checksum cX9_checksum 5 (some .long) 0 := ⟨mt_X9_checksum, PT_t 918 (by decide +kernel) rfl, PT_t 919 (by decide +kernel) rfl, PT_t 920 (by decide +kernel) rfl⟩
theorem ck_X9_179 : pCS RX9 179 yX9_more cX9_more 3 (some .long) 2 := ⟨mt_X9_more, PT_t 923 (by decide +kernel) rfl, PT_t 924 (by decide +kernel) rfl⟩
theorem ck_X9_185 : pCV RX9 185 yX9_moreOfPart cX9_moreOfPart 8 (some .long) 3 := ⟨mt_X9_moreOfPart, PT_t 927 (by decide +kernel) rfl, PT_t 929 (by decide +kernel) rfl, PT_sel (i := 39) (q := (yX9_moreOfPart, 20)) (by decide +kernel)⟩
theorem kc_L_7 : Cond.classLink RL 7 RX8 ∈ PT := PT_t 12 (by decide +kernel) rfl
theorem kc_X8_7 : Cond.classLink RX8 7 RX7 ∈ PT := PT_t 20 (by decide +kernel) rfl
theorem kc_X8_18 : Cond.classLink RX8 18 RX4 ∈ PT := PT_t 43 (by decide +kernel) rfl
theorem kc_X4_9 : Cond.classLink RX4 9 RX7 ∈ PT := PT_t 49 (by decide +kernel) rfl
theorem kc_X4_20 : Cond.classLink RX4 20 RX3 ∈ PT := PT_t 51 (by decide +kernel) rfl
theorem kc_X3_9 : Cond.classLink RX3 9 RX7 ∈ PT := PT_t 58 (by decide +kernel) rfl
theorem kc_X8_25 : Cond.classLink RX8 25 RX2 ∈ PT := PT_t 116 (by decide +kernel) rfl
theorem kc_X2_9 : Cond.classLink RX2 9 RX4 ∈ PT := PT_t 122 (by decide +kernel) rfl
theorem kc_X8_32 : Cond.classLink RX8 32 RX6 ∈ PT := PT_t 133 (by decide +kernel) rfl
theorem kc_X6_7 : Cond.classLink RX6 7 RX4 ∈ PT := PT_t 139 (by decide +kernel) rfl
theorem kc_X8_42 : Cond.classLink RX8 42 RX1 ∈ PT := PT_t 152 (by decide +kernel) rfl
theorem kc_X8_49 : Cond.classLink RX8 49 RX5 ∈ PT := PT_t 178 (by decide +kernel) rfl
theorem kc_X5_9 : Cond.classLink RX5 9 RX3 ∈ PT := PT_t 184 (by decide +kernel) rfl
theorem kc_X5_17 : Cond.classLink RX5 17 RX0 ∈ PT := PT_t 185 (by decide +kernel) rfl
theorem kc_L_10 : Cond.classLink RL 10 RX9 ∈ PT := PT_t 619 (by decide +kernel) rfl
theorem ki_X0 : Cond.instantiable RX0 4 ∈ PT := PT_t 188 (by decide +kernel) rfl
theorem kn_X0 {own : String} {idx : Nat} (h : Cond.classLink own idx RX0 ∈ PT) : pNw own idx 0 (RX0, TX0, 4) [.null, .null, .null, .int 0] := ⟨rfl, cl_X0, ⟨tyX0, tyX0_ok, by decide +kernel⟩, h, ki_X0, PT_t 10 (by decide +kernel) rfl⟩
theorem ki_X1 : Cond.instantiable RX1 5 ∈ PT := PT_t 153 (by decide +kernel) rfl
theorem kn_X1 {own : String} {idx : Nat} (h : Cond.classLink own idx RX1 ∈ PT) : pNw own idx 1 (RX1, TX1, 5) [.null, .int 0, .int 0, .int 0, .int 0] := ⟨rfl, cl_X1, ⟨tyX1, tyX1_ok, by decide +kernel⟩, h, ki_X1, PT_t 8 (by decide +kernel) rfl⟩
theorem ki_X2 : Cond.instantiable RX2 2 ∈ PT := PT_t 117 (by decide +kernel) rfl
theorem kn_X2 {own : String} {idx : Nat} (h : Cond.classLink own idx RX2 ∈ PT) : pNw own idx 2 (RX2, TX2, 2) [.null, .int 0] := ⟨rfl, cl_X2, ⟨tyX2, tyX2_ok, by decide +kernel⟩, h, ki_X2, PT_t 6 (by decide +kernel) rfl⟩
theorem ki_X3 : Cond.instantiable RX3 8 ∈ PT := PT_t 53 (by decide +kernel) rfl
theorem kn_X3 {own : String} {idx : Nat} (h : Cond.classLink own idx RX3 ∈ PT) : pNw own idx 3 (RX3, TX3, 8) [.null, .null, .null, .int 0, .int 0, .int 0, .int 0, .int 0] := ⟨rfl, cl_X3, ⟨tyX3, tyX3_ok, by decide +kernel⟩, h, ki_X3, PT_t 5 (by decide +kernel) rfl⟩
theorem ki_X4 : Cond.instantiable RX4 4 ∈ PT := PT_t 44 (by decide +kernel) rfl
theorem kn_X4 {own : String} {idx : Nat} (h : Cond.classLink own idx RX4 ∈ PT) : pNw own idx 4 (RX4, TX4, 4) [.null, .null, .int 0, .int 0] := ⟨rfl, cl_X4, ⟨tyX4, tyX4_ok, by decide +kernel⟩, h, ki_X4, PT_t 4 (by decide +kernel) rfl⟩
theorem ki_X5 : Cond.instantiable RX5 3 ∈ PT := PT_t 179 (by decide +kernel) rfl
theorem kn_X5 {own : String} {idx : Nat} (h : Cond.classLink own idx RX5 ∈ PT) : pNw own idx 5 (RX5, TX5, 3) [.null, .null, .int 0] := ⟨rfl, cl_X5, ⟨tyX5, tyX5_ok, by decide +kernel⟩, h, ki_X5, PT_t 9 (by decide +kernel) rfl⟩
theorem ki_X6 : Cond.instantiable RX6 3 ∈ PT := PT_t 134 (by decide +kernel) rfl
theorem kn_X6 {own : String} {idx : Nat} (h : Cond.classLink own idx RX6 ∈ PT) : pNw own idx 6 (RX6, TX6, 3) [.null, .int 0, .int 0] := ⟨rfl, cl_X6, ⟨tyX6, tyX6_ok, by decide +kernel⟩, h, ki_X6, PT_t 7 (by decide +kernel) rfl⟩
theorem ki_X7 : Cond.instantiable RX7 2 ∈ PT := PT_t 21 (by decide +kernel) rfl
theorem kn_X7 {own : String} {idx : Nat} (h : Cond.classLink own idx RX7 ∈ PT) : pNw own idx 7 (RX7, TX7, 2) [.null, .int 0] := ⟨rfl, cl_X7, ⟨tyX7, tyX7_ok, by decide +kernel⟩, h, ki_X7, PT_t 2 (by decide +kernel) rfl⟩
theorem ki_X8 : Cond.instantiable RX8 8 ∈ PT := PT_t 13 (by decide +kernel) rfl
theorem kn_X8 {own : String} {idx : Nat} (h : Cond.classLink own idx RX8 ∈ PT) : pNw own idx 8 (RX8, TX8, 8) [.null, .null, .null, .null, .null, .null, .null, .int 0] := ⟨rfl, cl_X8, ⟨tyX8, tyX8_ok, by decide +kernel⟩, h, ki_X8, PT_t 1 (by decide +kernel) rfl⟩
theorem ki_X9 : Cond.instantiable RX9 20 ∈ PT := PT_t 620 (by decide +kernel) rfl
theorem kn_X9 {own : String} {idx : Nat} (h : Cond.classLink own idx RX9 ∈ PT) : pNw own idx 9 (RX9, TX9, 20) [.null, .null, .null, .int 0, .null, .null, .int 0, .null, .int 0, .null, .int 0, .int 0, .int 0, .int 0, .int 0, .null, .int 0, .null, .null, .null] := ⟨rfl, cl_X9, ⟨tyX9, tyX9_ok, by decide +kernel⟩, h, ki_X9, PT_t 11 (by decide +kernel) rfl⟩
theorem ka_int : Cond.arrayClass .int ∈ PT := PT_t 42 (by decide +kernel) rfl
theorem ka_boolean : Cond.arrayClass .boolean ∈ PT := PT_t 686 (by decide +kernel) rfl
theorem ko_X3 : Cond.arrayOver (.object RX3) ∈ PN := PN_t 52 (by decide +kernel) rfl
theorem ko_X4 : Cond.arrayOver (.object RX4) ∈ PN := PN_t 123 (by decide +kernel) rfl
theorem ko_X0 : Cond.arrayOver (.object RX0) ∈ PN := PN_t 186 (by decide +kernel) rfl
theorem kl_X8_220 : Cond.constantLong RX8 220 (61 : Int64) ∈ PT := PT_t 607 (by decide +kernel) rfl
theorem kl_X8_234 : Cond.constantLong RX8 234 (31 : Int64) ∈ PT := PT_t 611 (by decide +kernel) rfl
theorem kl_X9_183 : Cond.constantLong RX9 183 (61 : Int64) ∈ PT := PT_t 922 (by decide +kernel) rfl
theorem kl_X9_177 : Cond.constantLong RX9 177 (31 : Int64) ∈ PT := PT_t 926 (by decide +kernel) rfl
end
section
theorem dX0_init_0 : decode cX0_init 0 = .ok (.aload_n 0, 1) := by decide +kernel
theorem dX0_init_1 : decode cX0_init 1 = .ok (.invokespecial 3, 3) := by decide +kernel
theorem dX0_init_4 : decode cX0_init 4 = .ok (.aload_n 0, 1) := by decide +kernel
theorem dX0_init_5 : decode cX0_init 5 = .ok (.bipush 120, 2) := by decide +kernel
theorem dX0_init_7 : decode cX0_init 7 = .ok (.newarray .int, 2) := by decide +kernel
theorem dX0_init_9 : decode cX0_init 9 = .ok (.putfield 9, 3) := by decide +kernel
theorem dX0_init_12 : decode cX0_init 12 = .ok (.aload_n 0, 1) := by decide +kernel
theorem dX0_init_13 : decode cX0_init 13 = .ok (.bipush 120, 2) := by decide +kernel
theorem dX0_init_15 : decode cX0_init 15 = .ok (.newarray .int, 2) := by decide +kernel
theorem dX0_init_17 : decode cX0_init 17 = .ok (.putfield 15, 3) := by decide +kernel
theorem dX0_init_20 : decode cX0_init 20 = .ok (.aload_n 0, 1) := by decide +kernel
theorem dX0_init_21 : decode cX0_init 21 = .ok (.bipush 121, 2) := by decide +kernel
theorem dX0_init_23 : decode cX0_init 23 = .ok (.newarray .int, 2) := by decide +kernel
theorem dX0_init_25 : decode cX0_init 25 = .ok (.putfield 18, 3) := by decide +kernel
theorem dX0_init_28 : decode cX0_init 28 = .ok (.return_, 1) := by decide +kernel
theorem dX0_weigh_0 : decode cX0_weigh 0 = .ok (.aload_n 0, 1) := by decide +kernel
theorem dX0_weigh_1 : decode cX0_weigh 1 = .ok (.aload_n 2, 1) := by decide +kernel
theorem dX0_weigh_2 : decode cX0_weigh 2 = .ok (.getfield 21, 3) := by decide +kernel
theorem dX0_weigh_5 : decode cX0_weigh 5 = .ok (.aload_n 0, 1) := by decide +kernel
theorem dX0_weigh_6 : decode cX0_weigh 6 = .ok (.getfield 9, 3) := by decide +kernel
theorem dX0_weigh_9 : decode cX0_weigh 9 = .ok (.arraylength, 1) := by decide +kernel
theorem dX0_weigh_10 : decode cX0_weigh 10 = .ok (.invokestatic 27, 3) := by decide +kernel
theorem dX0_weigh_13 : decode cX0_weigh 13 = .ok (.putfield 33, 3) := by decide +kernel
theorem dX0_weigh_16 : decode cX0_weigh 16 = .ok (.iconst 0, 1) := by decide +kernel
theorem dX0_weigh_17 : decode cX0_weigh 17 = .ok (.istore 5, 2) := by decide +kernel
theorem dX0_weigh_19 : decode cX0_weigh 19 = .ok (.iload 5, 2) := by decide +kernel
theorem dX0_weigh_21 : decode cX0_weigh 21 = .ok (.aload_n 0, 1) := by decide +kernel
theorem dX0_weigh_22 : decode cX0_weigh 22 = .ok (.getfield 33, 3) := by decide +kernel
theorem dX0_weigh_25 : decode cX0_weigh 25 = .ok (.if_icmp .ge 53, 3) := by decide +kernel
theorem dX0_weigh_28 : decode cX0_weigh 28 = .ok (.aload 4, 2) := by decide +kernel
theorem dX0_weigh_30 : decode cX0_weigh 30 = .ok (.aload_n 1, 1) := by decide +kernel
theorem dX0_weigh_31 : decode cX0_weigh 31 = .ok (.aload_n 2, 1) := by decide +kernel
theorem dX0_weigh_32 : decode cX0_weigh 32 = .ok (.iload 5, 2) := by decide +kernel
theorem dX0_weigh_34 : decode cX0_weigh 34 = .ok (.invokevirtual 34, 3) := by decide +kernel
theorem dX0_weigh_37 : decode cX0_weigh 37 = .ok (.istore 6, 2) := by decide +kernel
theorem dX0_weigh_39 : decode cX0_weigh 39 = .ok (.aload_n 0, 1) := by decide +kernel
theorem dX0_weigh_40 : decode cX0_weigh 40 = .ok (.getfield 9, 3) := by decide +kernel
theorem dX0_weigh_43 : decode cX0_weigh 43 = .ok (.iload 5, 2) := by decide +kernel
theorem dX0_weigh_45 : decode cX0_weigh 45 = .ok (.iload 6, 2) := by decide +kernel
theorem dX0_weigh_47 : decode cX0_weigh 47 = .ok (.iload_n 3, 1) := by decide +kernel
theorem dX0_weigh_48 : decode cX0_weigh 48 = .ok (.if_icmp .ge 9, 3) := by decide +kernel
theorem dX0_weigh_51 : decode cX0_weigh 51 = .ok (.sipush (-1005), 3) := by decide +kernel
theorem dX0_weigh_54 : decode cX0_weigh 54 = .ok (.goto 5, 3) := by decide +kernel
theorem dX0_weigh_57 : decode cX0_weigh 57 = .ok (.iload 6, 2) := by decide +kernel
theorem dX0_weigh_59 : decode cX0_weigh 59 = .ok (.iastore, 1) := by decide +kernel
theorem dX0_weigh_60 : decode cX0_weigh 60 = .ok (.aload_n 0, 1) := by decide +kernel
theorem dX0_weigh_61 : decode cX0_weigh 61 = .ok (.getfield 15, 3) := by decide +kernel
theorem dX0_weigh_64 : decode cX0_weigh 64 = .ok (.iload 5, 2) := by decide +kernel
theorem dX0_weigh_66 : decode cX0_weigh 66 = .ok (.aload 4, 2) := by decide +kernel
theorem dX0_weigh_68 : decode cX0_weigh 68 = .ok (.getfield 40, 3) := by decide +kernel
theorem dX0_weigh_71 : decode cX0_weigh 71 = .ok (.iastore, 1) := by decide +kernel
theorem dX0_weigh_72 : decode cX0_weigh 72 = .ok (.iinc 5 1, 3) := by decide +kernel
theorem dX0_weigh_75 : decode cX0_weigh 75 = .ok (.goto (-56), 3) := by decide +kernel
theorem dX0_weigh_78 : decode cX0_weigh 78 = .ok (.return_, 1) := by decide +kernel
theorem dX0_beNothing_0 : decode cX0_beNothing 0 = .ok (.aload_n 0, 1) := by decide +kernel
theorem dX0_beNothing_1 : decode cX0_beNothing 1 = .ok (.iconst 0, 1) := by decide +kernel
theorem dX0_beNothing_2 : decode cX0_beNothing 2 = .ok (.putfield 33, 3) := by decide +kernel
theorem dX0_beNothing_5 : decode cX0_beNothing 5 = .ok (.iconst 0, 1) := by decide +kernel
theorem dX0_beNothing_6 : decode cX0_beNothing 6 = .ok (.istore_n 1, 1) := by decide +kernel
theorem dX0_beNothing_7 : decode cX0_beNothing 7 = .ok (.iload_n 1, 1) := by decide +kernel
theorem dX0_beNothing_8 : decode cX0_beNothing 8 = .ok (.aload_n 0, 1) := by decide +kernel
theorem dX0_beNothing_9 : decode cX0_beNothing 9 = .ok (.getfield 18, 3) := by decide +kernel
theorem dX0_beNothing_12 : decode cX0_beNothing 12 = .ok (.arraylength, 1) := by decide +kernel
theorem dX0_beNothing_13 : decode cX0_beNothing 13 = .ok (.if_icmp .ge 16, 3) := by decide +kernel
theorem dX0_beNothing_16 : decode cX0_beNothing 16 = .ok (.aload_n 0, 1) := by decide +kernel
theorem dX0_beNothing_17 : decode cX0_beNothing 17 = .ok (.getfield 18, 3) := by decide +kernel
theorem dX0_beNothing_20 : decode cX0_beNothing 20 = .ok (.iload_n 1, 1) := by decide +kernel
theorem dX0_beNothing_21 : decode cX0_beNothing 21 = .ok (.iconst 0, 1) := by decide +kernel
theorem dX0_beNothing_22 : decode cX0_beNothing 22 = .ok (.iastore, 1) := by decide +kernel
theorem dX0_beNothing_23 : decode cX0_beNothing 23 = .ok (.iinc 1 1, 3) := by decide +kernel
theorem dX0_beNothing_26 : decode cX0_beNothing 26 = .ok (.goto (-19), 3) := by decide +kernel
theorem dX0_beNothing_29 : decode cX0_beNothing 29 = .ok (.return_, 1) := by decide +kernel
theorem dX0_addUp_0 : decode cX0_addUp 0 = .ok (.iconst 0, 1) := by decide +kernel
theorem dX0_addUp_1 : decode cX0_addUp 1 = .ok (.istore_n 2, 1) := by decide +kernel
theorem dX0_addUp_2 : decode cX0_addUp 2 = .ok (.aload_n 0, 1) := by decide +kernel
theorem dX0_addUp_3 : decode cX0_addUp 3 = .ok (.getfield 18, 3) := by decide +kernel
theorem dX0_addUp_6 : decode cX0_addUp 6 = .ok (.arraylength, 1) := by decide +kernel
theorem dX0_addUp_7 : decode cX0_addUp 7 = .ok (.iconst 1, 1) := by decide +kernel
theorem dX0_addUp_8 : decode cX0_addUp 8 = .ok (.isub, 1) := by decide +kernel
theorem dX0_addUp_9 : decode cX0_addUp 9 = .ok (.istore_n 3, 1) := by decide +kernel
theorem dX0_addUp_10 : decode cX0_addUp 10 = .ok (.iload_n 3, 1) := by decide +kernel
theorem dX0_addUp_11 : decode cX0_addUp 11 = .ok (.ifCond .lt 63, 3) := by decide +kernel
theorem dX0_addUp_14 : decode cX0_addUp 14 = .ok (.iload_n 2, 1) := by decide +kernel
theorem dX0_addUp_15 : decode cX0_addUp 15 = .ok (.aload_n 1, 1) := by decide +kernel
theorem dX0_addUp_16 : decode cX0_addUp 16 = .ok (.iload_n 3, 1) := by decide +kernel
theorem dX0_addUp_17 : decode cX0_addUp 17 = .ok (.invokevirtual 43, 3) := by decide +kernel
theorem dX0_addUp_20 : decode cX0_addUp 20 = .ok (.invokestatic 47, 3) := by decide +kernel
theorem dX0_addUp_23 : decode cX0_addUp 23 = .ok (.istore_n 2, 1) := by decide +kernel
theorem dX0_addUp_24 : decode cX0_addUp 24 = .ok (.iload_n 3, 1) := by decide +kernel
theorem dX0_addUp_25 : decode cX0_addUp 25 = .ok (.aload_n 0, 1) := by decide +kernel
theorem dX0_addUp_26 : decode cX0_addUp 26 = .ok (.getfield 33, 3) := by decide +kernel
theorem dX0_addUp_29 : decode cX0_addUp 29 = .ok (.if_icmp .ge 32, 3) := by decide +kernel
theorem dX0_addUp_32 : decode cX0_addUp 32 = .ok (.aload_n 0, 1) := by decide +kernel
theorem dX0_addUp_33 : decode cX0_addUp 33 = .ok (.getfield 9, 3) := by decide +kernel
theorem dX0_addUp_36 : decode cX0_addUp 36 = .ok (.iload_n 3, 1) := by decide +kernel
theorem dX0_addUp_37 : decode cX0_addUp 37 = .ok (.iaload, 1) := by decide +kernel
theorem dX0_addUp_38 : decode cX0_addUp 38 = .ok (.sipush (-1005), 3) := by decide +kernel
theorem dX0_addUp_41 : decode cX0_addUp 41 = .ok (.if_icmp .eq 20, 3) := by decide +kernel
theorem dX0_addUp_44 : decode cX0_addUp 44 = .ok (.iload_n 2, 1) := by decide +kernel
theorem dX0_addUp_45 : decode cX0_addUp 45 = .ok (.aload_n 0, 1) := by decide +kernel
theorem dX0_addUp_46 : decode cX0_addUp 46 = .ok (.getfield 9, 3) := by decide +kernel
theorem dX0_addUp_49 : decode cX0_addUp 49 = .ok (.iload_n 3, 1) := by decide +kernel
theorem dX0_addUp_50 : decode cX0_addUp 50 = .ok (.iaload, 1) := by decide +kernel
theorem dX0_addUp_51 : decode cX0_addUp 51 = .ok (.aload_n 1, 1) := by decide +kernel
theorem dX0_addUp_52 : decode cX0_addUp 52 = .ok (.iload_n 3, 1) := by decide +kernel
theorem dX0_addUp_53 : decode cX0_addUp 53 = .ok (.invokevirtual 43, 3) := by decide +kernel
theorem dX0_addUp_56 : decode cX0_addUp 56 = .ok (.iadd, 1) := by decide +kernel
theorem dX0_addUp_57 : decode cX0_addUp 57 = .ok (.invokestatic 47, 3) := by decide +kernel
theorem dX0_addUp_60 : decode cX0_addUp 60 = .ok (.istore_n 2, 1) := by decide +kernel
theorem dX0_addUp_61 : decode cX0_addUp 61 = .ok (.aload_n 0, 1) := by decide +kernel
theorem dX0_addUp_62 : decode cX0_addUp 62 = .ok (.getfield 18, 3) := by decide +kernel
theorem dX0_addUp_65 : decode cX0_addUp 65 = .ok (.iload_n 3, 1) := by decide +kernel
theorem dX0_addUp_66 : decode cX0_addUp 66 = .ok (.iload_n 2, 1) := by decide +kernel
theorem dX0_addUp_67 : decode cX0_addUp 67 = .ok (.iastore, 1) := by decide +kernel
theorem dX0_addUp_68 : decode cX0_addUp 68 = .ok (.iinc 3 (-1), 3) := by decide +kernel
theorem dX0_addUp_71 : decode cX0_addUp 71 = .ok (.goto (-61), 3) := by decide +kernel
theorem dX0_addUp_74 : decode cX0_addUp 74 = .ok (.return_, 1) := by decide +kernel
theorem dX0_sumFrom_0 : decode cX0_sumFrom 0 = .ok (.iload_n 1, 1) := by decide +kernel
theorem dX0_sumFrom_1 : decode cX0_sumFrom 1 = .ok (.ifCond .lt 21, 3) := by decide +kernel
theorem dX0_sumFrom_4 : decode cX0_sumFrom 4 = .ok (.iload_n 1, 1) := by decide +kernel
theorem dX0_sumFrom_5 : decode cX0_sumFrom 5 = .ok (.aload_n 0, 1) := by decide +kernel
theorem dX0_sumFrom_6 : decode cX0_sumFrom 6 = .ok (.getfield 18, 3) := by decide +kernel
theorem dX0_sumFrom_9 : decode cX0_sumFrom 9 = .ok (.arraylength, 1) := by decide +kernel
theorem dX0_sumFrom_10 : decode cX0_sumFrom 10 = .ok (.if_icmp .ge 12, 3) := by decide +kernel
theorem dX0_sumFrom_13 : decode cX0_sumFrom 13 = .ok (.aload_n 0, 1) := by decide +kernel
theorem dX0_sumFrom_14 : decode cX0_sumFrom 14 = .ok (.getfield 18, 3) := by decide +kernel
theorem dX0_sumFrom_17 : decode cX0_sumFrom 17 = .ok (.iload_n 1, 1) := by decide +kernel
theorem dX0_sumFrom_18 : decode cX0_sumFrom 18 = .ok (.iaload, 1) := by decide +kernel
theorem dX0_sumFrom_19 : decode cX0_sumFrom 19 = .ok (.goto 4, 3) := by decide +kernel
theorem dX0_sumFrom_22 : decode cX0_sumFrom 22 = .ok (.iconst 0, 1) := by decide +kernel
theorem dX0_sumFrom_23 : decode cX0_sumFrom 23 = .ok (.ireturn, 1) := by decide +kernel
theorem dX0_endAt_0 : decode cX0_endAt 0 = .ok (.iload_n 1, 1) := by decide +kernel
theorem dX0_endAt_1 : decode cX0_endAt 1 = .ok (.ifCond .lt 21, 3) := by decide +kernel
theorem dX0_endAt_4 : decode cX0_endAt 4 = .ok (.iload_n 1, 1) := by decide +kernel
theorem dX0_endAt_5 : decode cX0_endAt 5 = .ok (.aload_n 0, 1) := by decide +kernel
theorem dX0_endAt_6 : decode cX0_endAt 6 = .ok (.getfield 15, 3) := by decide +kernel
theorem dX0_endAt_9 : decode cX0_endAt 9 = .ok (.arraylength, 1) := by decide +kernel
theorem dX0_endAt_10 : decode cX0_endAt 10 = .ok (.if_icmp .ge 12, 3) := by decide +kernel
theorem dX0_endAt_13 : decode cX0_endAt 13 = .ok (.aload_n 0, 1) := by decide +kernel
theorem dX0_endAt_14 : decode cX0_endAt 14 = .ok (.getfield 15, 3) := by decide +kernel
theorem dX0_endAt_17 : decode cX0_endAt 17 = .ok (.iload_n 1, 1) := by decide +kernel
theorem dX0_endAt_18 : decode cX0_endAt 18 = .ok (.iaload, 1) := by decide +kernel
theorem dX0_endAt_19 : decode cX0_endAt 19 = .ok (.goto 6, 3) := by decide +kernel
theorem dX0_endAt_22 : decode cX0_endAt 22 = .ok (.sipush (-1005), 3) := by decide +kernel
theorem dX0_endAt_25 : decode cX0_endAt 25 = .ok (.ireturn, 1) := by decide +kernel
theorem dX0_choose_0 : decode cX0_choose 0 = .ok (.sipush (-1005), 3) := by decide +kernel
theorem dX0_choose_3 : decode cX0_choose 3 = .ok (.istore_n 3, 1) := by decide +kernel
theorem dX0_choose_4 : decode cX0_choose 4 = .ok (.sipush (-1005), 3) := by decide +kernel
theorem dX0_choose_7 : decode cX0_choose 7 = .ok (.istore 4, 2) := by decide +kernel
theorem dX0_choose_9 : decode cX0_choose 9 = .ok (.iconst 0, 1) := by decide +kernel
theorem dX0_choose_10 : decode cX0_choose 10 = .ok (.iload_n 1, 1) := by decide +kernel
theorem dX0_choose_11 : decode cX0_choose 11 = .ok (.invokestatic 47, 3) := by decide +kernel
theorem dX0_choose_14 : decode cX0_choose 14 = .ok (.istore 5, 2) := by decide +kernel
theorem dX0_choose_16 : decode cX0_choose 16 = .ok (.iload 5, 2) := by decide +kernel
theorem dX0_choose_18 : decode cX0_choose 18 = .ok (.aload_n 0, 1) := by decide +kernel
theorem dX0_choose_19 : decode cX0_choose 19 = .ok (.getfield 33, 3) := by decide +kernel
theorem dX0_choose_22 : decode cX0_choose 22 = .ok (.if_icmp .ge 49, 3) := by decide +kernel
theorem dX0_choose_25 : decode cX0_choose 25 = .ok (.aload_n 0, 1) := by decide +kernel
theorem dX0_choose_26 : decode cX0_choose 26 = .ok (.getfield 9, 3) := by decide +kernel
theorem dX0_choose_29 : decode cX0_choose 29 = .ok (.iload 5, 2) := by decide +kernel
theorem dX0_choose_31 : decode cX0_choose 31 = .ok (.iaload, 1) := by decide +kernel
theorem dX0_choose_32 : decode cX0_choose 32 = .ok (.istore 6, 2) := by decide +kernel
theorem dX0_choose_34 : decode cX0_choose 34 = .ok (.iload 6, 2) := by decide +kernel
theorem dX0_choose_36 : decode cX0_choose 36 = .ok (.iload 4, 2) := by decide +kernel
theorem dX0_choose_38 : decode cX0_choose 38 = .ok (.if_icmp .le 27, 3) := by decide +kernel
theorem dX0_choose_41 : decode cX0_choose 41 = .ok (.iload 6, 2) := by decide +kernel
theorem dX0_choose_43 : decode cX0_choose 43 = .ok (.aload_n 2, 1) := by decide +kernel
theorem dX0_choose_44 : decode cX0_choose 44 = .ok (.iload 5, 2) := by decide +kernel
theorem dX0_choose_46 : decode cX0_choose 46 = .ok (.invokevirtual 43, 3) := by decide +kernel
theorem dX0_choose_49 : decode cX0_choose 49 = .ok (.iadd, 1) := by decide +kernel
theorem dX0_choose_50 : decode cX0_choose 50 = .ok (.aload_n 0, 1) := by decide +kernel
theorem dX0_choose_51 : decode cX0_choose 51 = .ok (.iload_n 1, 1) := by decide +kernel
theorem dX0_choose_52 : decode cX0_choose 52 = .ok (.invokevirtual 43, 3) := by decide +kernel
theorem dX0_choose_55 : decode cX0_choose 55 = .ok (.if_icmp .ne 10, 3) := by decide +kernel
theorem dX0_choose_58 : decode cX0_choose 58 = .ok (.iload 6, 2) := by decide +kernel
theorem dX0_choose_60 : decode cX0_choose 60 = .ok (.istore 4, 2) := by decide +kernel
theorem dX0_choose_62 : decode cX0_choose 62 = .ok (.iload 5, 2) := by decide +kernel
theorem dX0_choose_64 : decode cX0_choose 64 = .ok (.istore_n 3, 1) := by decide +kernel
theorem dX0_choose_65 : decode cX0_choose 65 = .ok (.iinc 5 1, 3) := by decide +kernel
theorem dX0_choose_68 : decode cX0_choose 68 = .ok (.goto (-52), 3) := by decide +kernel
theorem dX0_choose_71 : decode cX0_choose 71 = .ok (.iload_n 3, 1) := by decide +kernel
theorem dX0_choose_72 : decode cX0_choose 72 = .ok (.ireturn, 1) := by decide +kernel
theorem dX1_init_0 : decode cX1_init 0 = .ok (.aload_n 0, 1) := by decide +kernel
theorem dX1_init_1 : decode cX1_init 1 = .ok (.invokespecial 3, 3) := by decide +kernel
theorem dX1_init_4 : decode cX1_init 4 = .ok (.aload_n 0, 1) := by decide +kernel
theorem dX1_init_5 : decode cX1_init 5 = .ok (.bipush 17, 2) := by decide +kernel
theorem dX1_init_7 : decode cX1_init 7 = .ok (.newarray .int, 2) := by decide +kernel
theorem dX1_init_9 : decode cX1_init 9 = .ok (.putfield 9, 3) := by decide +kernel
theorem dX1_init_12 : decode cX1_init 12 = .ok (.return_, 1) := by decide +kernel
theorem dX1_distanceTo_0 : decode cX1_distanceTo 0 = .ok (.aload_n 0, 1) := by decide +kernel
theorem dX1_distanceTo_1 : decode cX1_distanceTo 1 = .ok (.invokevirtual 15, 3) := by decide +kernel
theorem dX1_distanceTo_4 : decode cX1_distanceTo 4 = .ok (.iload_n 3, 1) := by decide +kernel
theorem dX1_distanceTo_5 : decode cX1_distanceTo 5 = .ok (.istore 5, 2) := by decide +kernel
theorem dX1_distanceTo_7 : decode cX1_distanceTo 7 = .ok (.iload 5, 2) := by decide +kernel
theorem dX1_distanceTo_9 : decode cX1_distanceTo 9 = .ok (.iload 4, 2) := by decide +kernel
theorem dX1_distanceTo_11 : decode cX1_distanceTo 11 = .ok (.if_icmp .ge 23, 3) := by decide +kernel
theorem dX1_distanceTo_14 : decode cX1_distanceTo 14 = .ok (.aload_n 0, 1) := by decide +kernel
theorem dX1_distanceTo_15 : decode cX1_distanceTo 15 = .ok (.aload_n 1, 1) := by decide +kernel
theorem dX1_distanceTo_16 : decode cX1_distanceTo 16 = .ok (.getfield 18, 3) := by decide +kernel
theorem dX1_distanceTo_19 : decode cX1_distanceTo 19 = .ok (.aload_n 2, 1) := by decide +kernel
theorem dX1_distanceTo_20 : decode cX1_distanceTo 20 = .ok (.iload 5, 2) := by decide +kernel
theorem dX1_distanceTo_22 : decode cX1_distanceTo 22 = .ok (.invokevirtual 24, 3) := by decide +kernel
theorem dX1_distanceTo_25 : decode cX1_distanceTo 25 = .ok (.invokevirtual 30, 3) := by decide +kernel
theorem dX1_distanceTo_28 : decode cX1_distanceTo 28 = .ok (.iinc 5 1, 3) := by decide +kernel
theorem dX1_distanceTo_31 : decode cX1_distanceTo 31 = .ok (.goto (-24), 3) := by decide +kernel
theorem dX1_distanceTo_34 : decode cX1_distanceTo 34 = .ok (.aload_n 0, 1) := by decide +kernel
theorem dX1_distanceTo_35 : decode cX1_distanceTo 35 = .ok (.aload_n 1, 1) := by decide +kernel
theorem dX1_distanceTo_36 : decode cX1_distanceTo 36 = .ok (.getfield 18, 3) := by decide +kernel
theorem dX1_distanceTo_39 : decode cX1_distanceTo 39 = .ok (.invokevirtual 34, 3) := by decide +kernel
theorem dX1_distanceTo_42 : decode cX1_distanceTo 42 = .ok (.ireturn, 1) := by decide +kernel
theorem dX1_search_0 : decode cX1_search 0 = .ok (.aload_n 0, 1) := by decide +kernel
theorem dX1_search_1 : decode cX1_search 1 = .ok (.sipush (-1005), 3) := by decide +kernel
theorem dX1_search_4 : decode cX1_search 4 = .ok (.putfield 38, 3) := by decide +kernel
theorem dX1_search_7 : decode cX1_search 7 = .ok (.aload_n 0, 1) := by decide +kernel
theorem dX1_search_8 : decode cX1_search 8 = .ok (.sipush (-1005), 3) := by decide +kernel
theorem dX1_search_11 : decode cX1_search 11 = .ok (.putfield 42, 3) := by decide +kernel
theorem dX1_search_14 : decode cX1_search 14 = .ok (.aload_n 0, 1) := by decide +kernel
theorem dX1_search_15 : decode cX1_search 15 = .ok (.sipush (-1005), 3) := by decide +kernel
theorem dX1_search_18 : decode cX1_search 18 = .ok (.putfield 45, 3) := by decide +kernel
theorem dX1_search_21 : decode cX1_search 21 = .ok (.iconst 0, 1) := by decide +kernel
theorem dX1_search_22 : decode cX1_search 22 = .ok (.istore_n 3, 1) := by decide +kernel
theorem dX1_search_23 : decode cX1_search 23 = .ok (.iload_n 3, 1) := by decide +kernel
theorem dX1_search_24 : decode cX1_search 24 = .ok (.aload_n 2, 1) := by decide +kernel
theorem dX1_search_25 : decode cX1_search 25 = .ok (.getfield 48, 3) := by decide +kernel
theorem dX1_search_28 : decode cX1_search 28 = .ok (.if_icmp .ge 46, 3) := by decide +kernel
theorem dX1_search_31 : decode cX1_search 31 = .ok (.aload_n 0, 1) := by decide +kernel
theorem dX1_search_32 : decode cX1_search 32 = .ok (.aload_n 1, 1) := by decide +kernel
theorem dX1_search_33 : decode cX1_search 33 = .ok (.aload_n 2, 1) := by decide +kernel
theorem dX1_search_34 : decode cX1_search 34 = .ok (.iload_n 3, 1) := by decide +kernel
theorem dX1_search_35 : decode cX1_search 35 = .ok (.invokevirtual 51, 3) := by decide +kernel
theorem dX1_search_38 : decode cX1_search 38 = .ok (.istore 4, 2) := by decide +kernel
theorem dX1_search_40 : decode cX1_search 40 = .ok (.iload 4, 2) := by decide +kernel
theorem dX1_search_42 : decode cX1_search 42 = .ok (.aload_n 0, 1) := by decide +kernel
theorem dX1_search_43 : decode cX1_search 43 = .ok (.getfield 38, 3) := by decide +kernel
theorem dX1_search_46 : decode cX1_search 46 = .ok (.if_icmp .le 22, 3) := by decide +kernel
theorem dX1_search_49 : decode cX1_search 49 = .ok (.aload_n 0, 1) := by decide +kernel
theorem dX1_search_50 : decode cX1_search 50 = .ok (.iload 4, 2) := by decide +kernel
theorem dX1_search_52 : decode cX1_search 52 = .ok (.putfield 38, 3) := by decide +kernel
theorem dX1_search_55 : decode cX1_search 55 = .ok (.aload_n 0, 1) := by decide +kernel
theorem dX1_search_56 : decode cX1_search 56 = .ok (.iload_n 3, 1) := by decide +kernel
theorem dX1_search_57 : decode cX1_search 57 = .ok (.putfield 42, 3) := by decide +kernel
theorem dX1_search_60 : decode cX1_search 60 = .ok (.aload_n 0, 1) := by decide +kernel
theorem dX1_search_61 : decode cX1_search 61 = .ok (.aload_n 0, 1) := by decide +kernel
theorem dX1_search_62 : decode cX1_search 62 = .ok (.getfield 55, 3) := by decide +kernel
theorem dX1_search_65 : decode cX1_search 65 = .ok (.putfield 45, 3) := by decide +kernel
theorem dX1_search_68 : decode cX1_search 68 = .ok (.iinc 3 1, 3) := by decide +kernel
theorem dX1_search_71 : decode cX1_search 71 = .ok (.goto (-48), 3) := by decide +kernel
theorem dX1_search_74 : decode cX1_search 74 = .ok (.return_, 1) := by decide +kernel
theorem dX1_searchAt_0 : decode cX1_searchAt 0 = .ok (.aload_n 1, 1) := by decide +kernel
theorem dX1_searchAt_1 : decode cX1_searchAt 1 = .ok (.getfield 18, 3) := by decide +kernel
theorem dX1_searchAt_4 : decode cX1_searchAt 4 = .ok (.astore 4, 2) := by decide +kernel
theorem dX1_searchAt_6 : decode cX1_searchAt 6 = .ok (.iconst 1, 1) := by decide +kernel
theorem dX1_searchAt_7 : decode cX1_searchAt 7 = .ok (.aload 4, 2) := by decide +kernel
theorem dX1_searchAt_9 : decode cX1_searchAt 9 = .ok (.getfield 48, 3) := by decide +kernel
theorem dX1_searchAt_12 : decode cX1_searchAt 12 = .ok (.iconst 3, 1) := by decide +kernel
theorem dX1_searchAt_13 : decode cX1_searchAt 13 = .ok (.isub, 1) := by decide +kernel
theorem dX1_searchAt_14 : decode cX1_searchAt 14 = .ok (.invokestatic 58, 3) := by decide +kernel
theorem dX1_searchAt_17 : decode cX1_searchAt 17 = .ok (.istore 5, 2) := by decide +kernel
theorem dX1_searchAt_19 : decode cX1_searchAt 19 = .ok (.aload 4, 2) := by decide +kernel
theorem dX1_searchAt_21 : decode cX1_searchAt 21 = .ok (.getfield 48, 3) := by decide +kernel
theorem dX1_searchAt_24 : decode cX1_searchAt 24 = .ok (.iconst 3, 1) := by decide +kernel
theorem dX1_searchAt_25 : decode cX1_searchAt 25 = .ok (.iadd, 1) := by decide +kernel
theorem dX1_searchAt_26 : decode cX1_searchAt 26 = .ok (.aload_n 2, 1) := by decide +kernel
theorem dX1_searchAt_27 : decode cX1_searchAt 27 = .ok (.getfield 48, 3) := by decide +kernel
theorem dX1_searchAt_30 : decode cX1_searchAt 30 = .ok (.iload_n 3, 1) := by decide +kernel
theorem dX1_searchAt_31 : decode cX1_searchAt 31 = .ok (.isub, 1) := by decide +kernel
theorem dX1_searchAt_32 : decode cX1_searchAt 32 = .ok (.invokestatic 64, 3) := by decide +kernel
theorem dX1_searchAt_35 : decode cX1_searchAt 35 = .ok (.istore 6, 2) := by decide +kernel
theorem dX1_searchAt_37 : decode cX1_searchAt 37 = .ok (.sipush (-1005), 3) := by decide +kernel
theorem dX1_searchAt_40 : decode cX1_searchAt 40 = .ok (.istore 7, 2) := by decide +kernel
theorem dX1_searchAt_42 : decode cX1_searchAt 42 = .ok (.aload_n 0, 1) := by decide +kernel
theorem dX1_searchAt_43 : decode cX1_searchAt 43 = .ok (.sipush (-1005), 3) := by decide +kernel
theorem dX1_searchAt_46 : decode cX1_searchAt 46 = .ok (.putfield 55, 3) := by decide +kernel
theorem dX1_searchAt_49 : decode cX1_searchAt 49 = .ok (.aload_n 0, 1) := by decide +kernel
theorem dX1_searchAt_50 : decode cX1_searchAt 50 = .ok (.invokevirtual 15, 3) := by decide +kernel
theorem dX1_searchAt_53 : decode cX1_searchAt 53 = .ok (.iconst 1, 1) := by decide +kernel
theorem dX1_searchAt_54 : decode cX1_searchAt 54 = .ok (.istore 8, 2) := by decide +kernel
theorem dX1_searchAt_56 : decode cX1_searchAt 56 = .ok (.iload 8, 2) := by decide +kernel
theorem dX1_searchAt_58 : decode cX1_searchAt 58 = .ok (.iload 6, 2) := by decide +kernel
theorem dX1_searchAt_60 : decode cX1_searchAt 60 = .ok (.if_icmp .gt 69, 3) := by decide +kernel
theorem dX1_searchAt_63 : decode cX1_searchAt 63 = .ok (.iload_n 3, 1) := by decide +kernel
theorem dX1_searchAt_64 : decode cX1_searchAt 64 = .ok (.iload 8, 2) := by decide +kernel
theorem dX1_searchAt_66 : decode cX1_searchAt 66 = .ok (.iadd, 1) := by decide +kernel
theorem dX1_searchAt_67 : decode cX1_searchAt 67 = .ok (.istore 9, 2) := by decide +kernel
theorem dX1_searchAt_69 : decode cX1_searchAt 69 = .ok (.aload_n 0, 1) := by decide +kernel
theorem dX1_searchAt_70 : decode cX1_searchAt 70 = .ok (.aload 4, 2) := by decide +kernel
theorem dX1_searchAt_72 : decode cX1_searchAt 72 = .ok (.aload_n 2, 1) := by decide +kernel
theorem dX1_searchAt_73 : decode cX1_searchAt 73 = .ok (.iload 9, 2) := by decide +kernel
theorem dX1_searchAt_75 : decode cX1_searchAt 75 = .ok (.iconst 1, 1) := by decide +kernel
theorem dX1_searchAt_76 : decode cX1_searchAt 76 = .ok (.isub, 1) := by decide +kernel
theorem dX1_searchAt_77 : decode cX1_searchAt 77 = .ok (.invokevirtual 24, 3) := by decide +kernel
theorem dX1_searchAt_80 : decode cX1_searchAt 80 = .ok (.invokevirtual 30, 3) := by decide +kernel
theorem dX1_searchAt_83 : decode cX1_searchAt 83 = .ok (.iload 8, 2) := by decide +kernel
theorem dX1_searchAt_85 : decode cX1_searchAt 85 = .ok (.iload 5, 2) := by decide +kernel
theorem dX1_searchAt_87 : decode cX1_searchAt 87 = .ok (.if_icmp .lt 36, 3) := by decide +kernel
theorem dX1_searchAt_90 : decode cX1_searchAt 90 = .ok (.aload_n 1, 1) := by decide +kernel
theorem dX1_searchAt_91 : decode cX1_searchAt 91 = .ok (.aload_n 0, 1) := by decide +kernel
theorem dX1_searchAt_92 : decode cX1_searchAt 92 = .ok (.aload 4, 2) := by decide +kernel
theorem dX1_searchAt_94 : decode cX1_searchAt 94 = .ok (.invokevirtual 34, 3) := by decide +kernel
theorem dX1_searchAt_97 : decode cX1_searchAt 97 = .ok (.aload_n 2, 1) := by decide +kernel
theorem dX1_searchAt_98 : decode cX1_searchAt 98 = .ok (.iload_n 3, 1) := by decide +kernel
theorem dX1_searchAt_99 : decode cX1_searchAt 99 = .ok (.iload 9, 2) := by decide +kernel
theorem dX1_searchAt_101 : decode cX1_searchAt 101 = .ok (.invokevirtual 67, 3) := by decide +kernel
theorem dX1_searchAt_104 : decode cX1_searchAt 104 = .ok (.istore 10, 2) := by decide +kernel
theorem dX1_searchAt_106 : decode cX1_searchAt 106 = .ok (.iload 10, 2) := by decide +kernel
theorem dX1_searchAt_108 : decode cX1_searchAt 108 = .ok (.iload 7, 2) := by decide +kernel
theorem dX1_searchAt_110 : decode cX1_searchAt 110 = .ok (.if_icmp .le 13, 3) := by decide +kernel
theorem dX1_searchAt_113 : decode cX1_searchAt 113 = .ok (.iload 10, 2) := by decide +kernel
theorem dX1_searchAt_115 : decode cX1_searchAt 115 = .ok (.istore 7, 2) := by decide +kernel
theorem dX1_searchAt_117 : decode cX1_searchAt 117 = .ok (.aload_n 0, 1) := by decide +kernel
theorem dX1_searchAt_118 : decode cX1_searchAt 118 = .ok (.iload 9, 2) := by decide +kernel
theorem dX1_searchAt_120 : decode cX1_searchAt 120 = .ok (.putfield 55, 3) := by decide +kernel
theorem dX1_searchAt_123 : decode cX1_searchAt 123 = .ok (.iinc 8 1, 3) := by decide +kernel
theorem dX1_searchAt_126 : decode cX1_searchAt 126 = .ok (.goto (-70), 3) := by decide +kernel
theorem dX1_searchAt_129 : decode cX1_searchAt 129 = .ok (.iload 7, 2) := by decide +kernel
theorem dX1_searchAt_131 : decode cX1_searchAt 131 = .ok (.ireturn, 1) := by decide +kernel
theorem dX1_beginRow_0 : decode cX1_beginRow 0 = .ok (.iconst 0, 1) := by decide +kernel
theorem dX1_beginRow_1 : decode cX1_beginRow 1 = .ok (.istore_n 1, 1) := by decide +kernel
theorem dX1_beginRow_2 : decode cX1_beginRow 2 = .ok (.iload_n 1, 1) := by decide +kernel
theorem dX1_beginRow_3 : decode cX1_beginRow 3 = .ok (.aload_n 0, 1) := by decide +kernel
theorem dX1_beginRow_4 : decode cX1_beginRow 4 = .ok (.getfield 9, 3) := by decide +kernel
theorem dX1_beginRow_7 : decode cX1_beginRow 7 = .ok (.arraylength, 1) := by decide +kernel
theorem dX1_beginRow_8 : decode cX1_beginRow 8 = .ok (.if_icmp .ge 16, 3) := by decide +kernel
theorem dX1_beginRow_11 : decode cX1_beginRow 11 = .ok (.aload_n 0, 1) := by decide +kernel
theorem dX1_beginRow_12 : decode cX1_beginRow 12 = .ok (.getfield 9, 3) := by decide +kernel
theorem dX1_beginRow_15 : decode cX1_beginRow 15 = .ok (.iload_n 1, 1) := by decide +kernel
theorem dX1_beginRow_16 : decode cX1_beginRow 16 = .ok (.iload_n 1, 1) := by decide +kernel
theorem dX1_beginRow_17 : decode cX1_beginRow 17 = .ok (.iastore, 1) := by decide +kernel
theorem dX1_beginRow_18 : decode cX1_beginRow 18 = .ok (.iinc 1 1, 3) := by decide +kernel
theorem dX1_beginRow_21 : decode cX1_beginRow 21 = .ok (.goto (-19), 3) := by decide +kernel
theorem dX1_beginRow_24 : decode cX1_beginRow 24 = .ok (.return_, 1) := by decide +kernel
theorem dX1_takeLetter_0 : decode cX1_takeLetter 0 = .ok (.aload_n 1, 1) := by decide +kernel
theorem dX1_takeLetter_1 : decode cX1_takeLetter 1 = .ok (.getfield 71, 3) := by decide +kernel
theorem dX1_takeLetter_4 : decode cX1_takeLetter 4 = .ok (.astore_n 3, 1) := by decide +kernel
theorem dX1_takeLetter_5 : decode cX1_takeLetter 5 = .ok (.aload_n 1, 1) := by decide +kernel
theorem dX1_takeLetter_6 : decode cX1_takeLetter 6 = .ok (.getfield 48, 3) := by decide +kernel
theorem dX1_takeLetter_9 : decode cX1_takeLetter 9 = .ok (.aload_n 3, 1) := by decide +kernel
theorem dX1_takeLetter_10 : decode cX1_takeLetter 10 = .ok (.arraylength, 1) := by decide +kernel
theorem dX1_takeLetter_11 : decode cX1_takeLetter 11 = .ok (.aload_n 0, 1) := by decide +kernel
theorem dX1_takeLetter_12 : decode cX1_takeLetter 12 = .ok (.getfield 9, 3) := by decide +kernel
theorem dX1_takeLetter_15 : decode cX1_takeLetter 15 = .ok (.arraylength, 1) := by decide +kernel
theorem dX1_takeLetter_16 : decode cX1_takeLetter 16 = .ok (.iconst 1, 1) := by decide +kernel
theorem dX1_takeLetter_17 : decode cX1_takeLetter 17 = .ok (.isub, 1) := by decide +kernel
theorem dX1_takeLetter_18 : decode cX1_takeLetter 18 = .ok (.invokestatic 64, 3) := by decide +kernel
theorem dX1_takeLetter_21 : decode cX1_takeLetter 21 = .ok (.invokestatic 64, 3) := by decide +kernel
theorem dX1_takeLetter_24 : decode cX1_takeLetter 24 = .ok (.istore 4, 2) := by decide +kernel
theorem dX1_takeLetter_26 : decode cX1_takeLetter 26 = .ok (.aload_n 0, 1) := by decide +kernel
theorem dX1_takeLetter_27 : decode cX1_takeLetter 27 = .ok (.getfield 9, 3) := by decide +kernel
theorem dX1_takeLetter_30 : decode cX1_takeLetter 30 = .ok (.iconst 0, 1) := by decide +kernel
theorem dX1_takeLetter_31 : decode cX1_takeLetter 31 = .ok (.iaload, 1) := by decide +kernel
theorem dX1_takeLetter_32 : decode cX1_takeLetter 32 = .ok (.istore 5, 2) := by decide +kernel
theorem dX1_takeLetter_34 : decode cX1_takeLetter 34 = .ok (.iload 5, 2) := by decide +kernel
theorem dX1_takeLetter_36 : decode cX1_takeLetter 36 = .ok (.iconst 1, 1) := by decide +kernel
theorem dX1_takeLetter_37 : decode cX1_takeLetter 37 = .ok (.iadd, 1) := by decide +kernel
theorem dX1_takeLetter_38 : decode cX1_takeLetter 38 = .ok (.istore 6, 2) := by decide +kernel
theorem dX1_takeLetter_40 : decode cX1_takeLetter 40 = .ok (.aload_n 0, 1) := by decide +kernel
theorem dX1_takeLetter_41 : decode cX1_takeLetter 41 = .ok (.getfield 9, 3) := by decide +kernel
theorem dX1_takeLetter_44 : decode cX1_takeLetter 44 = .ok (.iconst 0, 1) := by decide +kernel
theorem dX1_takeLetter_45 : decode cX1_takeLetter 45 = .ok (.iload 6, 2) := by decide +kernel
theorem dX1_takeLetter_47 : decode cX1_takeLetter 47 = .ok (.iastore, 1) := by decide +kernel
theorem dX1_takeLetter_48 : decode cX1_takeLetter 48 = .ok (.iconst 1, 1) := by decide +kernel
theorem dX1_takeLetter_49 : decode cX1_takeLetter 49 = .ok (.istore 7, 2) := by decide +kernel
theorem dX1_takeLetter_51 : decode cX1_takeLetter 51 = .ok (.iload 7, 2) := by decide +kernel
theorem dX1_takeLetter_53 : decode cX1_takeLetter 53 = .ok (.iload 4, 2) := by decide +kernel
theorem dX1_takeLetter_55 : decode cX1_takeLetter 55 = .ok (.if_icmp .gt 68, 3) := by decide +kernel
theorem dX1_takeLetter_58 : decode cX1_takeLetter 58 = .ok (.aload_n 0, 1) := by decide +kernel
theorem dX1_takeLetter_59 : decode cX1_takeLetter 59 = .ok (.getfield 9, 3) := by decide +kernel
theorem dX1_takeLetter_62 : decode cX1_takeLetter 62 = .ok (.iload 7, 2) := by decide +kernel
theorem dX1_takeLetter_64 : decode cX1_takeLetter 64 = .ok (.iaload, 1) := by decide +kernel
theorem dX1_takeLetter_65 : decode cX1_takeLetter 65 = .ok (.istore 8, 2) := by decide +kernel
theorem dX1_takeLetter_67 : decode cX1_takeLetter 67 = .ok (.aload_n 3, 1) := by decide +kernel
theorem dX1_takeLetter_68 : decode cX1_takeLetter 68 = .ok (.iload 7, 2) := by decide +kernel
theorem dX1_takeLetter_70 : decode cX1_takeLetter 70 = .ok (.iconst 1, 1) := by decide +kernel
theorem dX1_takeLetter_71 : decode cX1_takeLetter 71 = .ok (.isub, 1) := by decide +kernel
theorem dX1_takeLetter_72 : decode cX1_takeLetter 72 = .ok (.iaload, 1) := by decide +kernel
theorem dX1_takeLetter_73 : decode cX1_takeLetter 73 = .ok (.iload_n 2, 1) := by decide +kernel
theorem dX1_takeLetter_74 : decode cX1_takeLetter 74 = .ok (.if_icmp .ne 8, 3) := by decide +kernel
theorem dX1_takeLetter_77 : decode cX1_takeLetter 77 = .ok (.iload 5, 2) := by decide +kernel
theorem dX1_takeLetter_79 : decode cX1_takeLetter 79 = .ok (.goto 7, 3) := by decide +kernel
theorem dX1_takeLetter_82 : decode cX1_takeLetter 82 = .ok (.iload 5, 2) := by decide +kernel
theorem dX1_takeLetter_84 : decode cX1_takeLetter 84 = .ok (.iconst 1, 1) := by decide +kernel
theorem dX1_takeLetter_85 : decode cX1_takeLetter 85 = .ok (.iadd, 1) := by decide +kernel
theorem dX1_takeLetter_86 : decode cX1_takeLetter 86 = .ok (.istore 9, 2) := by decide +kernel
theorem dX1_takeLetter_88 : decode cX1_takeLetter 88 = .ok (.iload 9, 2) := by decide +kernel
theorem dX1_takeLetter_90 : decode cX1_takeLetter 90 = .ok (.iconst 1, 1) := by decide +kernel
theorem dX1_takeLetter_91 : decode cX1_takeLetter 91 = .ok (.iload 8, 2) := by decide +kernel
theorem dX1_takeLetter_93 : decode cX1_takeLetter 93 = .ok (.iload 6, 2) := by decide +kernel
theorem dX1_takeLetter_95 : decode cX1_takeLetter 95 = .ok (.invokestatic 64, 3) := by decide +kernel
theorem dX1_takeLetter_98 : decode cX1_takeLetter 98 = .ok (.iadd, 1) := by decide +kernel
theorem dX1_takeLetter_99 : decode cX1_takeLetter 99 = .ok (.invokestatic 64, 3) := by decide +kernel
theorem dX1_takeLetter_102 : decode cX1_takeLetter 102 = .ok (.istore 6, 2) := by decide +kernel
theorem dX1_takeLetter_104 : decode cX1_takeLetter 104 = .ok (.aload_n 0, 1) := by decide +kernel
theorem dX1_takeLetter_105 : decode cX1_takeLetter 105 = .ok (.getfield 9, 3) := by decide +kernel
theorem dX1_takeLetter_108 : decode cX1_takeLetter 108 = .ok (.iload 7, 2) := by decide +kernel
theorem dX1_takeLetter_110 : decode cX1_takeLetter 110 = .ok (.iload 6, 2) := by decide +kernel
theorem dX1_takeLetter_112 : decode cX1_takeLetter 112 = .ok (.iastore, 1) := by decide +kernel
theorem dX1_takeLetter_113 : decode cX1_takeLetter 113 = .ok (.iload 8, 2) := by decide +kernel
theorem dX1_takeLetter_115 : decode cX1_takeLetter 115 = .ok (.istore 5, 2) := by decide +kernel
theorem dX1_takeLetter_117 : decode cX1_takeLetter 117 = .ok (.iinc 7 1, 3) := by decide +kernel
theorem dX1_takeLetter_120 : decode cX1_takeLetter 120 = .ok (.goto (-69), 3) := by decide +kernel
theorem dX1_takeLetter_123 : decode cX1_takeLetter 123 = .ok (.return_, 1) := by decide +kernel
theorem dX1_endOfRow_0 : decode cX1_endOfRow 0 = .ok (.aload_n 1, 1) := by decide +kernel
theorem dX1_endOfRow_1 : decode cX1_endOfRow 1 = .ok (.getfield 48, 3) := by decide +kernel
theorem dX1_endOfRow_4 : decode cX1_endOfRow 4 = .ok (.ifCond .lt 27, 3) := by decide +kernel
theorem dX1_endOfRow_7 : decode cX1_endOfRow 7 = .ok (.aload_n 1, 1) := by decide +kernel
theorem dX1_endOfRow_8 : decode cX1_endOfRow 8 = .ok (.getfield 48, 3) := by decide +kernel
theorem dX1_endOfRow_11 : decode cX1_endOfRow 11 = .ok (.aload_n 0, 1) := by decide +kernel
theorem dX1_endOfRow_12 : decode cX1_endOfRow 12 = .ok (.getfield 9, 3) := by decide +kernel
theorem dX1_endOfRow_15 : decode cX1_endOfRow 15 = .ok (.arraylength, 1) := by decide +kernel
theorem dX1_endOfRow_16 : decode cX1_endOfRow 16 = .ok (.if_icmp .ge 15, 3) := by decide +kernel
theorem dX1_endOfRow_19 : decode cX1_endOfRow 19 = .ok (.aload_n 0, 1) := by decide +kernel
theorem dX1_endOfRow_20 : decode cX1_endOfRow 20 = .ok (.getfield 9, 3) := by decide +kernel
theorem dX1_endOfRow_23 : decode cX1_endOfRow 23 = .ok (.aload_n 1, 1) := by decide +kernel
theorem dX1_endOfRow_24 : decode cX1_endOfRow 24 = .ok (.getfield 48, 3) := by decide +kernel
theorem dX1_endOfRow_27 : decode cX1_endOfRow 27 = .ok (.iaload, 1) := by decide +kernel
theorem dX1_endOfRow_28 : decode cX1_endOfRow 28 = .ok (.goto 4, 3) := by decide +kernel
theorem dX1_endOfRow_31 : decode cX1_endOfRow 31 = .ok (.iconst 0, 1) := by decide +kernel
theorem dX1_endOfRow_32 : decode cX1_endOfRow 32 = .ok (.ireturn, 1) := by decide +kernel
theorem dX2_init_0 : decode cX2_init 0 = .ok (.aload_n 0, 1) := by decide +kernel
theorem dX2_init_1 : decode cX2_init 1 = .ok (.invokespecial 3, 3) := by decide +kernel
theorem dX2_init_4 : decode cX2_init 4 = .ok (.aload_n 0, 1) := by decide +kernel
theorem dX2_init_5 : decode cX2_init 5 = .ok (.bipush 6, 2) := by decide +kernel
theorem dX2_init_7 : decode cX2_init 7 = .ok (.anewarray 9, 3) := by decide +kernel
theorem dX2_init_10 : decode cX2_init 10 = .ok (.putfield 11, 3) := by decide +kernel
theorem dX2_init_13 : decode cX2_init 13 = .ok (.iconst 0, 1) := by decide +kernel
theorem dX2_init_14 : decode cX2_init 14 = .ok (.istore_n 1, 1) := by decide +kernel
theorem dX2_init_15 : decode cX2_init 15 = .ok (.iload_n 1, 1) := by decide +kernel
theorem dX2_init_16 : decode cX2_init 16 = .ok (.aload_n 0, 1) := by decide +kernel
theorem dX2_init_17 : decode cX2_init 17 = .ok (.getfield 11, 3) := by decide +kernel
theorem dX2_init_20 : decode cX2_init 20 = .ok (.arraylength, 1) := by decide +kernel
theorem dX2_init_21 : decode cX2_init 21 = .ok (.if_icmp .ge 22, 3) := by decide +kernel
theorem dX2_init_24 : decode cX2_init 24 = .ok (.aload_n 0, 1) := by decide +kernel
theorem dX2_init_25 : decode cX2_init 25 = .ok (.getfield 11, 3) := by decide +kernel
theorem dX2_init_28 : decode cX2_init 28 = .ok (.iload_n 1, 1) := by decide +kernel
theorem dX2_init_29 : decode cX2_init 29 = .ok (.new 9, 3) := by decide +kernel
theorem dX2_init_32 : decode cX2_init 32 = .ok (.dup, 1) := by decide +kernel
theorem dX2_init_33 : decode cX2_init 33 = .ok (.invokespecial 17, 3) := by decide +kernel
theorem dX2_init_36 : decode cX2_init 36 = .ok (.aastore, 1) := by decide +kernel
theorem dX2_init_37 : decode cX2_init 37 = .ok (.iinc 1 1, 3) := by decide +kernel
theorem dX2_init_40 : decode cX2_init 40 = .ok (.goto (-25), 3) := by decide +kernel
theorem dX2_init_43 : decode cX2_init 43 = .ok (.return_, 1) := by decide +kernel
theorem dX2_record_0 : decode cX2_record 0 = .ok (.aload_n 0, 1) := by decide +kernel
theorem dX2_record_1 : decode cX2_record 1 = .ok (.getfield 18, 3) := by decide +kernel
theorem dX2_record_4 : decode cX2_record 4 = .ok (.aload_n 0, 1) := by decide +kernel
theorem dX2_record_5 : decode cX2_record 5 = .ok (.getfield 11, 3) := by decide +kernel
theorem dX2_record_8 : decode cX2_record 8 = .ok (.arraylength, 1) := by decide +kernel
theorem dX2_record_9 : decode cX2_record 9 = .ok (.if_icmp .lt 7, 3) := by decide +kernel
theorem dX2_record_12 : decode cX2_record 12 = .ok (.aload_n 0, 1) := by decide +kernel
theorem dX2_record_13 : decode cX2_record 13 = .ok (.invokevirtual 22, 3) := by decide +kernel
theorem dX2_record_16 : decode cX2_record 16 = .ok (.aload_n 0, 1) := by decide +kernel
theorem dX2_record_17 : decode cX2_record 17 = .ok (.getfield 18, 3) := by decide +kernel
theorem dX2_record_20 : decode cX2_record 20 = .ok (.ifCond .lt 38, 3) := by decide +kernel
theorem dX2_record_23 : decode cX2_record 23 = .ok (.aload_n 0, 1) := by decide +kernel
theorem dX2_record_24 : decode cX2_record 24 = .ok (.getfield 18, 3) := by decide +kernel
theorem dX2_record_27 : decode cX2_record 27 = .ok (.aload_n 0, 1) := by decide +kernel
theorem dX2_record_28 : decode cX2_record 28 = .ok (.getfield 11, 3) := by decide +kernel
theorem dX2_record_31 : decode cX2_record 31 = .ok (.arraylength, 1) := by decide +kernel
theorem dX2_record_32 : decode cX2_record 32 = .ok (.if_icmp .ge 26, 3) := by decide +kernel
theorem dX2_record_35 : decode cX2_record 35 = .ok (.aload_n 0, 1) := by decide +kernel
theorem dX2_record_36 : decode cX2_record 36 = .ok (.getfield 11, 3) := by decide +kernel
theorem dX2_record_39 : decode cX2_record 39 = .ok (.aload_n 0, 1) := by decide +kernel
theorem dX2_record_40 : decode cX2_record 40 = .ok (.getfield 18, 3) := by decide +kernel
theorem dX2_record_43 : decode cX2_record 43 = .ok (.aaload, 1) := by decide +kernel
theorem dX2_record_44 : decode cX2_record 44 = .ok (.aload_n 1, 1) := by decide +kernel
theorem dX2_record_45 : decode cX2_record 45 = .ok (.invokevirtual 25, 3) := by decide +kernel
theorem dX2_record_48 : decode cX2_record 48 = .ok (.aload_n 0, 1) := by decide +kernel
theorem dX2_record_49 : decode cX2_record 49 = .ok (.dup, 1) := by decide +kernel
theorem dX2_record_50 : decode cX2_record 50 = .ok (.getfield 18, 3) := by decide +kernel
theorem dX2_record_53 : decode cX2_record 53 = .ok (.iconst 1, 1) := by decide +kernel
theorem dX2_record_54 : decode cX2_record 54 = .ok (.iadd, 1) := by decide +kernel
theorem dX2_record_55 : decode cX2_record 55 = .ok (.putfield 18, 3) := by decide +kernel
theorem dX2_record_58 : decode cX2_record 58 = .ok (.return_, 1) := by decide +kernel
theorem dX2_dropOldest_0 : decode cX2_dropOldest 0 = .ok (.aload_n 0, 1) := by decide +kernel
theorem dX2_dropOldest_1 : decode cX2_dropOldest 1 = .ok (.getfield 11, 3) := by decide +kernel
theorem dX2_dropOldest_4 : decode cX2_dropOldest 4 = .ok (.iconst 0, 1) := by decide +kernel
theorem dX2_dropOldest_5 : decode cX2_dropOldest 5 = .ok (.aaload, 1) := by decide +kernel
theorem dX2_dropOldest_6 : decode cX2_dropOldest 6 = .ok (.astore_n 1, 1) := by decide +kernel
theorem dX2_dropOldest_7 : decode cX2_dropOldest 7 = .ok (.iconst 1, 1) := by decide +kernel
theorem dX2_dropOldest_8 : decode cX2_dropOldest 8 = .ok (.istore_n 2, 1) := by decide +kernel
theorem dX2_dropOldest_9 : decode cX2_dropOldest 9 = .ok (.iload_n 2, 1) := by decide +kernel
theorem dX2_dropOldest_10 : decode cX2_dropOldest 10 = .ok (.aload_n 0, 1) := by decide +kernel
theorem dX2_dropOldest_11 : decode cX2_dropOldest 11 = .ok (.getfield 11, 3) := by decide +kernel
theorem dX2_dropOldest_14 : decode cX2_dropOldest 14 = .ok (.arraylength, 1) := by decide +kernel
theorem dX2_dropOldest_15 : decode cX2_dropOldest 15 = .ok (.if_icmp .ge 23, 3) := by decide +kernel
theorem dX2_dropOldest_18 : decode cX2_dropOldest 18 = .ok (.aload_n 0, 1) := by decide +kernel
theorem dX2_dropOldest_19 : decode cX2_dropOldest 19 = .ok (.getfield 11, 3) := by decide +kernel
theorem dX2_dropOldest_22 : decode cX2_dropOldest 22 = .ok (.iload_n 2, 1) := by decide +kernel
theorem dX2_dropOldest_23 : decode cX2_dropOldest 23 = .ok (.iconst 1, 1) := by decide +kernel
theorem dX2_dropOldest_24 : decode cX2_dropOldest 24 = .ok (.isub, 1) := by decide +kernel
theorem dX2_dropOldest_25 : decode cX2_dropOldest 25 = .ok (.aload_n 0, 1) := by decide +kernel
theorem dX2_dropOldest_26 : decode cX2_dropOldest 26 = .ok (.getfield 11, 3) := by decide +kernel
theorem dX2_dropOldest_29 : decode cX2_dropOldest 29 = .ok (.iload_n 2, 1) := by decide +kernel
theorem dX2_dropOldest_30 : decode cX2_dropOldest 30 = .ok (.aaload, 1) := by decide +kernel
theorem dX2_dropOldest_31 : decode cX2_dropOldest 31 = .ok (.aastore, 1) := by decide +kernel
theorem dX2_dropOldest_32 : decode cX2_dropOldest 32 = .ok (.iinc 2 1, 3) := by decide +kernel
theorem dX2_dropOldest_35 : decode cX2_dropOldest 35 = .ok (.goto (-26), 3) := by decide +kernel
theorem dX2_dropOldest_38 : decode cX2_dropOldest 38 = .ok (.aload_n 0, 1) := by decide +kernel
theorem dX2_dropOldest_39 : decode cX2_dropOldest 39 = .ok (.getfield 11, 3) := by decide +kernel
theorem dX2_dropOldest_42 : decode cX2_dropOldest 42 = .ok (.aload_n 0, 1) := by decide +kernel
theorem dX2_dropOldest_43 : decode cX2_dropOldest 43 = .ok (.getfield 11, 3) := by decide +kernel
theorem dX2_dropOldest_46 : decode cX2_dropOldest 46 = .ok (.arraylength, 1) := by decide +kernel
theorem dX2_dropOldest_47 : decode cX2_dropOldest 47 = .ok (.iconst 1, 1) := by decide +kernel
theorem dX2_dropOldest_48 : decode cX2_dropOldest 48 = .ok (.isub, 1) := by decide +kernel
theorem dX2_dropOldest_49 : decode cX2_dropOldest 49 = .ok (.aload_n 1, 1) := by decide +kernel
theorem dX2_dropOldest_50 : decode cX2_dropOldest 50 = .ok (.aastore, 1) := by decide +kernel
theorem dX2_dropOldest_51 : decode cX2_dropOldest 51 = .ok (.aload_n 0, 1) := by decide +kernel
theorem dX2_dropOldest_52 : decode cX2_dropOldest 52 = .ok (.aload_n 0, 1) := by decide +kernel
theorem dX2_dropOldest_53 : decode cX2_dropOldest 53 = .ok (.getfield 11, 3) := by decide +kernel
theorem dX2_dropOldest_56 : decode cX2_dropOldest 56 = .ok (.arraylength, 1) := by decide +kernel
theorem dX2_dropOldest_57 : decode cX2_dropOldest 57 = .ok (.iconst 1, 1) := by decide +kernel
theorem dX2_dropOldest_58 : decode cX2_dropOldest 58 = .ok (.isub, 1) := by decide +kernel
theorem dX2_dropOldest_59 : decode cX2_dropOldest 59 = .ok (.putfield 18, 3) := by decide +kernel
theorem dX2_dropOldest_62 : decode cX2_dropOldest 62 = .ok (.return_, 1) := by decide +kernel
theorem dX2_stepBack_0 : decode cX2_stepBack 0 = .ok (.aload_n 0, 1) := by decide +kernel
theorem dX2_stepBack_1 : decode cX2_stepBack 1 = .ok (.getfield 18, 3) := by decide +kernel
theorem dX2_stepBack_4 : decode cX2_stepBack 4 = .ok (.ifCond .le 38, 3) := by decide +kernel
theorem dX2_stepBack_7 : decode cX2_stepBack 7 = .ok (.aload_n 0, 1) := by decide +kernel
theorem dX2_stepBack_8 : decode cX2_stepBack 8 = .ok (.getfield 18, 3) := by decide +kernel
theorem dX2_stepBack_11 : decode cX2_stepBack 11 = .ok (.aload_n 0, 1) := by decide +kernel
theorem dX2_stepBack_12 : decode cX2_stepBack 12 = .ok (.getfield 11, 3) := by decide +kernel
theorem dX2_stepBack_15 : decode cX2_stepBack 15 = .ok (.arraylength, 1) := by decide +kernel
theorem dX2_stepBack_16 : decode cX2_stepBack 16 = .ok (.if_icmp .gt 26, 3) := by decide +kernel
theorem dX2_stepBack_19 : decode cX2_stepBack 19 = .ok (.aload_n 0, 1) := by decide +kernel
theorem dX2_stepBack_20 : decode cX2_stepBack 20 = .ok (.dup, 1) := by decide +kernel
theorem dX2_stepBack_21 : decode cX2_stepBack 21 = .ok (.getfield 18, 3) := by decide +kernel
theorem dX2_stepBack_24 : decode cX2_stepBack 24 = .ok (.iconst 1, 1) := by decide +kernel
theorem dX2_stepBack_25 : decode cX2_stepBack 25 = .ok (.isub, 1) := by decide +kernel
theorem dX2_stepBack_26 : decode cX2_stepBack 26 = .ok (.putfield 18, 3) := by decide +kernel
theorem dX2_stepBack_29 : decode cX2_stepBack 29 = .ok (.aload_n 1, 1) := by decide +kernel
theorem dX2_stepBack_30 : decode cX2_stepBack 30 = .ok (.aload_n 0, 1) := by decide +kernel
theorem dX2_stepBack_31 : decode cX2_stepBack 31 = .ok (.getfield 11, 3) := by decide +kernel
theorem dX2_stepBack_34 : decode cX2_stepBack 34 = .ok (.aload_n 0, 1) := by decide +kernel
theorem dX2_stepBack_35 : decode cX2_stepBack 35 = .ok (.getfield 18, 3) := by decide +kernel
theorem dX2_stepBack_38 : decode cX2_stepBack 38 = .ok (.aaload, 1) := by decide +kernel
theorem dX2_stepBack_39 : decode cX2_stepBack 39 = .ok (.invokevirtual 25, 3) := by decide +kernel
theorem dX2_stepBack_42 : decode cX2_stepBack 42 = .ok (.return_, 1) := by decide +kernel
theorem dX3_init_0 : decode cX3_init 0 = .ok (.aload_n 0, 1) := by decide +kernel
theorem dX3_init_1 : decode cX3_init 1 = .ok (.invokespecial 3, 3) := by decide +kernel
theorem dX3_init_4 : decode cX3_init 4 = .ok (.aload_n 0, 1) := by decide +kernel
theorem dX3_init_5 : decode cX3_init 5 = .ok (.new 9, 3) := by decide +kernel
theorem dX3_init_8 : decode cX3_init 8 = .ok (.dup, 1) := by decide +kernel
theorem dX3_init_9 : decode cX3_init 9 = .ok (.bipush 6, 2) := by decide +kernel
theorem dX3_init_11 : decode cX3_init 11 = .ok (.invokespecial 11, 3) := by decide +kernel
theorem dX3_init_14 : decode cX3_init 14 = .ok (.putfield 14, 3) := by decide +kernel
theorem dX3_init_17 : decode cX3_init 17 = .ok (.aload_n 0, 1) := by decide +kernel
theorem dX3_init_18 : decode cX3_init 18 = .ok (.new 9, 3) := by decide +kernel
theorem dX3_init_21 : decode cX3_init 21 = .ok (.dup, 1) := by decide +kernel
theorem dX3_init_22 : decode cX3_init 22 = .ok (.bipush 16, 2) := by decide +kernel
theorem dX3_init_24 : decode cX3_init 24 = .ok (.invokespecial 11, 3) := by decide +kernel
theorem dX3_init_27 : decode cX3_init 27 = .ok (.putfield 20, 3) := by decide +kernel
theorem dX3_init_30 : decode cX3_init 30 = .ok (.aload_n 0, 1) := by decide +kernel
theorem dX3_init_31 : decode cX3_init 31 = .ok (.new 9, 3) := by decide +kernel
theorem dX3_init_34 : decode cX3_init 34 = .ok (.dup, 1) := by decide +kernel
theorem dX3_init_35 : decode cX3_init 35 = .ok (.bipush 6, 2) := by decide +kernel
theorem dX3_init_37 : decode cX3_init 37 = .ok (.invokespecial 11, 3) := by decide +kernel
theorem dX3_init_40 : decode cX3_init 40 = .ok (.putfield 23, 3) := by decide +kernel
theorem dX3_init_43 : decode cX3_init 43 = .ok (.return_, 1) := by decide +kernel
theorem dX3_become_0 : decode cX3_become 0 = .ok (.aload_n 0, 1) := by decide +kernel
theorem dX3_become_1 : decode cX3_become 1 = .ok (.getfield 14, 3) := by decide +kernel
theorem dX3_become_4 : decode cX3_become 4 = .ok (.aload_n 1, 1) := by decide +kernel
theorem dX3_become_5 : decode cX3_become 5 = .ok (.getfield 14, 3) := by decide +kernel
theorem dX3_become_8 : decode cX3_become 8 = .ok (.invokevirtual 26, 3) := by decide +kernel
theorem dX3_become_11 : decode cX3_become 11 = .ok (.aload_n 0, 1) := by decide +kernel
theorem dX3_become_12 : decode cX3_become 12 = .ok (.getfield 20, 3) := by decide +kernel
theorem dX3_become_15 : decode cX3_become 15 = .ok (.aload_n 1, 1) := by decide +kernel
theorem dX3_become_16 : decode cX3_become 16 = .ok (.getfield 20, 3) := by decide +kernel
theorem dX3_become_19 : decode cX3_become 19 = .ok (.invokevirtual 26, 3) := by decide +kernel
theorem dX3_become_22 : decode cX3_become 22 = .ok (.aload_n 0, 1) := by decide +kernel
theorem dX3_become_23 : decode cX3_become 23 = .ok (.getfield 23, 3) := by decide +kernel
theorem dX3_become_26 : decode cX3_become 26 = .ok (.aload_n 1, 1) := by decide +kernel
theorem dX3_become_27 : decode cX3_become 27 = .ok (.getfield 23, 3) := by decide +kernel
theorem dX3_become_30 : decode cX3_become 30 = .ok (.invokevirtual 26, 3) := by decide +kernel
theorem dX3_become_33 : decode cX3_become 33 = .ok (.aload_n 0, 1) := by decide +kernel
theorem dX3_become_34 : decode cX3_become 34 = .ok (.aload_n 1, 1) := by decide +kernel
theorem dX3_become_35 : decode cX3_become 35 = .ok (.getfield 30, 3) := by decide +kernel
theorem dX3_become_38 : decode cX3_become 38 = .ok (.putfield 30, 3) := by decide +kernel
theorem dX3_become_41 : decode cX3_become 41 = .ok (.aload_n 0, 1) := by decide +kernel
theorem dX3_become_42 : decode cX3_become 42 = .ok (.aload_n 1, 1) := by decide +kernel
theorem dX3_become_43 : decode cX3_become 43 = .ok (.getfield 34, 3) := by decide +kernel
theorem dX3_become_46 : decode cX3_become 46 = .ok (.putfield 34, 3) := by decide +kernel
theorem dX3_become_49 : decode cX3_become 49 = .ok (.aload_n 0, 1) := by decide +kernel
theorem dX3_become_50 : decode cX3_become 50 = .ok (.aload_n 1, 1) := by decide +kernel
theorem dX3_become_51 : decode cX3_become 51 = .ok (.getfield 37, 3) := by decide +kernel
theorem dX3_become_54 : decode cX3_become 54 = .ok (.putfield 37, 3) := by decide +kernel
theorem dX3_become_57 : decode cX3_become 57 = .ok (.aload_n 0, 1) := by decide +kernel
theorem dX3_become_58 : decode cX3_become 58 = .ok (.aload_n 1, 1) := by decide +kernel
theorem dX3_become_59 : decode cX3_become 59 = .ok (.getfield 40, 3) := by decide +kernel
theorem dX3_become_62 : decode cX3_become 62 = .ok (.putfield 40, 3) := by decide +kernel
theorem dX3_become_65 : decode cX3_become 65 = .ok (.aload_n 0, 1) := by decide +kernel
theorem dX3_become_66 : decode cX3_become 66 = .ok (.aload_n 1, 1) := by decide +kernel
theorem dX3_become_67 : decode cX3_become 67 = .ok (.getfield 43, 3) := by decide +kernel
theorem dX3_become_70 : decode cX3_become 70 = .ok (.putfield 43, 3) := by decide +kernel
theorem dX3_become_73 : decode cX3_become 73 = .ok (.return_, 1) := by decide +kernel
theorem dX3_begin_0 : decode cX3_begin 0 = .ok (.aload_n 0, 1) := by decide +kernel
theorem dX3_begin_1 : decode cX3_begin 1 = .ok (.iload_n 1, 1) := by decide +kernel
theorem dX3_begin_2 : decode cX3_begin 2 = .ok (.putfield 30, 3) := by decide +kernel
theorem dX3_begin_5 : decode cX3_begin 5 = .ok (.aload_n 0, 1) := by decide +kernel
theorem dX3_begin_6 : decode cX3_begin 6 = .ok (.iconst 1, 1) := by decide +kernel
theorem dX3_begin_7 : decode cX3_begin 7 = .ok (.putfield 43, 3) := by decide +kernel
theorem dX3_begin_10 : decode cX3_begin 10 = .ok (.aload_n 0, 1) := by decide +kernel
theorem dX3_begin_11 : decode cX3_begin 11 = .ok (.iload_n 2, 1) := by decide +kernel
theorem dX3_begin_12 : decode cX3_begin 12 = .ok (.iload_n 3, 1) := by decide +kernel
theorem dX3_begin_13 : decode cX3_begin 13 = .ok (.invokevirtual 46, 3) := by decide +kernel
theorem dX3_begin_16 : decode cX3_begin 16 = .ok (.aload_n 0, 1) := by decide +kernel
theorem dX3_begin_17 : decode cX3_begin 17 = .ok (.aload 4, 2) := by decide +kernel
theorem dX3_begin_19 : decode cX3_begin 19 = .ok (.invokevirtual 50, 3) := by decide +kernel
theorem dX3_begin_22 : decode cX3_begin 22 = .ok (.return_, 1) := by decide +kernel
theorem dX3_attachTo_0 : decode cX3_attachTo 0 = .ok (.aload_n 0, 1) := by decide +kernel
theorem dX3_attachTo_1 : decode cX3_attachTo 1 = .ok (.iload_n 1, 1) := by decide +kernel
theorem dX3_attachTo_2 : decode cX3_attachTo 2 = .ok (.putfield 37, 3) := by decide +kernel
theorem dX3_attachTo_5 : decode cX3_attachTo 5 = .ok (.aload_n 0, 1) := by decide +kernel
theorem dX3_attachTo_6 : decode cX3_attachTo 6 = .ok (.iload_n 2, 1) := by decide +kernel
theorem dX3_attachTo_7 : decode cX3_attachTo 7 = .ok (.putfield 40, 3) := by decide +kernel
theorem dX3_attachTo_10 : decode cX3_attachTo 10 = .ok (.aload_n 0, 1) := by decide +kernel
theorem dX3_attachTo_11 : decode cX3_attachTo 11 = .ok (.iconst 1, 1) := by decide +kernel
theorem dX3_attachTo_12 : decode cX3_attachTo 12 = .ok (.putfield 34, 3) := by decide +kernel
theorem dX3_attachTo_15 : decode cX3_attachTo 15 = .ok (.return_, 1) := by decide +kernel
theorem dX3_quoteFrom_0 : decode cX3_quoteFrom 0 = .ok (.aload_n 0, 1) := by decide +kernel
theorem dX3_quoteFrom_1 : decode cX3_quoteFrom 1 = .ok (.getfield 14, 3) := by decide +kernel
theorem dX3_quoteFrom_4 : decode cX3_quoteFrom 4 = .ok (.aload_n 1, 1) := by decide +kernel
theorem dX3_quoteFrom_5 : decode cX3_quoteFrom 5 = .ok (.aload_n 0, 1) := by decide +kernel
theorem dX3_quoteFrom_6 : decode cX3_quoteFrom 6 = .ok (.getfield 37, 3) := by decide +kernel
theorem dX3_quoteFrom_9 : decode cX3_quoteFrom 9 = .ok (.bipush 6, 2) := by decide +kernel
theorem dX3_quoteFrom_11 : decode cX3_quoteFrom 11 = .ok (.isub, 1) := by decide +kernel
theorem dX3_quoteFrom_12 : decode cX3_quoteFrom 12 = .ok (.aload_n 0, 1) := by decide +kernel
theorem dX3_quoteFrom_13 : decode cX3_quoteFrom 13 = .ok (.getfield 37, 3) := by decide +kernel
theorem dX3_quoteFrom_16 : decode cX3_quoteFrom 16 = .ok (.invokevirtual 53, 3) := by decide +kernel
theorem dX3_quoteFrom_19 : decode cX3_quoteFrom 19 = .ok (.aload_n 0, 1) := by decide +kernel
theorem dX3_quoteFrom_20 : decode cX3_quoteFrom 20 = .ok (.getfield 20, 3) := by decide +kernel
theorem dX3_quoteFrom_23 : decode cX3_quoteFrom 23 = .ok (.aload_n 1, 1) := by decide +kernel
theorem dX3_quoteFrom_24 : decode cX3_quoteFrom 24 = .ok (.aload_n 0, 1) := by decide +kernel
theorem dX3_quoteFrom_25 : decode cX3_quoteFrom 25 = .ok (.getfield 37, 3) := by decide +kernel
theorem dX3_quoteFrom_28 : decode cX3_quoteFrom 28 = .ok (.aload_n 0, 1) := by decide +kernel
theorem dX3_quoteFrom_29 : decode cX3_quoteFrom 29 = .ok (.getfield 40, 3) := by decide +kernel
theorem dX3_quoteFrom_32 : decode cX3_quoteFrom 32 = .ok (.invokevirtual 53, 3) := by decide +kernel
theorem dX3_quoteFrom_35 : decode cX3_quoteFrom 35 = .ok (.aload_n 0, 1) := by decide +kernel
theorem dX3_quoteFrom_36 : decode cX3_quoteFrom 36 = .ok (.getfield 23, 3) := by decide +kernel
theorem dX3_quoteFrom_39 : decode cX3_quoteFrom 39 = .ok (.aload_n 1, 1) := by decide +kernel
theorem dX3_quoteFrom_40 : decode cX3_quoteFrom 40 = .ok (.aload_n 0, 1) := by decide +kernel
theorem dX3_quoteFrom_41 : decode cX3_quoteFrom 41 = .ok (.getfield 40, 3) := by decide +kernel
theorem dX3_quoteFrom_44 : decode cX3_quoteFrom 44 = .ok (.aload_n 0, 1) := by decide +kernel
theorem dX3_quoteFrom_45 : decode cX3_quoteFrom 45 = .ok (.getfield 40, 3) := by decide +kernel
theorem dX3_quoteFrom_48 : decode cX3_quoteFrom 48 = .ok (.bipush 6, 2) := by decide +kernel
theorem dX3_quoteFrom_50 : decode cX3_quoteFrom 50 = .ok (.iadd, 1) := by decide +kernel
theorem dX3_quoteFrom_51 : decode cX3_quoteFrom 51 = .ok (.invokevirtual 53, 3) := by decide +kernel
theorem dX3_quoteFrom_54 : decode cX3_quoteFrom 54 = .ok (.return_, 1) := by decide +kernel
theorem dX3_moveForInsert_0 : decode cX3_moveForInsert 0 = .ok (.aload_n 0, 1) := by decide +kernel
theorem dX3_moveForInsert_1 : decode cX3_moveForInsert 1 = .ok (.getfield 37, 3) := by decide +kernel
theorem dX3_moveForInsert_4 : decode cX3_moveForInsert 4 = .ok (.iload_n 1, 1) := by decide +kernel
theorem dX3_moveForInsert_5 : decode cX3_moveForInsert 5 = .ok (.if_icmp .lt 26, 3) := by decide +kernel
theorem dX3_moveForInsert_8 : decode cX3_moveForInsert 8 = .ok (.aload_n 0, 1) := by decide +kernel
theorem dX3_moveForInsert_9 : decode cX3_moveForInsert 9 = .ok (.dup, 1) := by decide +kernel
theorem dX3_moveForInsert_10 : decode cX3_moveForInsert 10 = .ok (.getfield 37, 3) := by decide +kernel
theorem dX3_moveForInsert_13 : decode cX3_moveForInsert 13 = .ok (.iload_n 2, 1) := by decide +kernel
theorem dX3_moveForInsert_14 : decode cX3_moveForInsert 14 = .ok (.iadd, 1) := by decide +kernel
theorem dX3_moveForInsert_15 : decode cX3_moveForInsert 15 = .ok (.putfield 37, 3) := by decide +kernel
theorem dX3_moveForInsert_18 : decode cX3_moveForInsert 18 = .ok (.aload_n 0, 1) := by decide +kernel
theorem dX3_moveForInsert_19 : decode cX3_moveForInsert 19 = .ok (.dup, 1) := by decide +kernel
theorem dX3_moveForInsert_20 : decode cX3_moveForInsert 20 = .ok (.getfield 40, 3) := by decide +kernel
theorem dX3_moveForInsert_23 : decode cX3_moveForInsert 23 = .ok (.iload_n 2, 1) := by decide +kernel
theorem dX3_moveForInsert_24 : decode cX3_moveForInsert 24 = .ok (.iadd, 1) := by decide +kernel
theorem dX3_moveForInsert_25 : decode cX3_moveForInsert 25 = .ok (.putfield 40, 3) := by decide +kernel
theorem dX3_moveForInsert_28 : decode cX3_moveForInsert 28 = .ok (.goto 21, 3) := by decide +kernel
theorem dX3_moveForInsert_31 : decode cX3_moveForInsert 31 = .ok (.aload_n 0, 1) := by decide +kernel
theorem dX3_moveForInsert_32 : decode cX3_moveForInsert 32 = .ok (.getfield 40, 3) := by decide +kernel
theorem dX3_moveForInsert_35 : decode cX3_moveForInsert 35 = .ok (.iload_n 1, 1) := by decide +kernel
theorem dX3_moveForInsert_36 : decode cX3_moveForInsert 36 = .ok (.if_icmp .le 13, 3) := by decide +kernel
theorem dX3_moveForInsert_39 : decode cX3_moveForInsert 39 = .ok (.aload_n 0, 1) := by decide +kernel
theorem dX3_moveForInsert_40 : decode cX3_moveForInsert 40 = .ok (.dup, 1) := by decide +kernel
theorem dX3_moveForInsert_41 : decode cX3_moveForInsert 41 = .ok (.getfield 40, 3) := by decide +kernel
theorem dX3_moveForInsert_44 : decode cX3_moveForInsert 44 = .ok (.iload_n 2, 1) := by decide +kernel
theorem dX3_moveForInsert_45 : decode cX3_moveForInsert 45 = .ok (.iadd, 1) := by decide +kernel
theorem dX3_moveForInsert_46 : decode cX3_moveForInsert 46 = .ok (.putfield 40, 3) := by decide +kernel
theorem dX3_moveForInsert_49 : decode cX3_moveForInsert 49 = .ok (.return_, 1) := by decide +kernel
theorem dX3_moveForDelete_0 : decode cX3_moveForDelete 0 = .ok (.aload_n 0, 1) := by decide +kernel
theorem dX3_moveForDelete_1 : decode cX3_moveForDelete 1 = .ok (.aload_n 0, 1) := by decide +kernel
theorem dX3_moveForDelete_2 : decode cX3_moveForDelete 2 = .ok (.getfield 37, 3) := by decide +kernel
theorem dX3_moveForDelete_5 : decode cX3_moveForDelete 5 = .ok (.iload_n 1, 1) := by decide +kernel
theorem dX3_moveForDelete_6 : decode cX3_moveForDelete 6 = .ok (.iload_n 2, 1) := by decide +kernel
theorem dX3_moveForDelete_7 : decode cX3_moveForDelete 7 = .ok (.invokestatic 57, 3) := by decide +kernel
theorem dX3_moveForDelete_10 : decode cX3_moveForDelete 10 = .ok (.putfield 37, 3) := by decide +kernel
theorem dX3_moveForDelete_13 : decode cX3_moveForDelete 13 = .ok (.aload_n 0, 1) := by decide +kernel
theorem dX3_moveForDelete_14 : decode cX3_moveForDelete 14 = .ok (.aload_n 0, 1) := by decide +kernel
theorem dX3_moveForDelete_15 : decode cX3_moveForDelete 15 = .ok (.getfield 40, 3) := by decide +kernel
theorem dX3_moveForDelete_18 : decode cX3_moveForDelete 18 = .ok (.iload_n 1, 1) := by decide +kernel
theorem dX3_moveForDelete_19 : decode cX3_moveForDelete 19 = .ok (.iload_n 2, 1) := by decide +kernel
theorem dX3_moveForDelete_20 : decode cX3_moveForDelete 20 = .ok (.invokestatic 57, 3) := by decide +kernel
theorem dX3_moveForDelete_23 : decode cX3_moveForDelete 23 = .ok (.putfield 40, 3) := by decide +kernel
theorem dX3_moveForDelete_26 : decode cX3_moveForDelete 26 = .ok (.aload_n 0, 1) := by decide +kernel
theorem dX3_moveForDelete_27 : decode cX3_moveForDelete 27 = .ok (.getfield 34, 3) := by decide +kernel
theorem dX3_moveForDelete_30 : decode cX3_moveForDelete 30 = .ok (.ifCond .eq 14, 3) := by decide +kernel
theorem dX3_moveForDelete_33 : decode cX3_moveForDelete 33 = .ok (.aload_n 0, 1) := by decide +kernel
theorem dX3_moveForDelete_34 : decode cX3_moveForDelete 34 = .ok (.getfield 37, 3) := by decide +kernel
theorem dX3_moveForDelete_37 : decode cX3_moveForDelete 37 = .ok (.aload_n 0, 1) := by decide +kernel
theorem dX3_moveForDelete_38 : decode cX3_moveForDelete 38 = .ok (.getfield 40, 3) := by decide +kernel
theorem dX3_moveForDelete_41 : decode cX3_moveForDelete 41 = .ok (.if_icmp .ge 5, 3) := by decide +kernel
theorem dX3_moveForDelete_44 : decode cX3_moveForDelete 44 = .ok (.iconst 0, 1) := by decide +kernel
theorem dX3_moveForDelete_45 : decode cX3_moveForDelete 45 = .ok (.ireturn, 1) := by decide +kernel
theorem dX3_moveForDelete_46 : decode cX3_moveForDelete 46 = .ok (.aload_n 0, 1) := by decide +kernel
theorem dX3_moveForDelete_47 : decode cX3_moveForDelete 47 = .ok (.iconst 0, 1) := by decide +kernel
theorem dX3_moveForDelete_48 : decode cX3_moveForDelete 48 = .ok (.putfield 34, 3) := by decide +kernel
theorem dX3_moveForDelete_51 : decode cX3_moveForDelete 51 = .ok (.iconst 1, 1) := by decide +kernel
theorem dX3_moveForDelete_52 : decode cX3_moveForDelete 52 = .ok (.ireturn, 1) := by decide +kernel
theorem dX3_boundAfterDelete_0 : decode cX3_boundAfterDelete 0 = .ok (.iload_n 0, 1) := by decide +kernel
theorem dX3_boundAfterDelete_1 : decode cX3_boundAfterDelete 1 = .ok (.iload_n 1, 1) := by decide +kernel
theorem dX3_boundAfterDelete_2 : decode cX3_boundAfterDelete 2 = .ok (.iload_n 2, 1) := by decide +kernel
theorem dX3_boundAfterDelete_3 : decode cX3_boundAfterDelete 3 = .ok (.iadd, 1) := by decide +kernel
theorem dX3_boundAfterDelete_4 : decode cX3_boundAfterDelete 4 = .ok (.if_icmp .lt 9, 3) := by decide +kernel
theorem dX3_boundAfterDelete_7 : decode cX3_boundAfterDelete 7 = .ok (.iload_n 0, 1) := by decide +kernel
theorem dX3_boundAfterDelete_8 : decode cX3_boundAfterDelete 8 = .ok (.iload_n 2, 1) := by decide +kernel
theorem dX3_boundAfterDelete_9 : decode cX3_boundAfterDelete 9 = .ok (.isub, 1) := by decide +kernel
theorem dX3_boundAfterDelete_10 : decode cX3_boundAfterDelete 10 = .ok (.goto 8, 3) := by decide +kernel
theorem dX3_boundAfterDelete_13 : decode cX3_boundAfterDelete 13 = .ok (.iload_n 0, 1) := by decide +kernel
theorem dX3_boundAfterDelete_14 : decode cX3_boundAfterDelete 14 = .ok (.iload_n 1, 1) := by decide +kernel
theorem dX3_boundAfterDelete_15 : decode cX3_boundAfterDelete 15 = .ok (.invokestatic 61, 3) := by decide +kernel
theorem dX3_boundAfterDelete_18 : decode cX3_boundAfterDelete 18 = .ok (.ireturn, 1) := by decide +kernel
theorem dX3_moveForReplacement_0 : decode cX3_moveForReplacement 0 = .ok (.aload_n 0, 1) := by decide +kernel
theorem dX3_moveForReplacement_1 : decode cX3_moveForReplacement 1 = .ok (.iconst 0, 1) := by decide +kernel
theorem dX3_moveForReplacement_2 : decode cX3_moveForReplacement 2 = .ok (.putfield 34, 3) := by decide +kernel
theorem dX3_moveForReplacement_5 : decode cX3_moveForReplacement 5 = .ok (.aload_n 0, 1) := by decide +kernel
theorem dX3_moveForReplacement_6 : decode cX3_moveForReplacement 6 = .ok (.aload_n 0, 1) := by decide +kernel
theorem dX3_moveForReplacement_7 : decode cX3_moveForReplacement 7 = .ok (.getfield 37, 3) := by decide +kernel
theorem dX3_moveForReplacement_10 : decode cX3_moveForReplacement 10 = .ok (.iload_n 1, 1) := by decide +kernel
theorem dX3_moveForReplacement_11 : decode cX3_moveForReplacement 11 = .ok (.invokestatic 61, 3) := by decide +kernel
theorem dX3_moveForReplacement_14 : decode cX3_moveForReplacement 14 = .ok (.putfield 37, 3) := by decide +kernel
theorem dX3_moveForReplacement_17 : decode cX3_moveForReplacement 17 = .ok (.aload_n 0, 1) := by decide +kernel
theorem dX3_moveForReplacement_18 : decode cX3_moveForReplacement 18 = .ok (.aload_n 0, 1) := by decide +kernel
theorem dX3_moveForReplacement_19 : decode cX3_moveForReplacement 19 = .ok (.getfield 40, 3) := by decide +kernel
theorem dX3_moveForReplacement_22 : decode cX3_moveForReplacement 22 = .ok (.iload_n 1, 1) := by decide +kernel
theorem dX3_moveForReplacement_23 : decode cX3_moveForReplacement 23 = .ok (.invokestatic 61, 3) := by decide +kernel
theorem dX3_moveForReplacement_26 : decode cX3_moveForReplacement 26 = .ok (.putfield 40, 3) := by decide +kernel
theorem dX3_moveForReplacement_29 : decode cX3_moveForReplacement 29 = .ok (.return_, 1) := by decide +kernel
theorem dX3_isTwinOf_0 : decode cX3_isTwinOf 0 = .ok (.aload_n 0, 1) := by decide +kernel
theorem dX3_isTwinOf_1 : decode cX3_isTwinOf 1 = .ok (.getfield 34, 3) := by decide +kernel
theorem dX3_isTwinOf_4 : decode cX3_isTwinOf 4 = .ok (.iconst 1, 1) := by decide +kernel
theorem dX3_isTwinOf_5 : decode cX3_isTwinOf 5 = .ok (.if_icmp .ne 37, 3) := by decide +kernel
theorem dX3_isTwinOf_8 : decode cX3_isTwinOf 8 = .ok (.aload_n 1, 1) := by decide +kernel
theorem dX3_isTwinOf_9 : decode cX3_isTwinOf 9 = .ok (.getfield 34, 3) := by decide +kernel
theorem dX3_isTwinOf_12 : decode cX3_isTwinOf 12 = .ok (.iconst 1, 1) := by decide +kernel
theorem dX3_isTwinOf_13 : decode cX3_isTwinOf 13 = .ok (.if_icmp .ne 29, 3) := by decide +kernel
theorem dX3_isTwinOf_16 : decode cX3_isTwinOf 16 = .ok (.aload_n 0, 1) := by decide +kernel
theorem dX3_isTwinOf_17 : decode cX3_isTwinOf 17 = .ok (.getfield 37, 3) := by decide +kernel
theorem dX3_isTwinOf_20 : decode cX3_isTwinOf 20 = .ok (.aload_n 1, 1) := by decide +kernel
theorem dX3_isTwinOf_21 : decode cX3_isTwinOf 21 = .ok (.getfield 37, 3) := by decide +kernel
theorem dX3_isTwinOf_24 : decode cX3_isTwinOf 24 = .ok (.if_icmp .ne 18, 3) := by decide +kernel
theorem dX3_isTwinOf_27 : decode cX3_isTwinOf 27 = .ok (.aload_n 0, 1) := by decide +kernel
theorem dX3_isTwinOf_28 : decode cX3_isTwinOf 28 = .ok (.getfield 40, 3) := by decide +kernel
theorem dX3_isTwinOf_31 : decode cX3_isTwinOf 31 = .ok (.aload_n 1, 1) := by decide +kernel
theorem dX3_isTwinOf_32 : decode cX3_isTwinOf 32 = .ok (.getfield 40, 3) := by decide +kernel
theorem dX3_isTwinOf_35 : decode cX3_isTwinOf 35 = .ok (.if_icmp .ne 7, 3) := by decide +kernel
theorem dX3_isTwinOf_38 : decode cX3_isTwinOf 38 = .ok (.iconst 1, 1) := by decide +kernel
theorem dX3_isTwinOf_39 : decode cX3_isTwinOf 39 = .ok (.goto 4, 3) := by decide +kernel
theorem dX3_isTwinOf_42 : decode cX3_isTwinOf 42 = .ok (.iconst 0, 1) := by decide +kernel
theorem dX3_isTwinOf_43 : decode cX3_isTwinOf 43 = .ok (.ireturn, 1) := by decide +kernel
theorem dX3_covers_0 : decode cX3_covers 0 = .ok (.aload_n 0, 1) := by decide +kernel
theorem dX3_covers_1 : decode cX3_covers 1 = .ok (.getfield 34, 3) := by decide +kernel
theorem dX3_covers_4 : decode cX3_covers 4 = .ok (.iconst 1, 1) := by decide +kernel
theorem dX3_covers_5 : decode cX3_covers 5 = .ok (.if_icmp .ne 23, 3) := by decide +kernel
theorem dX3_covers_8 : decode cX3_covers 8 = .ok (.aload_n 0, 1) := by decide +kernel
theorem dX3_covers_9 : decode cX3_covers 9 = .ok (.getfield 37, 3) := by decide +kernel
theorem dX3_covers_12 : decode cX3_covers 12 = .ok (.iload_n 1, 1) := by decide +kernel
theorem dX3_covers_13 : decode cX3_covers 13 = .ok (.if_icmp .gt 15, 3) := by decide +kernel
theorem dX3_covers_16 : decode cX3_covers 16 = .ok (.iload_n 1, 1) := by decide +kernel
theorem dX3_covers_17 : decode cX3_covers 17 = .ok (.aload_n 0, 1) := by decide +kernel
theorem dX3_covers_18 : decode cX3_covers 18 = .ok (.getfield 40, 3) := by decide +kernel
theorem dX3_covers_21 : decode cX3_covers 21 = .ok (.if_icmp .ge 7, 3) := by decide +kernel
theorem dX3_covers_24 : decode cX3_covers 24 = .ok (.iconst 1, 1) := by decide +kernel
theorem dX3_covers_25 : decode cX3_covers 25 = .ok (.goto 4, 3) := by decide +kernel
theorem dX3_covers_28 : decode cX3_covers 28 = .ok (.iconst 0, 1) := by decide +kernel
theorem dX3_covers_29 : decode cX3_covers 29 = .ok (.ireturn, 1) := by decide +kernel
theorem dX3_standsBefore_0 : decode cX3_standsBefore 0 = .ok (.aload_n 0, 1) := by decide +kernel
theorem dX3_standsBefore_1 : decode cX3_standsBefore 1 = .ok (.getfield 37, 3) := by decide +kernel
theorem dX3_standsBefore_4 : decode cX3_standsBefore 4 = .ok (.aload_n 1, 1) := by decide +kernel
theorem dX3_standsBefore_5 : decode cX3_standsBefore 5 = .ok (.getfield 37, 3) := by decide +kernel
theorem dX3_standsBefore_8 : decode cX3_standsBefore 8 = .ok (.if_icmp .eq 20, 3) := by decide +kernel
theorem dX3_standsBefore_11 : decode cX3_standsBefore 11 = .ok (.aload_n 0, 1) := by decide +kernel
theorem dX3_standsBefore_12 : decode cX3_standsBefore 12 = .ok (.getfield 37, 3) := by decide +kernel
theorem dX3_standsBefore_15 : decode cX3_standsBefore 15 = .ok (.aload_n 1, 1) := by decide +kernel
theorem dX3_standsBefore_16 : decode cX3_standsBefore 16 = .ok (.getfield 37, 3) := by decide +kernel
theorem dX3_standsBefore_19 : decode cX3_standsBefore 19 = .ok (.if_icmp .ge 7, 3) := by decide +kernel
theorem dX3_standsBefore_22 : decode cX3_standsBefore 22 = .ok (.iconst 1, 1) := by decide +kernel
theorem dX3_standsBefore_23 : decode cX3_standsBefore 23 = .ok (.goto 4, 3) := by decide +kernel
theorem dX3_standsBefore_26 : decode cX3_standsBefore 26 = .ok (.iconst 0, 1) := by decide +kernel
theorem dX3_standsBefore_27 : decode cX3_standsBefore 27 = .ok (.ireturn, 1) := by decide +kernel
theorem dX3_standsBefore_28 : decode cX3_standsBefore 28 = .ok (.aload_n 0, 1) := by decide +kernel
theorem dX3_standsBefore_29 : decode cX3_standsBefore 29 = .ok (.getfield 40, 3) := by decide +kernel
theorem dX3_standsBefore_32 : decode cX3_standsBefore 32 = .ok (.aload_n 1, 1) := by decide +kernel
theorem dX3_standsBefore_33 : decode cX3_standsBefore 33 = .ok (.getfield 40, 3) := by decide +kernel
theorem dX3_standsBefore_36 : decode cX3_standsBefore 36 = .ok (.if_icmp .eq 22, 3) := by decide +kernel
theorem dX3_standsBefore_39 : decode cX3_standsBefore 39 = .ok (.aload_n 0, 1) := by decide +kernel
theorem dX3_standsBefore_40 : decode cX3_standsBefore 40 = .ok (.getfield 40, 3) := by decide +kernel
theorem dX3_standsBefore_43 : decode cX3_standsBefore 43 = .ok (.aload_n 1, 1) := by decide +kernel
theorem dX3_standsBefore_44 : decode cX3_standsBefore 44 = .ok (.getfield 40, 3) := by decide +kernel
theorem dX3_standsBefore_47 : decode cX3_standsBefore 47 = .ok (.if_icmp .le 7, 3) := by decide +kernel
theorem dX3_standsBefore_50 : decode cX3_standsBefore 50 = .ok (.iconst 1, 1) := by decide +kernel
theorem dX3_standsBefore_51 : decode cX3_standsBefore 51 = .ok (.goto 23, 3) := by decide +kernel
theorem dX3_standsBefore_54 : decode cX3_standsBefore 54 = .ok (.iconst 0, 1) := by decide +kernel
theorem dX3_standsBefore_55 : decode cX3_standsBefore 55 = .ok (.goto 19, 3) := by decide +kernel
theorem dX3_standsBefore_58 : decode cX3_standsBefore 58 = .ok (.aload_n 0, 1) := by decide +kernel
theorem dX3_standsBefore_59 : decode cX3_standsBefore 59 = .ok (.getfield 30, 3) := by decide +kernel
theorem dX3_standsBefore_62 : decode cX3_standsBefore 62 = .ok (.aload_n 1, 1) := by decide +kernel
theorem dX3_standsBefore_63 : decode cX3_standsBefore 63 = .ok (.getfield 30, 3) := by decide +kernel
theorem dX3_standsBefore_66 : decode cX3_standsBefore 66 = .ok (.if_icmp .ge 7, 3) := by decide +kernel
theorem dX3_standsBefore_69 : decode cX3_standsBefore 69 = .ok (.iconst 1, 1) := by decide +kernel
theorem dX3_standsBefore_70 : decode cX3_standsBefore 70 = .ok (.goto 4, 3) := by decide +kernel
theorem dX3_standsBefore_73 : decode cX3_standsBefore 73 = .ok (.iconst 0, 1) := by decide +kernel
theorem dX3_standsBefore_74 : decode cX3_standsBefore 74 = .ok (.ireturn, 1) := by decide +kernel
theorem dX3_scoreOf_0 : decode cX3_scoreOf 0 = .ok (.aload_n 0, 1) := by decide +kernel
theorem dX3_scoreOf_1 : decode cX3_scoreOf 1 = .ok (.aload_n 2, 1) := by decide +kernel
theorem dX3_scoreOf_2 : decode cX3_scoreOf 2 = .ok (.iload_n 3, 1) := by decide +kernel
theorem dX3_scoreOf_3 : decode cX3_scoreOf 3 = .ok (.invokevirtual 67, 3) := by decide +kernel
theorem dX3_scoreOf_6 : decode cX3_scoreOf 6 = .ok (.aload_n 0, 1) := by decide +kernel
theorem dX3_scoreOf_7 : decode cX3_scoreOf 7 = .ok (.aload_n 2, 1) := by decide +kernel
theorem dX3_scoreOf_8 : decode cX3_scoreOf 8 = .ok (.iload 4, 2) := by decide +kernel
theorem dX3_scoreOf_10 : decode cX3_scoreOf 10 = .ok (.invokevirtual 71, 3) := by decide +kernel
theorem dX3_scoreOf_13 : decode cX3_scoreOf 13 = .ok (.iadd, 1) := by decide +kernel
theorem dX3_scoreOf_14 : decode cX3_scoreOf 14 = .ok (.istore 5, 2) := by decide +kernel
theorem dX3_scoreOf_16 : decode cX3_scoreOf 16 = .ok (.bipush 60, 2) := by decide +kernel
theorem dX3_scoreOf_18 : decode cX3_scoreOf 18 = .ok (.bipush 10, 2) := by decide +kernel
theorem dX3_scoreOf_20 : decode cX3_scoreOf 20 = .ok (.iload_n 1, 1) := by decide +kernel
theorem dX3_scoreOf_21 : decode cX3_scoreOf 21 = .ok (.imul, 1) := by decide +kernel
theorem dX3_scoreOf_22 : decode cX3_scoreOf 22 = .ok (.isub, 1) := by decide +kernel
theorem dX3_scoreOf_23 : decode cX3_scoreOf 23 = .ok (.iconst 4, 1) := by decide +kernel
theorem dX3_scoreOf_24 : decode cX3_scoreOf 24 = .ok (.iload 5, 2) := by decide +kernel
theorem dX3_scoreOf_26 : decode cX3_scoreOf 26 = .ok (.imul, 1) := by decide +kernel
theorem dX3_scoreOf_27 : decode cX3_scoreOf 27 = .ok (.iadd, 1) := by decide +kernel
theorem dX3_scoreOf_28 : decode cX3_scoreOf 28 = .ok (.iload_n 3, 1) := by decide +kernel
theorem dX3_scoreOf_29 : decode cX3_scoreOf 29 = .ok (.aload_n 0, 1) := by decide +kernel
theorem dX3_scoreOf_30 : decode cX3_scoreOf 30 = .ok (.getfield 37, 3) := by decide +kernel
theorem dX3_scoreOf_33 : decode cX3_scoreOf 33 = .ok (.isub, 1) := by decide +kernel
theorem dX3_scoreOf_34 : decode cX3_scoreOf 34 = .ok (.invokestatic 74, 3) := by decide +kernel
theorem dX3_scoreOf_37 : decode cX3_scoreOf 37 = .ok (.iconst 5, 1) := by decide +kernel
theorem dX3_scoreOf_38 : decode cX3_scoreOf 38 = .ok (.idiv, 1) := by decide +kernel
theorem dX3_scoreOf_39 : decode cX3_scoreOf 39 = .ok (.isub, 1) := by decide +kernel
theorem dX3_scoreOf_40 : decode cX3_scoreOf 40 = .ok (.ireturn, 1) := by decide +kernel
theorem dX3_likeBefore_0 : decode cX3_likeBefore 0 = .ok (.iconst 0, 1) := by decide +kernel
theorem dX3_likeBefore_1 : decode cX3_likeBefore 1 = .ok (.istore_n 3, 1) := by decide +kernel
theorem dX3_likeBefore_2 : decode cX3_likeBefore 2 = .ok (.iload_n 3, 1) := by decide +kernel
theorem dX3_likeBefore_3 : decode cX3_likeBefore 3 = .ok (.aload_n 0, 1) := by decide +kernel
theorem dX3_likeBefore_4 : decode cX3_likeBefore 4 = .ok (.getfield 14, 3) := by decide +kernel
theorem dX3_likeBefore_7 : decode cX3_likeBefore 7 = .ok (.getfield 78, 3) := by decide +kernel
theorem dX3_likeBefore_10 : decode cX3_likeBefore 10 = .ok (.if_icmp .ge 39, 3) := by decide +kernel
theorem dX3_likeBefore_13 : decode cX3_likeBefore 13 = .ok (.aload_n 0, 1) := by decide +kernel
theorem dX3_likeBefore_14 : decode cX3_likeBefore 14 = .ok (.getfield 14, 3) := by decide +kernel
theorem dX3_likeBefore_17 : decode cX3_likeBefore 17 = .ok (.aload_n 0, 1) := by decide +kernel
theorem dX3_likeBefore_18 : decode cX3_likeBefore 18 = .ok (.getfield 14, 3) := by decide +kernel
theorem dX3_likeBefore_21 : decode cX3_likeBefore 21 = .ok (.getfield 78, 3) := by decide +kernel
theorem dX3_likeBefore_24 : decode cX3_likeBefore 24 = .ok (.iconst 1, 1) := by decide +kernel
theorem dX3_likeBefore_25 : decode cX3_likeBefore 25 = .ok (.isub, 1) := by decide +kernel
theorem dX3_likeBefore_26 : decode cX3_likeBefore 26 = .ok (.iload_n 3, 1) := by decide +kernel
theorem dX3_likeBefore_27 : decode cX3_likeBefore 27 = .ok (.isub, 1) := by decide +kernel
theorem dX3_likeBefore_28 : decode cX3_likeBefore 28 = .ok (.invokevirtual 81, 3) := by decide +kernel
theorem dX3_likeBefore_31 : decode cX3_likeBefore 31 = .ok (.aload_n 1, 1) := by decide +kernel
theorem dX3_likeBefore_32 : decode cX3_likeBefore 32 = .ok (.iload_n 2, 1) := by decide +kernel
theorem dX3_likeBefore_33 : decode cX3_likeBefore 33 = .ok (.iconst 1, 1) := by decide +kernel
theorem dX3_likeBefore_34 : decode cX3_likeBefore 34 = .ok (.isub, 1) := by decide +kernel
theorem dX3_likeBefore_35 : decode cX3_likeBefore 35 = .ok (.iload_n 3, 1) := by decide +kernel
theorem dX3_likeBefore_36 : decode cX3_likeBefore 36 = .ok (.isub, 1) := by decide +kernel
theorem dX3_likeBefore_37 : decode cX3_likeBefore 37 = .ok (.invokevirtual 81, 3) := by decide +kernel
theorem dX3_likeBefore_40 : decode cX3_likeBefore 40 = .ok (.if_icmp .ne 9, 3) := by decide +kernel
theorem dX3_likeBefore_43 : decode cX3_likeBefore 43 = .ok (.iinc 3 1, 3) := by decide +kernel
theorem dX3_likeBefore_46 : decode cX3_likeBefore 46 = .ok (.goto (-44), 3) := by decide +kernel
theorem dX3_likeBefore_49 : decode cX3_likeBefore 49 = .ok (.iload_n 3, 1) := by decide +kernel
theorem dX3_likeBefore_50 : decode cX3_likeBefore 50 = .ok (.ireturn, 1) := by decide +kernel
theorem dX3_likeBehind_0 : decode cX3_likeBehind 0 = .ok (.iconst 0, 1) := by decide +kernel
theorem dX3_likeBehind_1 : decode cX3_likeBehind 1 = .ok (.istore_n 3, 1) := by decide +kernel
theorem dX3_likeBehind_2 : decode cX3_likeBehind 2 = .ok (.iload_n 3, 1) := by decide +kernel
theorem dX3_likeBehind_3 : decode cX3_likeBehind 3 = .ok (.aload_n 0, 1) := by decide +kernel
theorem dX3_likeBehind_4 : decode cX3_likeBehind 4 = .ok (.getfield 23, 3) := by decide +kernel
theorem dX3_likeBehind_7 : decode cX3_likeBehind 7 = .ok (.getfield 78, 3) := by decide +kernel
theorem dX3_likeBehind_10 : decode cX3_likeBehind 10 = .ok (.if_icmp .ge 27, 3) := by decide +kernel
theorem dX3_likeBehind_13 : decode cX3_likeBehind 13 = .ok (.aload_n 0, 1) := by decide +kernel
theorem dX3_likeBehind_14 : decode cX3_likeBehind 14 = .ok (.getfield 23, 3) := by decide +kernel
theorem dX3_likeBehind_17 : decode cX3_likeBehind 17 = .ok (.iload_n 3, 1) := by decide +kernel
theorem dX3_likeBehind_18 : decode cX3_likeBehind 18 = .ok (.invokevirtual 81, 3) := by decide +kernel
theorem dX3_likeBehind_21 : decode cX3_likeBehind 21 = .ok (.aload_n 1, 1) := by decide +kernel
theorem dX3_likeBehind_22 : decode cX3_likeBehind 22 = .ok (.iload_n 2, 1) := by decide +kernel
theorem dX3_likeBehind_23 : decode cX3_likeBehind 23 = .ok (.iload_n 3, 1) := by decide +kernel
theorem dX3_likeBehind_24 : decode cX3_likeBehind 24 = .ok (.iadd, 1) := by decide +kernel
theorem dX3_likeBehind_25 : decode cX3_likeBehind 25 = .ok (.invokevirtual 81, 3) := by decide +kernel
theorem dX3_likeBehind_28 : decode cX3_likeBehind 28 = .ok (.if_icmp .ne 9, 3) := by decide +kernel
theorem dX3_likeBehind_31 : decode cX3_likeBehind 31 = .ok (.iinc 3 1, 3) := by decide +kernel
theorem dX3_likeBehind_34 : decode cX3_likeBehind 34 = .ok (.goto (-32), 3) := by decide +kernel
theorem dX3_likeBehind_37 : decode cX3_likeBehind 37 = .ok (.iload_n 3, 1) := by decide +kernel
theorem dX3_likeBehind_38 : decode cX3_likeBehind 38 = .ok (.ireturn, 1) := by decide +kernel
theorem dX4_init_0 : decode cX4_init 0 = .ok (.aload_n 0, 1) := by decide +kernel
theorem dX4_init_1 : decode cX4_init 1 = .ok (.invokespecial 3, 3) := by decide +kernel
theorem dX4_init_4 : decode cX4_init 4 = .ok (.aload_n 0, 1) := by decide +kernel
theorem dX4_init_5 : decode cX4_init 5 = .ok (.new 9, 3) := by decide +kernel
theorem dX4_init_8 : decode cX4_init 8 = .ok (.dup, 1) := by decide +kernel
theorem dX4_init_9 : decode cX4_init 9 = .ok (.bipush 120, 2) := by decide +kernel
theorem dX4_init_11 : decode cX4_init 11 = .ok (.invokespecial 11, 3) := by decide +kernel
theorem dX4_init_14 : decode cX4_init 14 = .ok (.putfield 14, 3) := by decide +kernel
theorem dX4_init_17 : decode cX4_init 17 = .ok (.aload_n 0, 1) := by decide +kernel
theorem dX4_init_18 : decode cX4_init 18 = .ok (.bipush 10, 2) := by decide +kernel
theorem dX4_init_20 : decode cX4_init 20 = .ok (.anewarray 20, 3) := by decide +kernel
theorem dX4_init_23 : decode cX4_init 23 = .ok (.putfield 22, 3) := by decide +kernel
theorem dX4_init_26 : decode cX4_init 26 = .ok (.iconst 0, 1) := by decide +kernel
theorem dX4_init_27 : decode cX4_init 27 = .ok (.istore_n 1, 1) := by decide +kernel
theorem dX4_init_28 : decode cX4_init 28 = .ok (.iload_n 1, 1) := by decide +kernel
theorem dX4_init_29 : decode cX4_init 29 = .ok (.aload_n 0, 1) := by decide +kernel
theorem dX4_init_30 : decode cX4_init 30 = .ok (.getfield 22, 3) := by decide +kernel
theorem dX4_init_33 : decode cX4_init 33 = .ok (.arraylength, 1) := by decide +kernel
theorem dX4_init_34 : decode cX4_init 34 = .ok (.if_icmp .ge 22, 3) := by decide +kernel
theorem dX4_init_37 : decode cX4_init 37 = .ok (.aload_n 0, 1) := by decide +kernel
theorem dX4_init_38 : decode cX4_init 38 = .ok (.getfield 22, 3) := by decide +kernel
theorem dX4_init_41 : decode cX4_init 41 = .ok (.iload_n 1, 1) := by decide +kernel
theorem dX4_init_42 : decode cX4_init 42 = .ok (.new 20, 3) := by decide +kernel
theorem dX4_init_45 : decode cX4_init 45 = .ok (.dup, 1) := by decide +kernel
theorem dX4_init_46 : decode cX4_init 46 = .ok (.invokespecial 26, 3) := by decide +kernel
theorem dX4_init_49 : decode cX4_init 49 = .ok (.aastore, 1) := by decide +kernel
theorem dX4_init_50 : decode cX4_init 50 = .ok (.iinc 1 1, 3) := by decide +kernel
theorem dX4_init_53 : decode cX4_init 53 = .ok (.goto (-25), 3) := by decide +kernel
theorem dX4_init_56 : decode cX4_init 56 = .ok (.return_, 1) := by decide +kernel
theorem dX4_become_0 : decode cX4_become 0 = .ok (.aload_n 0, 1) := by decide +kernel
theorem dX4_become_1 : decode cX4_become 1 = .ok (.getfield 14, 3) := by decide +kernel
theorem dX4_become_4 : decode cX4_become 4 = .ok (.aload_n 1, 1) := by decide +kernel
theorem dX4_become_5 : decode cX4_become 5 = .ok (.getfield 14, 3) := by decide +kernel
theorem dX4_become_8 : decode cX4_become 8 = .ok (.invokevirtual 27, 3) := by decide +kernel
theorem dX4_become_11 : decode cX4_become 11 = .ok (.aload_n 0, 1) := by decide +kernel
theorem dX4_become_12 : decode cX4_become 12 = .ok (.aload_n 1, 1) := by decide +kernel
theorem dX4_become_13 : decode cX4_become 13 = .ok (.getfield 31, 3) := by decide +kernel
theorem dX4_become_16 : decode cX4_become 16 = .ok (.aload_n 0, 1) := by decide +kernel
theorem dX4_become_17 : decode cX4_become 17 = .ok (.getfield 22, 3) := by decide +kernel
theorem dX4_become_20 : decode cX4_become 20 = .ok (.arraylength, 1) := by decide +kernel
theorem dX4_become_21 : decode cX4_become 21 = .ok (.invokestatic 35, 3) := by decide +kernel
theorem dX4_become_24 : decode cX4_become 24 = .ok (.putfield 31, 3) := by decide +kernel
theorem dX4_become_27 : decode cX4_become 27 = .ok (.aload_n 0, 1) := by decide +kernel
theorem dX4_become_28 : decode cX4_become 28 = .ok (.aload_n 1, 1) := by decide +kernel
theorem dX4_become_29 : decode cX4_become 29 = .ok (.getfield 41, 3) := by decide +kernel
theorem dX4_become_32 : decode cX4_become 32 = .ok (.putfield 41, 3) := by decide +kernel
theorem dX4_become_35 : decode cX4_become 35 = .ok (.iconst 0, 1) := by decide +kernel
theorem dX4_become_36 : decode cX4_become 36 = .ok (.istore_n 2, 1) := by decide +kernel
theorem dX4_become_37 : decode cX4_become 37 = .ok (.iload_n 2, 1) := by decide +kernel
theorem dX4_become_38 : decode cX4_become 38 = .ok (.aload_n 0, 1) := by decide +kernel
theorem dX4_become_39 : decode cX4_become 39 = .ok (.getfield 31, 3) := by decide +kernel
theorem dX4_become_42 : decode cX4_become 42 = .ok (.if_icmp .ge 33, 3) := by decide +kernel
theorem dX4_become_45 : decode cX4_become 45 = .ok (.iload_n 2, 1) := by decide +kernel
theorem dX4_become_46 : decode cX4_become 46 = .ok (.aload_n 1, 1) := by decide +kernel
theorem dX4_become_47 : decode cX4_become 47 = .ok (.getfield 22, 3) := by decide +kernel
theorem dX4_become_50 : decode cX4_become 50 = .ok (.arraylength, 1) := by decide +kernel
theorem dX4_become_51 : decode cX4_become 51 = .ok (.if_icmp .ge 24, 3) := by decide +kernel
theorem dX4_become_54 : decode cX4_become 54 = .ok (.aload_n 0, 1) := by decide +kernel
theorem dX4_become_55 : decode cX4_become 55 = .ok (.getfield 22, 3) := by decide +kernel
theorem dX4_become_58 : decode cX4_become 58 = .ok (.iload_n 2, 1) := by decide +kernel
theorem dX4_become_59 : decode cX4_become 59 = .ok (.aaload, 1) := by decide +kernel
theorem dX4_become_60 : decode cX4_become 60 = .ok (.aload_n 1, 1) := by decide +kernel
theorem dX4_become_61 : decode cX4_become 61 = .ok (.getfield 22, 3) := by decide +kernel
theorem dX4_become_64 : decode cX4_become 64 = .ok (.iload_n 2, 1) := by decide +kernel
theorem dX4_become_65 : decode cX4_become 65 = .ok (.aaload, 1) := by decide +kernel
theorem dX4_become_66 : decode cX4_become 66 = .ok (.invokevirtual 44, 3) := by decide +kernel
theorem dX4_become_69 : decode cX4_become 69 = .ok (.iinc 2 1, 3) := by decide +kernel
theorem dX4_become_72 : decode cX4_become 72 = .ok (.goto (-35), 3) := by decide +kernel
theorem dX4_become_75 : decode cX4_become 75 = .ok (.return_, 1) := by decide +kernel
theorem dX4_indexOf_0 : decode cX4_indexOf 0 = .ok (.iconst 0, 1) := by decide +kernel
theorem dX4_indexOf_1 : decode cX4_indexOf 1 = .ok (.istore_n 2, 1) := by decide +kernel
theorem dX4_indexOf_2 : decode cX4_indexOf 2 = .ok (.iload_n 2, 1) := by decide +kernel
theorem dX4_indexOf_3 : decode cX4_indexOf 3 = .ok (.aload_n 0, 1) := by decide +kernel
theorem dX4_indexOf_4 : decode cX4_indexOf 4 = .ok (.getfield 31, 3) := by decide +kernel
theorem dX4_indexOf_7 : decode cX4_indexOf 7 = .ok (.if_icmp .ge 33, 3) := by decide +kernel
theorem dX4_indexOf_10 : decode cX4_indexOf 10 = .ok (.iload_n 2, 1) := by decide +kernel
theorem dX4_indexOf_11 : decode cX4_indexOf 11 = .ok (.aload_n 0, 1) := by decide +kernel
theorem dX4_indexOf_12 : decode cX4_indexOf 12 = .ok (.getfield 22, 3) := by decide +kernel
theorem dX4_indexOf_15 : decode cX4_indexOf 15 = .ok (.arraylength, 1) := by decide +kernel
theorem dX4_indexOf_16 : decode cX4_indexOf 16 = .ok (.if_icmp .ge 24, 3) := by decide +kernel
theorem dX4_indexOf_19 : decode cX4_indexOf 19 = .ok (.aload_n 0, 1) := by decide +kernel
theorem dX4_indexOf_20 : decode cX4_indexOf 20 = .ok (.getfield 22, 3) := by decide +kernel
theorem dX4_indexOf_23 : decode cX4_indexOf 23 = .ok (.iload_n 2, 1) := by decide +kernel
theorem dX4_indexOf_24 : decode cX4_indexOf 24 = .ok (.aaload, 1) := by decide +kernel
theorem dX4_indexOf_25 : decode cX4_indexOf 25 = .ok (.getfield 47, 3) := by decide +kernel
theorem dX4_indexOf_28 : decode cX4_indexOf 28 = .ok (.iload_n 1, 1) := by decide +kernel
theorem dX4_indexOf_29 : decode cX4_indexOf 29 = .ok (.if_icmp .ne 5, 3) := by decide +kernel
theorem dX4_indexOf_32 : decode cX4_indexOf 32 = .ok (.iload_n 2, 1) := by decide +kernel
theorem dX4_indexOf_33 : decode cX4_indexOf 33 = .ok (.ireturn, 1) := by decide +kernel
theorem dX4_indexOf_34 : decode cX4_indexOf 34 = .ok (.iinc 2 1, 3) := by decide +kernel
theorem dX4_indexOf_37 : decode cX4_indexOf 37 = .ok (.goto (-35), 3) := by decide +kernel
theorem dX4_indexOf_40 : decode cX4_indexOf 40 = .ok (.iconst (-1), 1) := by decide +kernel
theorem dX4_indexOf_41 : decode cX4_indexOf 41 = .ok (.ireturn, 1) := by decide +kernel
theorem dX4_find_0 : decode cX4_find 0 = .ok (.aload_n 0, 1) := by decide +kernel
theorem dX4_find_1 : decode cX4_find 1 = .ok (.iload_n 1, 1) := by decide +kernel
theorem dX4_find_2 : decode cX4_find 2 = .ok (.invokevirtual 50, 3) := by decide +kernel
theorem dX4_find_5 : decode cX4_find 5 = .ok (.istore_n 2, 1) := by decide +kernel
theorem dX4_find_6 : decode cX4_find 6 = .ok (.iload_n 2, 1) := by decide +kernel
theorem dX4_find_7 : decode cX4_find 7 = .ok (.ifCond .lt 21, 3) := by decide +kernel
theorem dX4_find_10 : decode cX4_find 10 = .ok (.iload_n 2, 1) := by decide +kernel
theorem dX4_find_11 : decode cX4_find 11 = .ok (.aload_n 0, 1) := by decide +kernel
theorem dX4_find_12 : decode cX4_find 12 = .ok (.getfield 22, 3) := by decide +kernel
theorem dX4_find_15 : decode cX4_find 15 = .ok (.arraylength, 1) := by decide +kernel
theorem dX4_find_16 : decode cX4_find 16 = .ok (.if_icmp .ge 12, 3) := by decide +kernel
theorem dX4_find_19 : decode cX4_find 19 = .ok (.aload_n 0, 1) := by decide +kernel
theorem dX4_find_20 : decode cX4_find 20 = .ok (.getfield 22, 3) := by decide +kernel
theorem dX4_find_23 : decode cX4_find 23 = .ok (.iload_n 2, 1) := by decide +kernel
theorem dX4_find_24 : decode cX4_find 24 = .ok (.aaload, 1) := by decide +kernel
theorem dX4_find_25 : decode cX4_find 25 = .ok (.goto 4, 3) := by decide +kernel
theorem dX4_find_28 : decode cX4_find 28 = .ok (.aconst_null, 1) := by decide +kernel
theorem dX4_find_29 : decode cX4_find 29 = .ok (.areturn, 1) := by decide +kernel
theorem dX4_addNote_0 : decode cX4_addNote 0 = .ok (.aload_n 0, 1) := by decide +kernel
theorem dX4_addNote_1 : decode cX4_addNote 1 = .ok (.getfield 31, 3) := by decide +kernel
theorem dX4_addNote_4 : decode cX4_addNote 4 = .ok (.ifCond .lt 15, 3) := by decide +kernel
theorem dX4_addNote_7 : decode cX4_addNote 7 = .ok (.aload_n 0, 1) := by decide +kernel
theorem dX4_addNote_8 : decode cX4_addNote 8 = .ok (.getfield 31, 3) := by decide +kernel
theorem dX4_addNote_11 : decode cX4_addNote 11 = .ok (.aload_n 0, 1) := by decide +kernel
theorem dX4_addNote_12 : decode cX4_addNote 12 = .ok (.getfield 22, 3) := by decide +kernel
theorem dX4_addNote_15 : decode cX4_addNote 15 = .ok (.arraylength, 1) := by decide +kernel
theorem dX4_addNote_16 : decode cX4_addNote 16 = .ok (.if_icmp .lt 7, 3) := by decide +kernel
theorem dX4_addNote_19 : decode cX4_addNote 19 = .ok (.sipush (-1004), 3) := by decide +kernel
theorem dX4_addNote_22 : decode cX4_addNote 22 = .ok (.ireturn, 1) := by decide +kernel
theorem dX4_addNote_23 : decode cX4_addNote 23 = .ok (.aload_n 0, 1) := by decide +kernel
theorem dX4_addNote_24 : decode cX4_addNote 24 = .ok (.getfield 41, 3) := by decide +kernel
theorem dX4_addNote_27 : decode cX4_addNote 27 = .ok (.istore_n 3, 1) := by decide +kernel
theorem dX4_addNote_28 : decode cX4_addNote 28 = .ok (.aload_n 0, 1) := by decide +kernel
theorem dX4_addNote_29 : decode cX4_addNote 29 = .ok (.getfield 22, 3) := by decide +kernel
theorem dX4_addNote_32 : decode cX4_addNote 32 = .ok (.aload_n 0, 1) := by decide +kernel
theorem dX4_addNote_33 : decode cX4_addNote 33 = .ok (.getfield 31, 3) := by decide +kernel
theorem dX4_addNote_36 : decode cX4_addNote 36 = .ok (.aaload, 1) := by decide +kernel
theorem dX4_addNote_37 : decode cX4_addNote 37 = .ok (.iload_n 3, 1) := by decide +kernel
theorem dX4_addNote_38 : decode cX4_addNote 38 = .ok (.iload_n 1, 1) := by decide +kernel
theorem dX4_addNote_39 : decode cX4_addNote 39 = .ok (.iload_n 2, 1) := by decide +kernel
theorem dX4_addNote_40 : decode cX4_addNote 40 = .ok (.aload_n 0, 1) := by decide +kernel
theorem dX4_addNote_41 : decode cX4_addNote 41 = .ok (.getfield 14, 3) := by decide +kernel
theorem dX4_addNote_44 : decode cX4_addNote 44 = .ok (.invokevirtual 54, 3) := by decide +kernel
theorem dX4_addNote_47 : decode cX4_addNote 47 = .ok (.aload_n 0, 1) := by decide +kernel
theorem dX4_addNote_48 : decode cX4_addNote 48 = .ok (.dup, 1) := by decide +kernel
theorem dX4_addNote_49 : decode cX4_addNote 49 = .ok (.getfield 31, 3) := by decide +kernel
theorem dX4_addNote_52 : decode cX4_addNote 52 = .ok (.iconst 1, 1) := by decide +kernel
theorem dX4_addNote_53 : decode cX4_addNote 53 = .ok (.iadd, 1) := by decide +kernel
theorem dX4_addNote_54 : decode cX4_addNote 54 = .ok (.putfield 31, 3) := by decide +kernel
theorem dX4_addNote_57 : decode cX4_addNote 57 = .ok (.aload_n 0, 1) := by decide +kernel
theorem dX4_addNote_58 : decode cX4_addNote 58 = .ok (.dup, 1) := by decide +kernel
theorem dX4_addNote_59 : decode cX4_addNote 59 = .ok (.getfield 41, 3) := by decide +kernel
theorem dX4_addNote_62 : decode cX4_addNote 62 = .ok (.iconst 1, 1) := by decide +kernel
theorem dX4_addNote_63 : decode cX4_addNote 63 = .ok (.iadd, 1) := by decide +kernel
theorem dX4_addNote_64 : decode cX4_addNote 64 = .ok (.putfield 41, 3) := by decide +kernel
theorem dX4_addNote_67 : decode cX4_addNote 67 = .ok (.iload_n 3, 1) := by decide +kernel
theorem dX4_addNote_68 : decode cX4_addNote 68 = .ok (.ireturn, 1) := by decide +kernel
theorem dX4_drop_0 : decode cX4_drop 0 = .ok (.iload_n 1, 1) := by decide +kernel
theorem dX4_drop_1 : decode cX4_drop 1 = .ok (.ifCond .lt 23, 3) := by decide +kernel
theorem dX4_drop_4 : decode cX4_drop 4 = .ok (.iload_n 1, 1) := by decide +kernel
theorem dX4_drop_5 : decode cX4_drop 5 = .ok (.aload_n 0, 1) := by decide +kernel
theorem dX4_drop_6 : decode cX4_drop 6 = .ok (.getfield 31, 3) := by decide +kernel
theorem dX4_drop_9 : decode cX4_drop 9 = .ok (.if_icmp .ge 15, 3) := by decide +kernel
theorem dX4_drop_12 : decode cX4_drop 12 = .ok (.aload_n 0, 1) := by decide +kernel
theorem dX4_drop_13 : decode cX4_drop 13 = .ok (.getfield 31, 3) := by decide +kernel
theorem dX4_drop_16 : decode cX4_drop 16 = .ok (.aload_n 0, 1) := by decide +kernel
theorem dX4_drop_17 : decode cX4_drop 17 = .ok (.getfield 22, 3) := by decide +kernel
theorem dX4_drop_20 : decode cX4_drop 20 = .ok (.arraylength, 1) := by decide +kernel
theorem dX4_drop_21 : decode cX4_drop 21 = .ok (.if_icmp .le 4, 3) := by decide +kernel
theorem dX4_drop_24 : decode cX4_drop 24 = .ok (.return_, 1) := by decide +kernel
theorem dX4_drop_25 : decode cX4_drop 25 = .ok (.aload_n 0, 1) := by decide +kernel
theorem dX4_drop_26 : decode cX4_drop 26 = .ok (.getfield 22, 3) := by decide +kernel
theorem dX4_drop_29 : decode cX4_drop 29 = .ok (.iload_n 1, 1) := by decide +kernel
theorem dX4_drop_30 : decode cX4_drop 30 = .ok (.aaload, 1) := by decide +kernel
theorem dX4_drop_31 : decode cX4_drop 31 = .ok (.astore_n 2, 1) := by decide +kernel
theorem dX4_drop_32 : decode cX4_drop 32 = .ok (.iload_n 1, 1) := by decide +kernel
theorem dX4_drop_33 : decode cX4_drop 33 = .ok (.iconst 1, 1) := by decide +kernel
theorem dX4_drop_34 : decode cX4_drop 34 = .ok (.iadd, 1) := by decide +kernel
theorem dX4_drop_35 : decode cX4_drop 35 = .ok (.istore_n 3, 1) := by decide +kernel
theorem dX4_drop_36 : decode cX4_drop 36 = .ok (.iload_n 3, 1) := by decide +kernel
theorem dX4_drop_37 : decode cX4_drop 37 = .ok (.aload_n 0, 1) := by decide +kernel
theorem dX4_drop_38 : decode cX4_drop 38 = .ok (.getfield 31, 3) := by decide +kernel
theorem dX4_drop_41 : decode cX4_drop 41 = .ok (.if_icmp .ge 23, 3) := by decide +kernel
theorem dX4_drop_44 : decode cX4_drop 44 = .ok (.aload_n 0, 1) := by decide +kernel
theorem dX4_drop_45 : decode cX4_drop 45 = .ok (.getfield 22, 3) := by decide +kernel
theorem dX4_drop_48 : decode cX4_drop 48 = .ok (.iload_n 3, 1) := by decide +kernel
theorem dX4_drop_49 : decode cX4_drop 49 = .ok (.iconst 1, 1) := by decide +kernel
theorem dX4_drop_50 : decode cX4_drop 50 = .ok (.isub, 1) := by decide +kernel
theorem dX4_drop_51 : decode cX4_drop 51 = .ok (.aload_n 0, 1) := by decide +kernel
theorem dX4_drop_52 : decode cX4_drop 52 = .ok (.getfield 22, 3) := by decide +kernel
theorem dX4_drop_55 : decode cX4_drop 55 = .ok (.iload_n 3, 1) := by decide +kernel
theorem dX4_drop_56 : decode cX4_drop 56 = .ok (.aaload, 1) := by decide +kernel
theorem dX4_drop_57 : decode cX4_drop 57 = .ok (.aastore, 1) := by decide +kernel
theorem dX4_drop_58 : decode cX4_drop 58 = .ok (.iinc 3 1, 3) := by decide +kernel
theorem dX4_drop_61 : decode cX4_drop 61 = .ok (.goto (-25), 3) := by decide +kernel
theorem dX4_drop_64 : decode cX4_drop 64 = .ok (.aload_n 0, 1) := by decide +kernel
theorem dX4_drop_65 : decode cX4_drop 65 = .ok (.dup, 1) := by decide +kernel
theorem dX4_drop_66 : decode cX4_drop 66 = .ok (.getfield 31, 3) := by decide +kernel
theorem dX4_drop_69 : decode cX4_drop 69 = .ok (.iconst 1, 1) := by decide +kernel
theorem dX4_drop_70 : decode cX4_drop 70 = .ok (.isub, 1) := by decide +kernel
theorem dX4_drop_71 : decode cX4_drop 71 = .ok (.putfield 31, 3) := by decide +kernel
theorem dX4_drop_74 : decode cX4_drop 74 = .ok (.aload_n 0, 1) := by decide +kernel
theorem dX4_drop_75 : decode cX4_drop 75 = .ok (.getfield 22, 3) := by decide +kernel
theorem dX4_drop_78 : decode cX4_drop 78 = .ok (.aload_n 0, 1) := by decide +kernel
theorem dX4_drop_79 : decode cX4_drop 79 = .ok (.getfield 31, 3) := by decide +kernel
theorem dX4_drop_82 : decode cX4_drop 82 = .ok (.aload_n 2, 1) := by decide +kernel
theorem dX4_drop_83 : decode cX4_drop 83 = .ok (.aastore, 1) := by decide +kernel
theorem dX4_drop_84 : decode cX4_drop 84 = .ok (.return_, 1) := by decide +kernel
theorem dX4_replaceDocument_0 : decode cX4_replaceDocument 0 = .ok (.aload_n 0, 1) := by decide +kernel
theorem dX4_replaceDocument_1 : decode cX4_replaceDocument 1 = .ok (.getfield 14, 3) := by decide +kernel
theorem dX4_replaceDocument_4 : decode cX4_replaceDocument 4 = .ok (.aload_n 1, 1) := by decide +kernel
theorem dX4_replaceDocument_5 : decode cX4_replaceDocument 5 = .ok (.invokevirtual 27, 3) := by decide +kernel
theorem dX4_replaceDocument_8 : decode cX4_replaceDocument 8 = .ok (.iconst 0, 1) := by decide +kernel
theorem dX4_replaceDocument_9 : decode cX4_replaceDocument 9 = .ok (.istore_n 2, 1) := by decide +kernel
theorem dX4_replaceDocument_10 : decode cX4_replaceDocument 10 = .ok (.iload_n 2, 1) := by decide +kernel
theorem dX4_replaceDocument_11 : decode cX4_replaceDocument 11 = .ok (.aload_n 0, 1) := by decide +kernel
theorem dX4_replaceDocument_12 : decode cX4_replaceDocument 12 = .ok (.getfield 31, 3) := by decide +kernel
theorem dX4_replaceDocument_15 : decode cX4_replaceDocument 15 = .ok (.if_icmp .ge 34, 3) := by decide +kernel
theorem dX4_replaceDocument_18 : decode cX4_replaceDocument 18 = .ok (.iload_n 2, 1) := by decide +kernel
theorem dX4_replaceDocument_19 : decode cX4_replaceDocument 19 = .ok (.aload_n 0, 1) := by decide +kernel
theorem dX4_replaceDocument_20 : decode cX4_replaceDocument 20 = .ok (.getfield 22, 3) := by decide +kernel
theorem dX4_replaceDocument_23 : decode cX4_replaceDocument 23 = .ok (.arraylength, 1) := by decide +kernel
theorem dX4_replaceDocument_24 : decode cX4_replaceDocument 24 = .ok (.if_icmp .ge 25, 3) := by decide +kernel
theorem dX4_replaceDocument_27 : decode cX4_replaceDocument 27 = .ok (.aload_n 0, 1) := by decide +kernel
theorem dX4_replaceDocument_28 : decode cX4_replaceDocument 28 = .ok (.getfield 22, 3) := by decide +kernel
theorem dX4_replaceDocument_31 : decode cX4_replaceDocument 31 = .ok (.iload_n 2, 1) := by decide +kernel
theorem dX4_replaceDocument_32 : decode cX4_replaceDocument 32 = .ok (.aaload, 1) := by decide +kernel
theorem dX4_replaceDocument_33 : decode cX4_replaceDocument 33 = .ok (.aload_n 0, 1) := by decide +kernel
theorem dX4_replaceDocument_34 : decode cX4_replaceDocument 34 = .ok (.getfield 14, 3) := by decide +kernel
theorem dX4_replaceDocument_37 : decode cX4_replaceDocument 37 = .ok (.getfield 58, 3) := by decide +kernel
theorem dX4_replaceDocument_40 : decode cX4_replaceDocument 40 = .ok (.invokevirtual 61, 3) := by decide +kernel
theorem dX4_replaceDocument_43 : decode cX4_replaceDocument 43 = .ok (.iinc 2 1, 3) := by decide +kernel
theorem dX4_replaceDocument_46 : decode cX4_replaceDocument 46 = .ok (.goto (-36), 3) := by decide +kernel
theorem dX4_replaceDocument_49 : decode cX4_replaceDocument 49 = .ok (.return_, 1) := by decide +kernel
theorem dX4_putIn_0 : decode cX4_putIn 0 = .ok (.aload_n 0, 1) := by decide +kernel
theorem dX4_putIn_1 : decode cX4_putIn 1 = .ok (.getfield 14, 3) := by decide +kernel
theorem dX4_putIn_4 : decode cX4_putIn 4 = .ok (.iload_n 1, 1) := by decide +kernel
theorem dX4_putIn_5 : decode cX4_putIn 5 = .ok (.aload_n 2, 1) := by decide +kernel
theorem dX4_putIn_6 : decode cX4_putIn 6 = .ok (.invokevirtual 64, 3) := by decide +kernel
theorem dX4_putIn_9 : decode cX4_putIn 9 = .ok (.iconst 0, 1) := by decide +kernel
theorem dX4_putIn_10 : decode cX4_putIn 10 = .ok (.istore_n 3, 1) := by decide +kernel
theorem dX4_putIn_11 : decode cX4_putIn 11 = .ok (.iload_n 3, 1) := by decide +kernel
theorem dX4_putIn_12 : decode cX4_putIn 12 = .ok (.aload_n 0, 1) := by decide +kernel
theorem dX4_putIn_13 : decode cX4_putIn 13 = .ok (.getfield 31, 3) := by decide +kernel
theorem dX4_putIn_16 : decode cX4_putIn 16 = .ok (.if_icmp .ge 32, 3) := by decide +kernel
theorem dX4_putIn_19 : decode cX4_putIn 19 = .ok (.iload_n 3, 1) := by decide +kernel
theorem dX4_putIn_20 : decode cX4_putIn 20 = .ok (.aload_n 0, 1) := by decide +kernel
theorem dX4_putIn_21 : decode cX4_putIn 21 = .ok (.getfield 22, 3) := by decide +kernel
theorem dX4_putIn_24 : decode cX4_putIn 24 = .ok (.arraylength, 1) := by decide +kernel
theorem dX4_putIn_25 : decode cX4_putIn 25 = .ok (.if_icmp .ge 23, 3) := by decide +kernel
theorem dX4_putIn_28 : decode cX4_putIn 28 = .ok (.aload_n 0, 1) := by decide +kernel
theorem dX4_putIn_29 : decode cX4_putIn 29 = .ok (.getfield 22, 3) := by decide +kernel
theorem dX4_putIn_32 : decode cX4_putIn 32 = .ok (.iload_n 3, 1) := by decide +kernel
theorem dX4_putIn_33 : decode cX4_putIn 33 = .ok (.aaload, 1) := by decide +kernel
theorem dX4_putIn_34 : decode cX4_putIn 34 = .ok (.iload_n 1, 1) := by decide +kernel
theorem dX4_putIn_35 : decode cX4_putIn 35 = .ok (.aload_n 2, 1) := by decide +kernel
theorem dX4_putIn_36 : decode cX4_putIn 36 = .ok (.getfield 58, 3) := by decide +kernel
theorem dX4_putIn_39 : decode cX4_putIn 39 = .ok (.invokevirtual 68, 3) := by decide +kernel
theorem dX4_putIn_42 : decode cX4_putIn 42 = .ok (.iinc 3 1, 3) := by decide +kernel
theorem dX4_putIn_45 : decode cX4_putIn 45 = .ok (.goto (-34), 3) := by decide +kernel
theorem dX4_putIn_48 : decode cX4_putIn 48 = .ok (.return_, 1) := by decide +kernel
theorem dX4_cutOut_0 : decode cX4_cutOut 0 = .ok (.aload_n 0, 1) := by decide +kernel
theorem dX4_cutOut_1 : decode cX4_cutOut 1 = .ok (.getfield 14, 3) := by decide +kernel
theorem dX4_cutOut_4 : decode cX4_cutOut 4 = .ok (.iload_n 1, 1) := by decide +kernel
theorem dX4_cutOut_5 : decode cX4_cutOut 5 = .ok (.iload_n 2, 1) := by decide +kernel
theorem dX4_cutOut_6 : decode cX4_cutOut 6 = .ok (.invokevirtual 72, 3) := by decide +kernel
theorem dX4_cutOut_9 : decode cX4_cutOut 9 = .ok (.iconst 0, 1) := by decide +kernel
theorem dX4_cutOut_10 : decode cX4_cutOut 10 = .ok (.istore_n 3, 1) := by decide +kernel
theorem dX4_cutOut_11 : decode cX4_cutOut 11 = .ok (.iconst 0, 1) := by decide +kernel
theorem dX4_cutOut_12 : decode cX4_cutOut 12 = .ok (.istore 4, 2) := by decide +kernel
theorem dX4_cutOut_14 : decode cX4_cutOut 14 = .ok (.iload 4, 2) := by decide +kernel
theorem dX4_cutOut_16 : decode cX4_cutOut 16 = .ok (.aload_n 0, 1) := by decide +kernel
theorem dX4_cutOut_17 : decode cX4_cutOut 17 = .ok (.getfield 31, 3) := by decide +kernel
theorem dX4_cutOut_20 : decode cX4_cutOut 20 = .ok (.if_icmp .ge 37, 3) := by decide +kernel
theorem dX4_cutOut_23 : decode cX4_cutOut 23 = .ok (.iload 4, 2) := by decide +kernel
theorem dX4_cutOut_25 : decode cX4_cutOut 25 = .ok (.aload_n 0, 1) := by decide +kernel
theorem dX4_cutOut_26 : decode cX4_cutOut 26 = .ok (.getfield 22, 3) := by decide +kernel
theorem dX4_cutOut_29 : decode cX4_cutOut 29 = .ok (.arraylength, 1) := by decide +kernel
theorem dX4_cutOut_30 : decode cX4_cutOut 30 = .ok (.if_icmp .ge 27, 3) := by decide +kernel
theorem dX4_cutOut_33 : decode cX4_cutOut 33 = .ok (.aload_n 0, 1) := by decide +kernel
theorem dX4_cutOut_34 : decode cX4_cutOut 34 = .ok (.getfield 22, 3) := by decide +kernel
theorem dX4_cutOut_37 : decode cX4_cutOut 37 = .ok (.iload 4, 2) := by decide +kernel
theorem dX4_cutOut_39 : decode cX4_cutOut 39 = .ok (.aaload, 1) := by decide +kernel
theorem dX4_cutOut_40 : decode cX4_cutOut 40 = .ok (.iload_n 1, 1) := by decide +kernel
theorem dX4_cutOut_41 : decode cX4_cutOut 41 = .ok (.iload_n 2, 1) := by decide +kernel
theorem dX4_cutOut_42 : decode cX4_cutOut 42 = .ok (.invokevirtual 75, 3) := by decide +kernel
theorem dX4_cutOut_45 : decode cX4_cutOut 45 = .ok (.ifCond .eq 6, 3) := by decide +kernel
theorem dX4_cutOut_48 : decode cX4_cutOut 48 = .ok (.iinc 3 1, 3) := by decide +kernel
theorem dX4_cutOut_51 : decode cX4_cutOut 51 = .ok (.iinc 4 1, 3) := by decide +kernel
theorem dX4_cutOut_54 : decode cX4_cutOut 54 = .ok (.goto (-40), 3) := by decide +kernel
theorem dX4_cutOut_57 : decode cX4_cutOut 57 = .ok (.iload_n 3, 1) := by decide +kernel
theorem dX4_cutOut_58 : decode cX4_cutOut 58 = .ok (.ireturn, 1) := by decide +kernel
theorem dX4_hasTwins_0 : decode cX4_hasTwins 0 = .ok (.iconst 0, 1) := by decide +kernel
theorem dX4_hasTwins_1 : decode cX4_hasTwins 1 = .ok (.istore_n 1, 1) := by decide +kernel
theorem dX4_hasTwins_2 : decode cX4_hasTwins 2 = .ok (.iload_n 1, 1) := by decide +kernel
theorem dX4_hasTwins_3 : decode cX4_hasTwins 3 = .ok (.aload_n 0, 1) := by decide +kernel
theorem dX4_hasTwins_4 : decode cX4_hasTwins 4 = .ok (.getfield 31, 3) := by decide +kernel
theorem dX4_hasTwins_7 : decode cX4_hasTwins 7 = .ok (.if_icmp .ge 28, 3) := by decide +kernel
theorem dX4_hasTwins_10 : decode cX4_hasTwins 10 = .ok (.iload_n 1, 1) := by decide +kernel
theorem dX4_hasTwins_11 : decode cX4_hasTwins 11 = .ok (.aload_n 0, 1) := by decide +kernel
theorem dX4_hasTwins_12 : decode cX4_hasTwins 12 = .ok (.getfield 22, 3) := by decide +kernel
theorem dX4_hasTwins_15 : decode cX4_hasTwins 15 = .ok (.arraylength, 1) := by decide +kernel
theorem dX4_hasTwins_16 : decode cX4_hasTwins 16 = .ok (.if_icmp .ge 19, 3) := by decide +kernel
theorem dX4_hasTwins_19 : decode cX4_hasTwins 19 = .ok (.aload_n 0, 1) := by decide +kernel
theorem dX4_hasTwins_20 : decode cX4_hasTwins 20 = .ok (.iload_n 1, 1) := by decide +kernel
theorem dX4_hasTwins_21 : decode cX4_hasTwins 21 = .ok (.invokevirtual 79, 3) := by decide +kernel
theorem dX4_hasTwins_24 : decode cX4_hasTwins 24 = .ok (.ifCond .lt 5, 3) := by decide +kernel
theorem dX4_hasTwins_27 : decode cX4_hasTwins 27 = .ok (.iconst 1, 1) := by decide +kernel
theorem dX4_hasTwins_28 : decode cX4_hasTwins 28 = .ok (.ireturn, 1) := by decide +kernel
theorem dX4_hasTwins_29 : decode cX4_hasTwins 29 = .ok (.iinc 1 1, 3) := by decide +kernel
theorem dX4_hasTwins_32 : decode cX4_hasTwins 32 = .ok (.goto (-30), 3) := by decide +kernel
theorem dX4_hasTwins_35 : decode cX4_hasTwins 35 = .ok (.iconst 0, 1) := by decide +kernel
theorem dX4_hasTwins_36 : decode cX4_hasTwins 36 = .ok (.ireturn, 1) := by decide +kernel
theorem dX4_mergeTwins_0 : decode cX4_mergeTwins 0 = .ok (.iconst 0, 1) := by decide +kernel
theorem dX4_mergeTwins_1 : decode cX4_mergeTwins 1 = .ok (.istore_n 1, 1) := by decide +kernel
theorem dX4_mergeTwins_2 : decode cX4_mergeTwins 2 = .ok (.aload_n 0, 1) := by decide +kernel
theorem dX4_mergeTwins_3 : decode cX4_mergeTwins 3 = .ok (.getfield 31, 3) := by decide +kernel
theorem dX4_mergeTwins_6 : decode cX4_mergeTwins 6 = .ok (.iconst 1, 1) := by decide +kernel
theorem dX4_mergeTwins_7 : decode cX4_mergeTwins 7 = .ok (.isub, 1) := by decide +kernel
theorem dX4_mergeTwins_8 : decode cX4_mergeTwins 8 = .ok (.istore_n 2, 1) := by decide +kernel
theorem dX4_mergeTwins_9 : decode cX4_mergeTwins 9 = .ok (.iload_n 2, 1) := by decide +kernel
theorem dX4_mergeTwins_10 : decode cX4_mergeTwins 10 = .ok (.ifCond .lt 68, 3) := by decide +kernel
theorem dX4_mergeTwins_13 : decode cX4_mergeTwins 13 = .ok (.iload_n 2, 1) := by decide +kernel
theorem dX4_mergeTwins_14 : decode cX4_mergeTwins 14 = .ok (.aload_n 0, 1) := by decide +kernel
theorem dX4_mergeTwins_15 : decode cX4_mergeTwins 15 = .ok (.getfield 22, 3) := by decide +kernel
theorem dX4_mergeTwins_18 : decode cX4_mergeTwins 18 = .ok (.arraylength, 1) := by decide +kernel
theorem dX4_mergeTwins_19 : decode cX4_mergeTwins 19 = .ok (.if_icmp .ge 59, 3) := by decide +kernel
theorem dX4_mergeTwins_22 : decode cX4_mergeTwins 22 = .ok (.aload_n 0, 1) := by decide +kernel
theorem dX4_mergeTwins_23 : decode cX4_mergeTwins 23 = .ok (.iload_n 2, 1) := by decide +kernel
theorem dX4_mergeTwins_24 : decode cX4_mergeTwins 24 = .ok (.invokevirtual 79, 3) := by decide +kernel
theorem dX4_mergeTwins_27 : decode cX4_mergeTwins 27 = .ok (.istore_n 3, 1) := by decide +kernel
theorem dX4_mergeTwins_28 : decode cX4_mergeTwins 28 = .ok (.iload_n 3, 1) := by decide +kernel
theorem dX4_mergeTwins_29 : decode cX4_mergeTwins 29 = .ok (.ifCond .lt 43, 3) := by decide +kernel
theorem dX4_mergeTwins_32 : decode cX4_mergeTwins 32 = .ok (.iload_n 3, 1) := by decide +kernel
theorem dX4_mergeTwins_33 : decode cX4_mergeTwins 33 = .ok (.aload_n 0, 1) := by decide +kernel
theorem dX4_mergeTwins_34 : decode cX4_mergeTwins 34 = .ok (.getfield 22, 3) := by decide +kernel
theorem dX4_mergeTwins_37 : decode cX4_mergeTwins 37 = .ok (.arraylength, 1) := by decide +kernel
theorem dX4_mergeTwins_38 : decode cX4_mergeTwins 38 = .ok (.if_icmp .ge 34, 3) := by decide +kernel
theorem dX4_mergeTwins_41 : decode cX4_mergeTwins 41 = .ok (.aload_n 0, 1) := by decide +kernel
theorem dX4_mergeTwins_42 : decode cX4_mergeTwins 42 = .ok (.getfield 22, 3) := by decide +kernel
theorem dX4_mergeTwins_45 : decode cX4_mergeTwins 45 = .ok (.iload_n 3, 1) := by decide +kernel
theorem dX4_mergeTwins_46 : decode cX4_mergeTwins 46 = .ok (.aaload, 1) := by decide +kernel
theorem dX4_mergeTwins_47 : decode cX4_mergeTwins 47 = .ok (.dup, 1) := by decide +kernel
theorem dX4_mergeTwins_48 : decode cX4_mergeTwins 48 = .ok (.getfield 82, 3) := by decide +kernel
theorem dX4_mergeTwins_51 : decode cX4_mergeTwins 51 = .ok (.aload_n 0, 1) := by decide +kernel
theorem dX4_mergeTwins_52 : decode cX4_mergeTwins 52 = .ok (.getfield 22, 3) := by decide +kernel
theorem dX4_mergeTwins_55 : decode cX4_mergeTwins 55 = .ok (.iload_n 2, 1) := by decide +kernel
theorem dX4_mergeTwins_56 : decode cX4_mergeTwins 56 = .ok (.aaload, 1) := by decide +kernel
theorem dX4_mergeTwins_57 : decode cX4_mergeTwins 57 = .ok (.getfield 82, 3) := by decide +kernel
theorem dX4_mergeTwins_60 : decode cX4_mergeTwins 60 = .ok (.iadd, 1) := by decide +kernel
theorem dX4_mergeTwins_61 : decode cX4_mergeTwins 61 = .ok (.putfield 82, 3) := by decide +kernel
theorem dX4_mergeTwins_64 : decode cX4_mergeTwins 64 = .ok (.aload_n 0, 1) := by decide +kernel
theorem dX4_mergeTwins_65 : decode cX4_mergeTwins 65 = .ok (.iload_n 2, 1) := by decide +kernel
theorem dX4_mergeTwins_66 : decode cX4_mergeTwins 66 = .ok (.invokevirtual 85, 3) := by decide +kernel
theorem dX4_mergeTwins_69 : decode cX4_mergeTwins 69 = .ok (.iinc 1 1, 3) := by decide +kernel
theorem dX4_mergeTwins_72 : decode cX4_mergeTwins 72 = .ok (.iinc 2 (-1), 3) := by decide +kernel
theorem dX4_mergeTwins_75 : decode cX4_mergeTwins 75 = .ok (.goto (-66), 3) := by decide +kernel
theorem dX4_mergeTwins_78 : decode cX4_mergeTwins 78 = .ok (.iload_n 1, 1) := by decide +kernel
theorem dX4_mergeTwins_79 : decode cX4_mergeTwins 79 = .ok (.ireturn, 1) := by decide +kernel
theorem dX4_firstTwin_0 : decode cX4_firstTwin 0 = .ok (.iload_n 1, 1) := by decide +kernel
theorem dX4_firstTwin_1 : decode cX4_firstTwin 1 = .ok (.ifCond .lt 12, 3) := by decide +kernel
theorem dX4_firstTwin_4 : decode cX4_firstTwin 4 = .ok (.iload_n 1, 1) := by decide +kernel
theorem dX4_firstTwin_5 : decode cX4_firstTwin 5 = .ok (.aload_n 0, 1) := by decide +kernel
theorem dX4_firstTwin_6 : decode cX4_firstTwin 6 = .ok (.getfield 22, 3) := by decide +kernel
theorem dX4_firstTwin_9 : decode cX4_firstTwin 9 = .ok (.arraylength, 1) := by decide +kernel
theorem dX4_firstTwin_10 : decode cX4_firstTwin 10 = .ok (.if_icmp .lt 5, 3) := by decide +kernel
theorem dX4_firstTwin_13 : decode cX4_firstTwin 13 = .ok (.iconst (-1), 1) := by decide +kernel
theorem dX4_firstTwin_14 : decode cX4_firstTwin 14 = .ok (.ireturn, 1) := by decide +kernel
theorem dX4_firstTwin_15 : decode cX4_firstTwin 15 = .ok (.iconst 0, 1) := by decide +kernel
theorem dX4_firstTwin_16 : decode cX4_firstTwin 16 = .ok (.istore_n 2, 1) := by decide +kernel
theorem dX4_firstTwin_17 : decode cX4_firstTwin 17 = .ok (.iload_n 2, 1) := by decide +kernel
theorem dX4_firstTwin_18 : decode cX4_firstTwin 18 = .ok (.iload_n 1, 1) := by decide +kernel
theorem dX4_firstTwin_19 : decode cX4_firstTwin 19 = .ok (.if_icmp .ge 29, 3) := by decide +kernel
theorem dX4_firstTwin_22 : decode cX4_firstTwin 22 = .ok (.aload_n 0, 1) := by decide +kernel
theorem dX4_firstTwin_23 : decode cX4_firstTwin 23 = .ok (.getfield 22, 3) := by decide +kernel
theorem dX4_firstTwin_26 : decode cX4_firstTwin 26 = .ok (.iload_n 2, 1) := by decide +kernel
theorem dX4_firstTwin_27 : decode cX4_firstTwin 27 = .ok (.aaload, 1) := by decide +kernel
theorem dX4_firstTwin_28 : decode cX4_firstTwin 28 = .ok (.aload_n 0, 1) := by decide +kernel
theorem dX4_firstTwin_29 : decode cX4_firstTwin 29 = .ok (.getfield 22, 3) := by decide +kernel
theorem dX4_firstTwin_32 : decode cX4_firstTwin 32 = .ok (.iload_n 1, 1) := by decide +kernel
theorem dX4_firstTwin_33 : decode cX4_firstTwin 33 = .ok (.aaload, 1) := by decide +kernel
theorem dX4_firstTwin_34 : decode cX4_firstTwin 34 = .ok (.invokevirtual 88, 3) := by decide +kernel
theorem dX4_firstTwin_37 : decode cX4_firstTwin 37 = .ok (.ifCond .eq 5, 3) := by decide +kernel
theorem dX4_firstTwin_40 : decode cX4_firstTwin 40 = .ok (.iload_n 2, 1) := by decide +kernel
theorem dX4_firstTwin_41 : decode cX4_firstTwin 41 = .ok (.ireturn, 1) := by decide +kernel
theorem dX4_firstTwin_42 : decode cX4_firstTwin 42 = .ok (.iinc 2 1, 3) := by decide +kernel
theorem dX4_firstTwin_45 : decode cX4_firstTwin 45 = .ok (.goto (-28), 3) := by decide +kernel
theorem dX4_firstTwin_48 : decode cX4_firstTwin 48 = .ok (.iconst (-1), 1) := by decide +kernel
theorem dX4_firstTwin_49 : decode cX4_firstTwin 49 = .ok (.ireturn, 1) := by decide +kernel
theorem dX4_numberCovering_0 : decode cX4_numberCovering 0 = .ok (.iconst 0, 1) := by decide +kernel
theorem dX4_numberCovering_1 : decode cX4_numberCovering 1 = .ok (.istore_n 3, 1) := by decide +kernel
theorem dX4_numberCovering_2 : decode cX4_numberCovering 2 = .ok (.iload_n 3, 1) := by decide +kernel
theorem dX4_numberCovering_3 : decode cX4_numberCovering 3 = .ok (.aload_n 0, 1) := by decide +kernel
theorem dX4_numberCovering_4 : decode cX4_numberCovering 4 = .ok (.getfield 31, 3) := by decide +kernel
theorem dX4_numberCovering_7 : decode cX4_numberCovering 7 = .ok (.if_icmp .ge 56, 3) := by decide +kernel
theorem dX4_numberCovering_10 : decode cX4_numberCovering 10 = .ok (.iload_n 3, 1) := by decide +kernel
theorem dX4_numberCovering_11 : decode cX4_numberCovering 11 = .ok (.aload_n 0, 1) := by decide +kernel
theorem dX4_numberCovering_12 : decode cX4_numberCovering 12 = .ok (.getfield 22, 3) := by decide +kernel
theorem dX4_numberCovering_15 : decode cX4_numberCovering 15 = .ok (.arraylength, 1) := by decide +kernel
theorem dX4_numberCovering_16 : decode cX4_numberCovering 16 = .ok (.if_icmp .ge 47, 3) := by decide +kernel
theorem dX4_numberCovering_19 : decode cX4_numberCovering 19 = .ok (.aload_n 0, 1) := by decide +kernel
theorem dX4_numberCovering_20 : decode cX4_numberCovering 20 = .ok (.getfield 22, 3) := by decide +kernel
theorem dX4_numberCovering_23 : decode cX4_numberCovering 23 = .ok (.iload_n 3, 1) := by decide +kernel
theorem dX4_numberCovering_24 : decode cX4_numberCovering 24 = .ok (.aaload, 1) := by decide +kernel
theorem dX4_numberCovering_25 : decode cX4_numberCovering 25 = .ok (.iload_n 1, 1) := by decide +kernel
theorem dX4_numberCovering_26 : decode cX4_numberCovering 26 = .ok (.invokevirtual 92, 3) := by decide +kernel
theorem dX4_numberCovering_29 : decode cX4_numberCovering 29 = .ok (.ifCond .eq 28, 3) := by decide +kernel
theorem dX4_numberCovering_32 : decode cX4_numberCovering 32 = .ok (.aload_n 0, 1) := by decide +kernel
theorem dX4_numberCovering_33 : decode cX4_numberCovering 33 = .ok (.aload_n 0, 1) := by decide +kernel
theorem dX4_numberCovering_34 : decode cX4_numberCovering 34 = .ok (.getfield 22, 3) := by decide +kernel
theorem dX4_numberCovering_37 : decode cX4_numberCovering 37 = .ok (.iload_n 3, 1) := by decide +kernel
theorem dX4_numberCovering_38 : decode cX4_numberCovering 38 = .ok (.aaload, 1) := by decide +kernel
theorem dX4_numberCovering_39 : decode cX4_numberCovering 39 = .ok (.iload_n 1, 1) := by decide +kernel
theorem dX4_numberCovering_40 : decode cX4_numberCovering 40 = .ok (.invokevirtual 96, 3) := by decide +kernel
theorem dX4_numberCovering_43 : decode cX4_numberCovering 43 = .ok (.iload_n 2, 1) := by decide +kernel
theorem dX4_numberCovering_44 : decode cX4_numberCovering 44 = .ok (.if_icmp .ne 13, 3) := by decide +kernel
theorem dX4_numberCovering_47 : decode cX4_numberCovering 47 = .ok (.aload_n 0, 1) := by decide +kernel
theorem dX4_numberCovering_48 : decode cX4_numberCovering 48 = .ok (.getfield 22, 3) := by decide +kernel
theorem dX4_numberCovering_51 : decode cX4_numberCovering 51 = .ok (.iload_n 3, 1) := by decide +kernel
theorem dX4_numberCovering_52 : decode cX4_numberCovering 52 = .ok (.aaload, 1) := by decide +kernel
theorem dX4_numberCovering_53 : decode cX4_numberCovering 53 = .ok (.getfield 47, 3) := by decide +kernel
theorem dX4_numberCovering_56 : decode cX4_numberCovering 56 = .ok (.ireturn, 1) := by decide +kernel
theorem dX4_numberCovering_57 : decode cX4_numberCovering 57 = .ok (.iinc 3 1, 3) := by decide +kernel
theorem dX4_numberCovering_60 : decode cX4_numberCovering 60 = .ok (.goto (-58), 3) := by decide +kernel
theorem dX4_numberCovering_63 : decode cX4_numberCovering 63 = .ok (.sipush (-1005), 3) := by decide +kernel
theorem dX4_numberCovering_66 : decode cX4_numberCovering 66 = .ok (.ireturn, 1) := by decide +kernel
theorem dX4_rankOf_0 : decode cX4_rankOf 0 = .ok (.iconst 0, 1) := by decide +kernel
theorem dX4_rankOf_1 : decode cX4_rankOf 1 = .ok (.istore_n 3, 1) := by decide +kernel
theorem dX4_rankOf_2 : decode cX4_rankOf 2 = .ok (.iconst 0, 1) := by decide +kernel
theorem dX4_rankOf_3 : decode cX4_rankOf 3 = .ok (.istore 4, 2) := by decide +kernel
theorem dX4_rankOf_5 : decode cX4_rankOf 5 = .ok (.iload 4, 2) := by decide +kernel
theorem dX4_rankOf_7 : decode cX4_rankOf 7 = .ok (.aload_n 0, 1) := by decide +kernel
theorem dX4_rankOf_8 : decode cX4_rankOf 8 = .ok (.getfield 31, 3) := by decide +kernel
theorem dX4_rankOf_11 : decode cX4_rankOf 11 = .ok (.if_icmp .ge 50, 3) := by decide +kernel
theorem dX4_rankOf_14 : decode cX4_rankOf 14 = .ok (.iload 4, 2) := by decide +kernel
theorem dX4_rankOf_16 : decode cX4_rankOf 16 = .ok (.aload_n 0, 1) := by decide +kernel
theorem dX4_rankOf_17 : decode cX4_rankOf 17 = .ok (.getfield 22, 3) := by decide +kernel
theorem dX4_rankOf_20 : decode cX4_rankOf 20 = .ok (.arraylength, 1) := by decide +kernel
theorem dX4_rankOf_21 : decode cX4_rankOf 21 = .ok (.if_icmp .ge 40, 3) := by decide +kernel
theorem dX4_rankOf_24 : decode cX4_rankOf 24 = .ok (.aload_n 0, 1) := by decide +kernel
theorem dX4_rankOf_25 : decode cX4_rankOf 25 = .ok (.getfield 22, 3) := by decide +kernel
theorem dX4_rankOf_28 : decode cX4_rankOf 28 = .ok (.iload 4, 2) := by decide +kernel
theorem dX4_rankOf_30 : decode cX4_rankOf 30 = .ok (.aaload, 1) := by decide +kernel
theorem dX4_rankOf_31 : decode cX4_rankOf 31 = .ok (.iload_n 2, 1) := by decide +kernel
theorem dX4_rankOf_32 : decode cX4_rankOf 32 = .ok (.invokevirtual 92, 3) := by decide +kernel
theorem dX4_rankOf_35 : decode cX4_rankOf 35 = .ok (.ifCond .eq 20, 3) := by decide +kernel
theorem dX4_rankOf_38 : decode cX4_rankOf 38 = .ok (.aload_n 0, 1) := by decide +kernel
theorem dX4_rankOf_39 : decode cX4_rankOf 39 = .ok (.getfield 22, 3) := by decide +kernel
theorem dX4_rankOf_42 : decode cX4_rankOf 42 = .ok (.iload 4, 2) := by decide +kernel
theorem dX4_rankOf_44 : decode cX4_rankOf 44 = .ok (.aaload, 1) := by decide +kernel
theorem dX4_rankOf_45 : decode cX4_rankOf 45 = .ok (.aload_n 1, 1) := by decide +kernel
theorem dX4_rankOf_46 : decode cX4_rankOf 46 = .ok (.invokevirtual 100, 3) := by decide +kernel
theorem dX4_rankOf_49 : decode cX4_rankOf 49 = .ok (.ifCond .eq 6, 3) := by decide +kernel
theorem dX4_rankOf_52 : decode cX4_rankOf 52 = .ok (.iinc 3 1, 3) := by decide +kernel
theorem dX4_rankOf_55 : decode cX4_rankOf 55 = .ok (.iinc 4 1, 3) := by decide +kernel
theorem dX4_rankOf_58 : decode cX4_rankOf 58 = .ok (.goto (-53), 3) := by decide +kernel
theorem dX4_rankOf_61 : decode cX4_rankOf 61 = .ok (.iload_n 3, 1) := by decide +kernel
theorem dX4_rankOf_62 : decode cX4_rankOf 62 = .ok (.ireturn, 1) := by decide +kernel
theorem dX5_init_0 : decode cX5_init 0 = .ok (.aload_n 0, 1) := by decide +kernel
theorem dX5_init_1 : decode cX5_init 1 = .ok (.invokespecial 3, 3) := by decide +kernel
theorem dX5_init_4 : decode cX5_init 4 = .ok (.aload_n 0, 1) := by decide +kernel
theorem dX5_init_5 : decode cX5_init 5 = .ok (.bipush 10, 2) := by decide +kernel
theorem dX5_init_7 : decode cX5_init 7 = .ok (.anewarray 9, 3) := by decide +kernel
theorem dX5_init_10 : decode cX5_init 10 = .ok (.putfield 11, 3) := by decide +kernel
theorem dX5_init_13 : decode cX5_init 13 = .ok (.aload_n 0, 1) := by decide +kernel
theorem dX5_init_14 : decode cX5_init 14 = .ok (.bipush 11, 2) := by decide +kernel
theorem dX5_init_16 : decode cX5_init 16 = .ok (.anewarray 17, 3) := by decide +kernel
theorem dX5_init_19 : decode cX5_init 19 = .ok (.putfield 19, 3) := by decide +kernel
theorem dX5_init_22 : decode cX5_init 22 = .ok (.new 9, 3) := by decide +kernel
theorem dX5_init_25 : decode cX5_init 25 = .ok (.dup, 1) := by decide +kernel
theorem dX5_init_26 : decode cX5_init 26 = .ok (.invokespecial 23, 3) := by decide +kernel
theorem dX5_init_29 : decode cX5_init 29 = .ok (.astore_n 1, 1) := by decide +kernel
theorem dX5_init_30 : decode cX5_init 30 = .ok (.iconst 0, 1) := by decide +kernel
theorem dX5_init_31 : decode cX5_init 31 = .ok (.istore_n 2, 1) := by decide +kernel
theorem dX5_init_32 : decode cX5_init 32 = .ok (.iload_n 2, 1) := by decide +kernel
theorem dX5_init_33 : decode cX5_init 33 = .ok (.aload_n 0, 1) := by decide +kernel
theorem dX5_init_34 : decode cX5_init 34 = .ok (.getfield 11, 3) := by decide +kernel
theorem dX5_init_37 : decode cX5_init 37 = .ok (.arraylength, 1) := by decide +kernel
theorem dX5_init_38 : decode cX5_init 38 = .ok (.if_icmp .ge 16, 3) := by decide +kernel
theorem dX5_init_41 : decode cX5_init 41 = .ok (.aload_n 0, 1) := by decide +kernel
theorem dX5_init_42 : decode cX5_init 42 = .ok (.getfield 11, 3) := by decide +kernel
theorem dX5_init_45 : decode cX5_init 45 = .ok (.iload_n 2, 1) := by decide +kernel
theorem dX5_init_46 : decode cX5_init 46 = .ok (.aload_n 1, 1) := by decide +kernel
theorem dX5_init_47 : decode cX5_init 47 = .ok (.aastore, 1) := by decide +kernel
theorem dX5_init_48 : decode cX5_init 48 = .ok (.iinc 2 1, 3) := by decide +kernel
theorem dX5_init_51 : decode cX5_init 51 = .ok (.goto (-19), 3) := by decide +kernel
theorem dX5_init_54 : decode cX5_init 54 = .ok (.iconst 0, 1) := by decide +kernel
theorem dX5_init_55 : decode cX5_init 55 = .ok (.istore_n 2, 1) := by decide +kernel
theorem dX5_init_56 : decode cX5_init 56 = .ok (.iload_n 2, 1) := by decide +kernel
theorem dX5_init_57 : decode cX5_init 57 = .ok (.aload_n 0, 1) := by decide +kernel
theorem dX5_init_58 : decode cX5_init 58 = .ok (.getfield 19, 3) := by decide +kernel
theorem dX5_init_61 : decode cX5_init 61 = .ok (.arraylength, 1) := by decide +kernel
theorem dX5_init_62 : decode cX5_init 62 = .ok (.if_icmp .ge 22, 3) := by decide +kernel
theorem dX5_init_65 : decode cX5_init 65 = .ok (.aload_n 0, 1) := by decide +kernel
theorem dX5_init_66 : decode cX5_init 66 = .ok (.getfield 19, 3) := by decide +kernel
theorem dX5_init_69 : decode cX5_init 69 = .ok (.iload_n 2, 1) := by decide +kernel
theorem dX5_init_70 : decode cX5_init 70 = .ok (.new 17, 3) := by decide +kernel
theorem dX5_init_73 : decode cX5_init 73 = .ok (.dup, 1) := by decide +kernel
theorem dX5_init_74 : decode cX5_init 74 = .ok (.invokespecial 24, 3) := by decide +kernel
theorem dX5_init_77 : decode cX5_init 77 = .ok (.aastore, 1) := by decide +kernel
theorem dX5_init_78 : decode cX5_init 78 = .ok (.iinc 2 1, 3) := by decide +kernel
theorem dX5_init_81 : decode cX5_init 81 = .ok (.goto (-25), 3) := by decide +kernel
theorem dX5_init_84 : decode cX5_init 84 = .ok (.return_, 1) := by decide +kernel
theorem dX5_gather_0 : decode cX5_gather 0 = .ok (.aload_n 0, 1) := by decide +kernel
theorem dX5_gather_1 : decode cX5_gather 1 = .ok (.iconst 0, 1) := by decide +kernel
theorem dX5_gather_2 : decode cX5_gather 2 = .ok (.putfield 25, 3) := by decide +kernel
theorem dX5_gather_5 : decode cX5_gather 5 = .ok (.iconst 0, 1) := by decide +kernel
theorem dX5_gather_6 : decode cX5_gather 6 = .ok (.istore_n 2, 1) := by decide +kernel
theorem dX5_gather_7 : decode cX5_gather 7 = .ok (.iload_n 2, 1) := by decide +kernel
theorem dX5_gather_8 : decode cX5_gather 8 = .ok (.aload_n 1, 1) := by decide +kernel
theorem dX5_gather_9 : decode cX5_gather 9 = .ok (.getfield 29, 3) := by decide +kernel
theorem dX5_gather_12 : decode cX5_gather 12 = .ok (.if_icmp .ge 40, 3) := by decide +kernel
theorem dX5_gather_15 : decode cX5_gather 15 = .ok (.iload_n 2, 1) := by decide +kernel
theorem dX5_gather_16 : decode cX5_gather 16 = .ok (.aload_n 1, 1) := by decide +kernel
theorem dX5_gather_17 : decode cX5_gather 17 = .ok (.getfield 32, 3) := by decide +kernel
theorem dX5_gather_20 : decode cX5_gather 20 = .ok (.arraylength, 1) := by decide +kernel
theorem dX5_gather_21 : decode cX5_gather 21 = .ok (.if_icmp .ge 31, 3) := by decide +kernel
theorem dX5_gather_24 : decode cX5_gather 24 = .ok (.aload_n 1, 1) := by decide +kernel
theorem dX5_gather_25 : decode cX5_gather 25 = .ok (.getfield 32, 3) := by decide +kernel
theorem dX5_gather_28 : decode cX5_gather 28 = .ok (.iload_n 2, 1) := by decide +kernel
theorem dX5_gather_29 : decode cX5_gather 29 = .ok (.aaload, 1) := by decide +kernel
theorem dX5_gather_30 : decode cX5_gather 30 = .ok (.getfield 35, 3) := by decide +kernel
theorem dX5_gather_33 : decode cX5_gather 33 = .ok (.ifCond .ne 13, 3) := by decide +kernel
theorem dX5_gather_36 : decode cX5_gather 36 = .ok (.aload_n 0, 1) := by decide +kernel
theorem dX5_gather_37 : decode cX5_gather 37 = .ok (.aload_n 1, 1) := by decide +kernel
theorem dX5_gather_38 : decode cX5_gather 38 = .ok (.getfield 32, 3) := by decide +kernel
theorem dX5_gather_41 : decode cX5_gather 41 = .ok (.iload_n 2, 1) := by decide +kernel
theorem dX5_gather_42 : decode cX5_gather 42 = .ok (.aaload, 1) := by decide +kernel
theorem dX5_gather_43 : decode cX5_gather 43 = .ok (.invokevirtual 38, 3) := by decide +kernel
theorem dX5_gather_46 : decode cX5_gather 46 = .ok (.iinc 2 1, 3) := by decide +kernel
theorem dX5_gather_49 : decode cX5_gather 49 = .ok (.goto (-42), 3) := by decide +kernel
theorem dX5_gather_52 : decode cX5_gather 52 = .ok (.aload_n 0, 1) := by decide +kernel
theorem dX5_gather_53 : decode cX5_gather 53 = .ok (.getfield 25, 3) := by decide +kernel
theorem dX5_gather_56 : decode cX5_gather 56 = .ok (.ireturn, 1) := by decide +kernel
theorem dX5_takeIn_0 : decode cX5_takeIn 0 = .ok (.aload_n 0, 1) := by decide +kernel
theorem dX5_takeIn_1 : decode cX5_takeIn 1 = .ok (.getfield 25, 3) := by decide +kernel
theorem dX5_takeIn_4 : decode cX5_takeIn 4 = .ok (.aload_n 0, 1) := by decide +kernel
theorem dX5_takeIn_5 : decode cX5_takeIn 5 = .ok (.getfield 11, 3) := by decide +kernel
theorem dX5_takeIn_8 : decode cX5_takeIn 8 = .ok (.arraylength, 1) := by decide +kernel
theorem dX5_takeIn_9 : decode cX5_takeIn 9 = .ok (.if_icmp .lt 4, 3) := by decide +kernel
end
section
theorem dX5_takeIn_12 : decode cX5_takeIn 12 = .ok (.return_, 1) := by decide +kernel
theorem dX5_takeIn_13 : decode cX5_takeIn 13 = .ok (.aload_n 0, 1) := by decide +kernel
theorem dX5_takeIn_14 : decode cX5_takeIn 14 = .ok (.getfield 25, 3) := by decide +kernel
theorem dX5_takeIn_17 : decode cX5_takeIn 17 = .ok (.istore_n 2, 1) := by decide +kernel
theorem dX5_takeIn_18 : decode cX5_takeIn 18 = .ok (.iload_n 2, 1) := by decide +kernel
theorem dX5_takeIn_19 : decode cX5_takeIn 19 = .ok (.ifCond .le 41, 3) := by decide +kernel
theorem dX5_takeIn_22 : decode cX5_takeIn 22 = .ok (.aload_n 0, 1) := by decide +kernel
theorem dX5_takeIn_23 : decode cX5_takeIn 23 = .ok (.getfield 11, 3) := by decide +kernel
theorem dX5_takeIn_26 : decode cX5_takeIn 26 = .ok (.iload_n 2, 1) := by decide +kernel
theorem dX5_takeIn_27 : decode cX5_takeIn 27 = .ok (.iconst 1, 1) := by decide +kernel
theorem dX5_takeIn_28 : decode cX5_takeIn 28 = .ok (.isub, 1) := by decide +kernel
theorem dX5_takeIn_29 : decode cX5_takeIn 29 = .ok (.aaload, 1) := by decide +kernel
theorem dX5_takeIn_30 : decode cX5_takeIn 30 = .ok (.getfield 42, 3) := by decide +kernel
theorem dX5_takeIn_33 : decode cX5_takeIn 33 = .ok (.aload_n 1, 1) := by decide +kernel
theorem dX5_takeIn_34 : decode cX5_takeIn 34 = .ok (.getfield 42, 3) := by decide +kernel
theorem dX5_takeIn_37 : decode cX5_takeIn 37 = .ok (.if_icmp .le 23, 3) := by decide +kernel
theorem dX5_takeIn_40 : decode cX5_takeIn 40 = .ok (.aload_n 0, 1) := by decide +kernel
theorem dX5_takeIn_41 : decode cX5_takeIn 41 = .ok (.getfield 11, 3) := by decide +kernel
theorem dX5_takeIn_44 : decode cX5_takeIn 44 = .ok (.iload_n 2, 1) := by decide +kernel
theorem dX5_takeIn_45 : decode cX5_takeIn 45 = .ok (.aload_n 0, 1) := by decide +kernel
theorem dX5_takeIn_46 : decode cX5_takeIn 46 = .ok (.getfield 11, 3) := by decide +kernel
theorem dX5_takeIn_49 : decode cX5_takeIn 49 = .ok (.iload_n 2, 1) := by decide +kernel
theorem dX5_takeIn_50 : decode cX5_takeIn 50 = .ok (.iconst 1, 1) := by decide +kernel
theorem dX5_takeIn_51 : decode cX5_takeIn 51 = .ok (.isub, 1) := by decide +kernel
theorem dX5_takeIn_52 : decode cX5_takeIn 52 = .ok (.aaload, 1) := by decide +kernel
theorem dX5_takeIn_53 : decode cX5_takeIn 53 = .ok (.aastore, 1) := by decide +kernel
theorem dX5_takeIn_54 : decode cX5_takeIn 54 = .ok (.iinc 2 (-1), 3) := by decide +kernel
theorem dX5_takeIn_57 : decode cX5_takeIn 57 = .ok (.goto (-39), 3) := by decide +kernel
theorem dX5_takeIn_60 : decode cX5_takeIn 60 = .ok (.aload_n 0, 1) := by decide +kernel
theorem dX5_takeIn_61 : decode cX5_takeIn 61 = .ok (.getfield 11, 3) := by decide +kernel
theorem dX5_takeIn_64 : decode cX5_takeIn 64 = .ok (.iload_n 2, 1) := by decide +kernel
theorem dX5_takeIn_65 : decode cX5_takeIn 65 = .ok (.aload_n 1, 1) := by decide +kernel
theorem dX5_takeIn_66 : decode cX5_takeIn 66 = .ok (.aastore, 1) := by decide +kernel
theorem dX5_takeIn_67 : decode cX5_takeIn 67 = .ok (.aload_n 0, 1) := by decide +kernel
theorem dX5_takeIn_68 : decode cX5_takeIn 68 = .ok (.dup, 1) := by decide +kernel
theorem dX5_takeIn_69 : decode cX5_takeIn 69 = .ok (.getfield 25, 3) := by decide +kernel
theorem dX5_takeIn_72 : decode cX5_takeIn 72 = .ok (.iconst 1, 1) := by decide +kernel
theorem dX5_takeIn_73 : decode cX5_takeIn 73 = .ok (.iadd, 1) := by decide +kernel
theorem dX5_takeIn_74 : decode cX5_takeIn 74 = .ok (.putfield 25, 3) := by decide +kernel
theorem dX5_takeIn_77 : decode cX5_takeIn 77 = .ok (.return_, 1) := by decide +kernel
theorem dX5_plan_0 : decode cX5_plan 0 = .ok (.aload_n 0, 1) := by decide +kernel
theorem dX5_plan_1 : decode cX5_plan 1 = .ok (.getfield 25, 3) := by decide +kernel
theorem dX5_plan_4 : decode cX5_plan 4 = .ok (.ifCond .lt 15, 3) := by decide +kernel
theorem dX5_plan_7 : decode cX5_plan 7 = .ok (.aload_n 0, 1) := by decide +kernel
theorem dX5_plan_8 : decode cX5_plan 8 = .ok (.getfield 25, 3) := by decide +kernel
theorem dX5_plan_11 : decode cX5_plan 11 = .ok (.aload_n 0, 1) := by decide +kernel
theorem dX5_plan_12 : decode cX5_plan 12 = .ok (.getfield 19, 3) := by decide +kernel
theorem dX5_plan_15 : decode cX5_plan 15 = .ok (.arraylength, 1) := by decide +kernel
theorem dX5_plan_16 : decode cX5_plan 16 = .ok (.if_icmp .lt 4, 3) := by decide +kernel
theorem dX5_plan_19 : decode cX5_plan 19 = .ok (.return_, 1) := by decide +kernel
theorem dX5_plan_20 : decode cX5_plan 20 = .ok (.aload_n 0, 1) := by decide +kernel
theorem dX5_plan_21 : decode cX5_plan 21 = .ok (.getfield 19, 3) := by decide +kernel
theorem dX5_plan_24 : decode cX5_plan 24 = .ok (.aload_n 0, 1) := by decide +kernel
theorem dX5_plan_25 : decode cX5_plan 25 = .ok (.getfield 25, 3) := by decide +kernel
theorem dX5_plan_28 : decode cX5_plan 28 = .ok (.aaload, 1) := by decide +kernel
theorem dX5_plan_29 : decode cX5_plan 29 = .ok (.invokevirtual 45, 3) := by decide +kernel
theorem dX5_plan_32 : decode cX5_plan 32 = .ok (.aload_n 0, 1) := by decide +kernel
theorem dX5_plan_33 : decode cX5_plan 33 = .ok (.getfield 25, 3) := by decide +kernel
theorem dX5_plan_36 : decode cX5_plan 36 = .ok (.iconst 1, 1) := by decide +kernel
theorem dX5_plan_37 : decode cX5_plan 37 = .ok (.isub, 1) := by decide +kernel
theorem dX5_plan_38 : decode cX5_plan 38 = .ok (.istore 4, 2) := by decide +kernel
theorem dX5_plan_40 : decode cX5_plan 40 = .ok (.iload 4, 2) := by decide +kernel
theorem dX5_plan_42 : decode cX5_plan 42 = .ok (.ifCond .lt 58, 3) := by decide +kernel
theorem dX5_plan_45 : decode cX5_plan 45 = .ok (.iload 4, 2) := by decide +kernel
theorem dX5_plan_47 : decode cX5_plan 47 = .ok (.aload_n 0, 1) := by decide +kernel
theorem dX5_plan_48 : decode cX5_plan 48 = .ok (.getfield 11, 3) := by decide +kernel
theorem dX5_plan_51 : decode cX5_plan 51 = .ok (.arraylength, 1) := by decide +kernel
theorem dX5_plan_52 : decode cX5_plan 52 = .ok (.if_icmp .ge 48, 3) := by decide +kernel
theorem dX5_plan_55 : decode cX5_plan 55 = .ok (.aload_n 0, 1) := by decide +kernel
theorem dX5_plan_56 : decode cX5_plan 56 = .ok (.getfield 19, 3) := by decide +kernel
theorem dX5_plan_59 : decode cX5_plan 59 = .ok (.iload 4, 2) := by decide +kernel
theorem dX5_plan_61 : decode cX5_plan 61 = .ok (.aaload, 1) := by decide +kernel
theorem dX5_plan_62 : decode cX5_plan 62 = .ok (.aload_n 0, 1) := by decide +kernel
theorem dX5_plan_63 : decode cX5_plan 63 = .ok (.getfield 11, 3) := by decide +kernel
theorem dX5_plan_66 : decode cX5_plan 66 = .ok (.iload 4, 2) := by decide +kernel
theorem dX5_plan_68 : decode cX5_plan 68 = .ok (.aaload, 1) := by decide +kernel
theorem dX5_plan_69 : decode cX5_plan 69 = .ok (.aload_n 1, 1) := by decide +kernel
theorem dX5_plan_70 : decode cX5_plan 70 = .ok (.iload_n 2, 1) := by decide +kernel
theorem dX5_plan_71 : decode cX5_plan 71 = .ok (.aload_n 3, 1) := by decide +kernel
theorem dX5_plan_72 : decode cX5_plan 72 = .ok (.invokevirtual 48, 3) := by decide +kernel
theorem dX5_plan_75 : decode cX5_plan 75 = .ok (.aload_n 0, 1) := by decide +kernel
theorem dX5_plan_76 : decode cX5_plan 76 = .ok (.getfield 19, 3) := by decide +kernel
theorem dX5_plan_79 : decode cX5_plan 79 = .ok (.iload 4, 2) := by decide +kernel
theorem dX5_plan_81 : decode cX5_plan 81 = .ok (.aaload, 1) := by decide +kernel
theorem dX5_plan_82 : decode cX5_plan 82 = .ok (.aload_n 0, 1) := by decide +kernel
theorem dX5_plan_83 : decode cX5_plan 83 = .ok (.getfield 19, 3) := by decide +kernel
theorem dX5_plan_86 : decode cX5_plan 86 = .ok (.iload 4, 2) := by decide +kernel
theorem dX5_plan_88 : decode cX5_plan 88 = .ok (.iconst 1, 1) := by decide +kernel
theorem dX5_plan_89 : decode cX5_plan 89 = .ok (.iadd, 1) := by decide +kernel
theorem dX5_plan_90 : decode cX5_plan 90 = .ok (.aaload, 1) := by decide +kernel
theorem dX5_plan_91 : decode cX5_plan 91 = .ok (.invokevirtual 52, 3) := by decide +kernel
theorem dX5_plan_94 : decode cX5_plan 94 = .ok (.iinc 4 (-1), 3) := by decide +kernel
theorem dX5_plan_97 : decode cX5_plan 97 = .ok (.goto (-57), 3) := by decide +kernel
theorem dX5_plan_100 : decode cX5_plan 100 = .ok (.return_, 1) := by decide +kernel
theorem dX5_carryOut_0 : decode cX5_carryOut 0 = .ok (.iconst 0, 1) := by decide +kernel
theorem dX5_carryOut_1 : decode cX5_carryOut 1 = .ok (.istore_n 1, 1) := by decide +kernel
theorem dX5_carryOut_2 : decode cX5_carryOut 2 = .ok (.iconst 0, 1) := by decide +kernel
theorem dX5_carryOut_3 : decode cX5_carryOut 3 = .ok (.istore_n 2, 1) := by decide +kernel
theorem dX5_carryOut_4 : decode cX5_carryOut 4 = .ok (.iconst 0, 1) := by decide +kernel
theorem dX5_carryOut_5 : decode cX5_carryOut 5 = .ok (.istore_n 3, 1) := by decide +kernel
theorem dX5_carryOut_6 : decode cX5_carryOut 6 = .ok (.iload_n 3, 1) := by decide +kernel
theorem dX5_carryOut_7 : decode cX5_carryOut 7 = .ok (.aload_n 0, 1) := by decide +kernel
theorem dX5_carryOut_8 : decode cX5_carryOut 8 = .ok (.getfield 25, 3) := by decide +kernel
theorem dX5_carryOut_11 : decode cX5_carryOut 11 = .ok (.if_icmp .ge 85, 3) := by decide +kernel
theorem dX5_carryOut_14 : decode cX5_carryOut 14 = .ok (.iload_n 3, 1) := by decide +kernel
theorem dX5_carryOut_15 : decode cX5_carryOut 15 = .ok (.aload_n 0, 1) := by decide +kernel
theorem dX5_carryOut_16 : decode cX5_carryOut 16 = .ok (.getfield 11, 3) := by decide +kernel
theorem dX5_carryOut_19 : decode cX5_carryOut 19 = .ok (.arraylength, 1) := by decide +kernel
theorem dX5_carryOut_20 : decode cX5_carryOut 20 = .ok (.if_icmp .ge 76, 3) := by decide +kernel
theorem dX5_carryOut_23 : decode cX5_carryOut 23 = .ok (.iload_n 3, 1) := by decide +kernel
theorem dX5_carryOut_24 : decode cX5_carryOut 24 = .ok (.iconst 1, 1) := by decide +kernel
theorem dX5_carryOut_25 : decode cX5_carryOut 25 = .ok (.iadd, 1) := by decide +kernel
theorem dX5_carryOut_26 : decode cX5_carryOut 26 = .ok (.aload_n 0, 1) := by decide +kernel
theorem dX5_carryOut_27 : decode cX5_carryOut 27 = .ok (.getfield 19, 3) := by decide +kernel
theorem dX5_carryOut_30 : decode cX5_carryOut 30 = .ok (.arraylength, 1) := by decide +kernel
theorem dX5_carryOut_31 : decode cX5_carryOut 31 = .ok (.if_icmp .ge 65, 3) := by decide +kernel
theorem dX5_carryOut_34 : decode cX5_carryOut 34 = .ok (.aload_n 0, 1) := by decide +kernel
theorem dX5_carryOut_35 : decode cX5_carryOut 35 = .ok (.getfield 19, 3) := by decide +kernel
theorem dX5_carryOut_38 : decode cX5_carryOut 38 = .ok (.iload_n 3, 1) := by decide +kernel
theorem dX5_carryOut_39 : decode cX5_carryOut 39 = .ok (.aaload, 1) := by decide +kernel
theorem dX5_carryOut_40 : decode cX5_carryOut 40 = .ok (.iload_n 2, 1) := by decide +kernel
theorem dX5_carryOut_41 : decode cX5_carryOut 41 = .ok (.aload_n 0, 1) := by decide +kernel
theorem dX5_carryOut_42 : decode cX5_carryOut 42 = .ok (.getfield 19, 3) := by decide +kernel
theorem dX5_carryOut_45 : decode cX5_carryOut 45 = .ok (.iload_n 3, 1) := by decide +kernel
theorem dX5_carryOut_46 : decode cX5_carryOut 46 = .ok (.iconst 1, 1) := by decide +kernel
theorem dX5_carryOut_47 : decode cX5_carryOut 47 = .ok (.iadd, 1) := by decide +kernel
theorem dX5_carryOut_48 : decode cX5_carryOut 48 = .ok (.aaload, 1) := by decide +kernel
theorem dX5_carryOut_49 : decode cX5_carryOut 49 = .ok (.invokevirtual 56, 3) := by decide +kernel
theorem dX5_carryOut_52 : decode cX5_carryOut 52 = .ok (.istore 4, 2) := by decide +kernel
theorem dX5_carryOut_54 : decode cX5_carryOut 54 = .ok (.iload 4, 2) := by decide +kernel
theorem dX5_carryOut_56 : decode cX5_carryOut 56 = .ok (.sipush (-1005), 3) := by decide +kernel
theorem dX5_carryOut_59 : decode cX5_carryOut 59 = .ok (.if_icmp .eq 31, 3) := by decide +kernel
theorem dX5_carryOut_62 : decode cX5_carryOut 62 = .ok (.aload_n 0, 1) := by decide +kernel
theorem dX5_carryOut_63 : decode cX5_carryOut 63 = .ok (.getfield 11, 3) := by decide +kernel
theorem dX5_carryOut_66 : decode cX5_carryOut 66 = .ok (.iload_n 3, 1) := by decide +kernel
theorem dX5_carryOut_67 : decode cX5_carryOut 67 = .ok (.aaload, 1) := by decide +kernel
theorem dX5_carryOut_68 : decode cX5_carryOut 68 = .ok (.iload 4, 2) := by decide +kernel
theorem dX5_carryOut_70 : decode cX5_carryOut 70 = .ok (.aload_n 0, 1) := by decide +kernel
theorem dX5_carryOut_71 : decode cX5_carryOut 71 = .ok (.getfield 19, 3) := by decide +kernel
theorem dX5_carryOut_74 : decode cX5_carryOut 74 = .ok (.iload_n 3, 1) := by decide +kernel
theorem dX5_carryOut_75 : decode cX5_carryOut 75 = .ok (.aaload, 1) := by decide +kernel
theorem dX5_carryOut_76 : decode cX5_carryOut 76 = .ok (.iload 4, 2) := by decide +kernel
theorem dX5_carryOut_78 : decode cX5_carryOut 78 = .ok (.invokevirtual 60, 3) := by decide +kernel
theorem dX5_carryOut_81 : decode cX5_carryOut 81 = .ok (.invokevirtual 64, 3) := by decide +kernel
theorem dX5_carryOut_84 : decode cX5_carryOut 84 = .ok (.iload 4, 2) := by decide +kernel
theorem dX5_carryOut_86 : decode cX5_carryOut 86 = .ok (.istore_n 2, 1) := by decide +kernel
theorem dX5_carryOut_87 : decode cX5_carryOut 87 = .ok (.iinc 1 1, 3) := by decide +kernel
theorem dX5_carryOut_90 : decode cX5_carryOut 90 = .ok (.iinc 3 1, 3) := by decide +kernel
theorem dX5_carryOut_93 : decode cX5_carryOut 93 = .ok (.goto (-87), 3) := by decide +kernel
theorem dX5_carryOut_96 : decode cX5_carryOut 96 = .ok (.iload_n 1, 1) := by decide +kernel
theorem dX5_carryOut_97 : decode cX5_carryOut 97 = .ok (.ireturn, 1) := by decide +kernel
theorem dX6_init_0 : decode cX6_init 0 = .ok (.aload_n 0, 1) := by decide +kernel
theorem dX6_init_1 : decode cX6_init 1 = .ok (.invokespecial 1, 3) := by decide +kernel
theorem dX6_init_4 : decode cX6_init 4 = .ok (.aload_n 0, 1) := by decide +kernel
theorem dX6_init_5 : decode cX6_init 5 = .ok (.new 7, 3) := by decide +kernel
theorem dX6_init_8 : decode cX6_init 8 = .ok (.dup, 1) := by decide +kernel
theorem dX6_init_9 : decode cX6_init 9 = .ok (.invokespecial 9, 3) := by decide +kernel
theorem dX6_init_12 : decode cX6_init 12 = .ok (.putfield 10, 3) := by decide +kernel
theorem dX6_init_15 : decode cX6_init 15 = .ok (.return_, 1) := by decide +kernel
theorem dX7_init_0 : decode cX7_init 0 = .ok (.aload_n 0, 1) := by decide +kernel
theorem dX7_init_1 : decode cX7_init 1 = .ok (.invokespecial 3, 3) := by decide +kernel
theorem dX7_init_4 : decode cX7_init 4 = .ok (.aload_n 0, 1) := by decide +kernel
theorem dX7_init_5 : decode cX7_init 5 = .ok (.iconst 0, 1) := by decide +kernel
theorem dX7_init_6 : decode cX7_init 6 = .ok (.iload_n 1, 1) := by decide +kernel
theorem dX7_init_7 : decode cX7_init 7 = .ok (.invokestatic 9, 3) := by decide +kernel
theorem dX7_init_10 : decode cX7_init 10 = .ok (.newarray .int, 2) := by decide +kernel
theorem dX7_init_12 : decode cX7_init 12 = .ok (.putfield 15, 3) := by decide +kernel
theorem dX7_init_15 : decode cX7_init 15 = .ok (.aload_n 0, 1) := by decide +kernel
theorem dX7_init_16 : decode cX7_init 16 = .ok (.iconst 0, 1) := by decide +kernel
theorem dX7_init_17 : decode cX7_init 17 = .ok (.putfield 21, 3) := by decide +kernel
theorem dX7_init_20 : decode cX7_init 20 = .ok (.return_, 1) := by decide +kernel
theorem dX7_at_0 : decode cX7_at 0 = .ok (.iload_n 1, 1) := by decide +kernel
theorem dX7_at_1 : decode cX7_at 1 = .ok (.ifCond .lt 29, 3) := by decide +kernel
theorem dX7_at_4 : decode cX7_at 4 = .ok (.iload_n 1, 1) := by decide +kernel
theorem dX7_at_5 : decode cX7_at 5 = .ok (.aload_n 0, 1) := by decide +kernel
theorem dX7_at_6 : decode cX7_at 6 = .ok (.getfield 21, 3) := by decide +kernel
theorem dX7_at_9 : decode cX7_at 9 = .ok (.if_icmp .ge 21, 3) := by decide +kernel
theorem dX7_at_12 : decode cX7_at 12 = .ok (.iload_n 1, 1) := by decide +kernel
theorem dX7_at_13 : decode cX7_at 13 = .ok (.aload_n 0, 1) := by decide +kernel
theorem dX7_at_14 : decode cX7_at 14 = .ok (.getfield 15, 3) := by decide +kernel
theorem dX7_at_17 : decode cX7_at 17 = .ok (.arraylength, 1) := by decide +kernel
theorem dX7_at_18 : decode cX7_at 18 = .ok (.if_icmp .ge 12, 3) := by decide +kernel
theorem dX7_at_21 : decode cX7_at 21 = .ok (.aload_n 0, 1) := by decide +kernel
theorem dX7_at_22 : decode cX7_at 22 = .ok (.getfield 15, 3) := by decide +kernel
theorem dX7_at_25 : decode cX7_at 25 = .ok (.iload_n 1, 1) := by decide +kernel
theorem dX7_at_26 : decode cX7_at 26 = .ok (.iaload, 1) := by decide +kernel
theorem dX7_at_27 : decode cX7_at 27 = .ok (.goto 4, 3) := by decide +kernel
theorem dX7_at_30 : decode cX7_at 30 = .ok (.iconst (-1), 1) := by decide +kernel
theorem dX7_at_31 : decode cX7_at 31 = .ok (.ireturn, 1) := by decide +kernel
theorem dX7_empty_0 : decode cX7_empty 0 = .ok (.aload_n 0, 1) := by decide +kernel
theorem dX7_empty_1 : decode cX7_empty 1 = .ok (.iconst 0, 1) := by decide +kernel
theorem dX7_empty_2 : decode cX7_empty 2 = .ok (.putfield 21, 3) := by decide +kernel
theorem dX7_empty_5 : decode cX7_empty 5 = .ok (.return_, 1) := by decide +kernel
theorem dX7_append_0 : decode cX7_append 0 = .ok (.aload_n 0, 1) := by decide +kernel
theorem dX7_append_1 : decode cX7_append 1 = .ok (.getfield 21, 3) := by decide +kernel
theorem dX7_append_4 : decode cX7_append 4 = .ok (.ifCond .lt 35, 3) := by decide +kernel
theorem dX7_append_7 : decode cX7_append 7 = .ok (.aload_n 0, 1) := by decide +kernel
theorem dX7_append_8 : decode cX7_append 8 = .ok (.getfield 21, 3) := by decide +kernel
theorem dX7_append_11 : decode cX7_append 11 = .ok (.aload_n 0, 1) := by decide +kernel
theorem dX7_append_12 : decode cX7_append 12 = .ok (.getfield 15, 3) := by decide +kernel
theorem dX7_append_15 : decode cX7_append 15 = .ok (.arraylength, 1) := by decide +kernel
theorem dX7_append_16 : decode cX7_append 16 = .ok (.if_icmp .ge 23, 3) := by decide +kernel
theorem dX7_append_19 : decode cX7_append 19 = .ok (.aload_n 0, 1) := by decide +kernel
theorem dX7_append_20 : decode cX7_append 20 = .ok (.getfield 15, 3) := by decide +kernel
theorem dX7_append_23 : decode cX7_append 23 = .ok (.aload_n 0, 1) := by decide +kernel
theorem dX7_append_24 : decode cX7_append 24 = .ok (.getfield 21, 3) := by decide +kernel
theorem dX7_append_27 : decode cX7_append 27 = .ok (.iload_n 1, 1) := by decide +kernel
theorem dX7_append_28 : decode cX7_append 28 = .ok (.iastore, 1) := by decide +kernel
theorem dX7_append_29 : decode cX7_append 29 = .ok (.aload_n 0, 1) := by decide +kernel
theorem dX7_append_30 : decode cX7_append 30 = .ok (.dup, 1) := by decide +kernel
theorem dX7_append_31 : decode cX7_append 31 = .ok (.getfield 21, 3) := by decide +kernel
theorem dX7_append_34 : decode cX7_append 34 = .ok (.iconst 1, 1) := by decide +kernel
theorem dX7_append_35 : decode cX7_append 35 = .ok (.iadd, 1) := by decide +kernel
theorem dX7_append_36 : decode cX7_append 36 = .ok (.putfield 21, 3) := by decide +kernel
theorem dX7_append_39 : decode cX7_append 39 = .ok (.return_, 1) := by decide +kernel
theorem dX7_become_0 : decode cX7_become 0 = .ok (.aload_n 0, 1) := by decide +kernel
theorem dX7_become_1 : decode cX7_become 1 = .ok (.aload_n 1, 1) := by decide +kernel
theorem dX7_become_2 : decode cX7_become 2 = .ok (.iconst 0, 1) := by decide +kernel
theorem dX7_become_3 : decode cX7_become 3 = .ok (.aload_n 1, 1) := by decide +kernel
theorem dX7_become_4 : decode cX7_become 4 = .ok (.getfield 21, 3) := by decide +kernel
theorem dX7_become_7 : decode cX7_become 7 = .ok (.invokevirtual 25, 3) := by decide +kernel
theorem dX7_become_10 : decode cX7_become 10 = .ok (.return_, 1) := by decide +kernel
theorem dX7_copyPart_0 : decode cX7_copyPart 0 = .ok (.aload_n 0, 1) := by decide +kernel
theorem dX7_copyPart_1 : decode cX7_copyPart 1 = .ok (.iconst 0, 1) := by decide +kernel
theorem dX7_copyPart_2 : decode cX7_copyPart 2 = .ok (.putfield 21, 3) := by decide +kernel
theorem dX7_copyPart_5 : decode cX7_copyPart 5 = .ok (.iconst 0, 1) := by decide +kernel
theorem dX7_copyPart_6 : decode cX7_copyPart 6 = .ok (.iload_n 2, 1) := by decide +kernel
theorem dX7_copyPart_7 : decode cX7_copyPart 7 = .ok (.invokestatic 9, 3) := by decide +kernel
theorem dX7_copyPart_10 : decode cX7_copyPart 10 = .ok (.istore 4, 2) := by decide +kernel
theorem dX7_copyPart_12 : decode cX7_copyPart 12 = .ok (.iload 4, 2) := by decide +kernel
theorem dX7_copyPart_14 : decode cX7_copyPart 14 = .ok (.iload_n 3, 1) := by decide +kernel
theorem dX7_copyPart_15 : decode cX7_copyPart 15 = .ok (.if_icmp .ge 28, 3) := by decide +kernel
theorem dX7_copyPart_18 : decode cX7_copyPart 18 = .ok (.iload 4, 2) := by decide +kernel
theorem dX7_copyPart_20 : decode cX7_copyPart 20 = .ok (.aload_n 1, 1) := by decide +kernel
theorem dX7_copyPart_21 : decode cX7_copyPart 21 = .ok (.getfield 21, 3) := by decide +kernel
theorem dX7_copyPart_24 : decode cX7_copyPart 24 = .ok (.if_icmp .ge 19, 3) := by decide +kernel
theorem dX7_copyPart_27 : decode cX7_copyPart 27 = .ok (.aload_n 0, 1) := by decide +kernel
theorem dX7_copyPart_28 : decode cX7_copyPart 28 = .ok (.aload_n 1, 1) := by decide +kernel
theorem dX7_copyPart_29 : decode cX7_copyPart 29 = .ok (.iload 4, 2) := by decide +kernel
theorem dX7_copyPart_31 : decode cX7_copyPart 31 = .ok (.invokevirtual 29, 3) := by decide +kernel
theorem dX7_copyPart_34 : decode cX7_copyPart 34 = .ok (.invokevirtual 33, 3) := by decide +kernel
theorem dX7_copyPart_37 : decode cX7_copyPart 37 = .ok (.iinc 4 1, 3) := by decide +kernel
theorem dX7_copyPart_40 : decode cX7_copyPart 40 = .ok (.goto (-28), 3) := by decide +kernel
theorem dX7_copyPart_43 : decode cX7_copyPart 43 = .ok (.return_, 1) := by decide +kernel
theorem dX7_putLetters_0 : decode cX7_putLetters 0 = .ok (.aload_n 2, 1) := by decide +kernel
theorem dX7_putLetters_1 : decode cX7_putLetters 1 = .ok (.getfield 21, 3) := by decide +kernel
theorem dX7_putLetters_4 : decode cX7_putLetters 4 = .ok (.istore_n 3, 1) := by decide +kernel
theorem dX7_putLetters_5 : decode cX7_putLetters 5 = .ok (.iload_n 1, 1) := by decide +kernel
theorem dX7_putLetters_6 : decode cX7_putLetters 6 = .ok (.ifCond .lt 25, 3) := by decide +kernel
theorem dX7_putLetters_9 : decode cX7_putLetters 9 = .ok (.iload_n 1, 1) := by decide +kernel
theorem dX7_putLetters_10 : decode cX7_putLetters 10 = .ok (.aload_n 0, 1) := by decide +kernel
theorem dX7_putLetters_11 : decode cX7_putLetters 11 = .ok (.getfield 21, 3) := by decide +kernel
theorem dX7_putLetters_14 : decode cX7_putLetters 14 = .ok (.if_icmp .gt 17, 3) := by decide +kernel
theorem dX7_putLetters_17 : decode cX7_putLetters 17 = .ok (.iload_n 3, 1) := by decide +kernel
theorem dX7_putLetters_18 : decode cX7_putLetters 18 = .ok (.aload_n 0, 1) := by decide +kernel
theorem dX7_putLetters_19 : decode cX7_putLetters 19 = .ok (.getfield 15, 3) := by decide +kernel
theorem dX7_putLetters_22 : decode cX7_putLetters 22 = .ok (.arraylength, 1) := by decide +kernel
theorem dX7_putLetters_23 : decode cX7_putLetters 23 = .ok (.aload_n 0, 1) := by decide +kernel
theorem dX7_putLetters_24 : decode cX7_putLetters 24 = .ok (.getfield 21, 3) := by decide +kernel
theorem dX7_putLetters_27 : decode cX7_putLetters 27 = .ok (.isub, 1) := by decide +kernel
theorem dX7_putLetters_28 : decode cX7_putLetters 28 = .ok (.if_icmp .le 4, 3) := by decide +kernel
theorem dX7_putLetters_31 : decode cX7_putLetters 31 = .ok (.return_, 1) := by decide +kernel
theorem dX7_putLetters_32 : decode cX7_putLetters 32 = .ok (.aload_n 0, 1) := by decide +kernel
theorem dX7_putLetters_33 : decode cX7_putLetters 33 = .ok (.getfield 21, 3) := by decide +kernel
theorem dX7_putLetters_36 : decode cX7_putLetters 36 = .ok (.iconst 1, 1) := by decide +kernel
theorem dX7_putLetters_37 : decode cX7_putLetters 37 = .ok (.isub, 1) := by decide +kernel
theorem dX7_putLetters_38 : decode cX7_putLetters 38 = .ok (.istore 4, 2) := by decide +kernel
theorem dX7_putLetters_40 : decode cX7_putLetters 40 = .ok (.iload 4, 2) := by decide +kernel
theorem dX7_putLetters_42 : decode cX7_putLetters 42 = .ok (.iload_n 1, 1) := by decide +kernel
theorem dX7_putLetters_43 : decode cX7_putLetters 43 = .ok (.if_icmp .lt 25, 3) := by decide +kernel
theorem dX7_putLetters_46 : decode cX7_putLetters 46 = .ok (.aload_n 0, 1) := by decide +kernel
theorem dX7_putLetters_47 : decode cX7_putLetters 47 = .ok (.getfield 15, 3) := by decide +kernel
theorem dX7_putLetters_50 : decode cX7_putLetters 50 = .ok (.iload 4, 2) := by decide +kernel
theorem dX7_putLetters_52 : decode cX7_putLetters 52 = .ok (.iload_n 3, 1) := by decide +kernel
theorem dX7_putLetters_53 : decode cX7_putLetters 53 = .ok (.iadd, 1) := by decide +kernel
theorem dX7_putLetters_54 : decode cX7_putLetters 54 = .ok (.aload_n 0, 1) := by decide +kernel
theorem dX7_putLetters_55 : decode cX7_putLetters 55 = .ok (.getfield 15, 3) := by decide +kernel
theorem dX7_putLetters_58 : decode cX7_putLetters 58 = .ok (.iload 4, 2) := by decide +kernel
theorem dX7_putLetters_60 : decode cX7_putLetters 60 = .ok (.iaload, 1) := by decide +kernel
theorem dX7_putLetters_61 : decode cX7_putLetters 61 = .ok (.iastore, 1) := by decide +kernel
theorem dX7_putLetters_62 : decode cX7_putLetters 62 = .ok (.iinc 4 (-1), 3) := by decide +kernel
theorem dX7_putLetters_65 : decode cX7_putLetters 65 = .ok (.goto (-25), 3) := by decide +kernel
theorem dX7_putLetters_68 : decode cX7_putLetters 68 = .ok (.iconst 0, 1) := by decide +kernel
theorem dX7_putLetters_69 : decode cX7_putLetters 69 = .ok (.istore 4, 2) := by decide +kernel
theorem dX7_putLetters_71 : decode cX7_putLetters 71 = .ok (.iload 4, 2) := by decide +kernel
theorem dX7_putLetters_73 : decode cX7_putLetters 73 = .ok (.iload_n 3, 1) := by decide +kernel
theorem dX7_putLetters_74 : decode cX7_putLetters 74 = .ok (.if_icmp .ge 24, 3) := by decide +kernel
theorem dX7_putLetters_77 : decode cX7_putLetters 77 = .ok (.aload_n 0, 1) := by decide +kernel
theorem dX7_putLetters_78 : decode cX7_putLetters 78 = .ok (.getfield 15, 3) := by decide +kernel
theorem dX7_putLetters_81 : decode cX7_putLetters 81 = .ok (.iload_n 1, 1) := by decide +kernel
theorem dX7_putLetters_82 : decode cX7_putLetters 82 = .ok (.iload 4, 2) := by decide +kernel
theorem dX7_putLetters_84 : decode cX7_putLetters 84 = .ok (.iadd, 1) := by decide +kernel
theorem dX7_putLetters_85 : decode cX7_putLetters 85 = .ok (.aload_n 2, 1) := by decide +kernel
theorem dX7_putLetters_86 : decode cX7_putLetters 86 = .ok (.iload 4, 2) := by decide +kernel
theorem dX7_putLetters_88 : decode cX7_putLetters 88 = .ok (.invokevirtual 29, 3) := by decide +kernel
theorem dX7_putLetters_91 : decode cX7_putLetters 91 = .ok (.iastore, 1) := by decide +kernel
theorem dX7_putLetters_92 : decode cX7_putLetters 92 = .ok (.iinc 4 1, 3) := by decide +kernel
theorem dX7_putLetters_95 : decode cX7_putLetters 95 = .ok (.goto (-24), 3) := by decide +kernel
theorem dX7_putLetters_98 : decode cX7_putLetters 98 = .ok (.aload_n 0, 1) := by decide +kernel
theorem dX7_putLetters_99 : decode cX7_putLetters 99 = .ok (.dup, 1) := by decide +kernel
theorem dX7_putLetters_100 : decode cX7_putLetters 100 = .ok (.getfield 21, 3) := by decide +kernel
theorem dX7_putLetters_103 : decode cX7_putLetters 103 = .ok (.iload_n 3, 1) := by decide +kernel
theorem dX7_putLetters_104 : decode cX7_putLetters 104 = .ok (.iadd, 1) := by decide +kernel
theorem dX7_putLetters_105 : decode cX7_putLetters 105 = .ok (.putfield 21, 3) := by decide +kernel
theorem dX7_putLetters_108 : decode cX7_putLetters 108 = .ok (.return_, 1) := by decide +kernel
theorem dX7_cutLetters_0 : decode cX7_cutLetters 0 = .ok (.iload_n 1, 1) := by decide +kernel
theorem dX7_cutLetters_1 : decode cX7_cutLetters 1 = .ok (.ifCond .lt 17, 3) := by decide +kernel
theorem dX7_cutLetters_4 : decode cX7_cutLetters 4 = .ok (.iload_n 2, 1) := by decide +kernel
theorem dX7_cutLetters_5 : decode cX7_cutLetters 5 = .ok (.ifCond .lt 13, 3) := by decide +kernel
theorem dX7_cutLetters_8 : decode cX7_cutLetters 8 = .ok (.iload_n 2, 1) := by decide +kernel
theorem dX7_cutLetters_9 : decode cX7_cutLetters 9 = .ok (.aload_n 0, 1) := by decide +kernel
theorem dX7_cutLetters_10 : decode cX7_cutLetters 10 = .ok (.getfield 21, 3) := by decide +kernel
theorem dX7_cutLetters_13 : decode cX7_cutLetters 13 = .ok (.iload_n 1, 1) := by decide +kernel
theorem dX7_cutLetters_14 : decode cX7_cutLetters 14 = .ok (.isub, 1) := by decide +kernel
theorem dX7_cutLetters_15 : decode cX7_cutLetters 15 = .ok (.if_icmp .le 4, 3) := by decide +kernel
theorem dX7_cutLetters_18 : decode cX7_cutLetters 18 = .ok (.return_, 1) := by decide +kernel
theorem dX7_cutLetters_19 : decode cX7_cutLetters 19 = .ok (.iload_n 1, 1) := by decide +kernel
theorem dX7_cutLetters_20 : decode cX7_cutLetters 20 = .ok (.iload_n 2, 1) := by decide +kernel
theorem dX7_cutLetters_21 : decode cX7_cutLetters 21 = .ok (.iadd, 1) := by decide +kernel
theorem dX7_cutLetters_22 : decode cX7_cutLetters 22 = .ok (.istore_n 3, 1) := by decide +kernel
theorem dX7_cutLetters_23 : decode cX7_cutLetters 23 = .ok (.iload_n 3, 1) := by decide +kernel
theorem dX7_cutLetters_24 : decode cX7_cutLetters 24 = .ok (.aload_n 0, 1) := by decide +kernel
theorem dX7_cutLetters_25 : decode cX7_cutLetters 25 = .ok (.getfield 21, 3) := by decide +kernel
theorem dX7_cutLetters_28 : decode cX7_cutLetters 28 = .ok (.if_icmp .ge 32, 3) := by decide +kernel
theorem dX7_cutLetters_31 : decode cX7_cutLetters 31 = .ok (.iload_n 3, 1) := by decide +kernel
theorem dX7_cutLetters_32 : decode cX7_cutLetters 32 = .ok (.aload_n 0, 1) := by decide +kernel
theorem dX7_cutLetters_33 : decode cX7_cutLetters 33 = .ok (.getfield 15, 3) := by decide +kernel
theorem dX7_cutLetters_36 : decode cX7_cutLetters 36 = .ok (.arraylength, 1) := by decide +kernel
theorem dX7_cutLetters_37 : decode cX7_cutLetters 37 = .ok (.if_icmp .ge 23, 3) := by decide +kernel
theorem dX7_cutLetters_40 : decode cX7_cutLetters 40 = .ok (.aload_n 0, 1) := by decide +kernel
theorem dX7_cutLetters_41 : decode cX7_cutLetters 41 = .ok (.getfield 15, 3) := by decide +kernel
theorem dX7_cutLetters_44 : decode cX7_cutLetters 44 = .ok (.iload_n 3, 1) := by decide +kernel
theorem dX7_cutLetters_45 : decode cX7_cutLetters 45 = .ok (.iload_n 2, 1) := by decide +kernel
theorem dX7_cutLetters_46 : decode cX7_cutLetters 46 = .ok (.isub, 1) := by decide +kernel
theorem dX7_cutLetters_47 : decode cX7_cutLetters 47 = .ok (.aload_n 0, 1) := by decide +kernel
theorem dX7_cutLetters_48 : decode cX7_cutLetters 48 = .ok (.getfield 15, 3) := by decide +kernel
theorem dX7_cutLetters_51 : decode cX7_cutLetters 51 = .ok (.iload_n 3, 1) := by decide +kernel
theorem dX7_cutLetters_52 : decode cX7_cutLetters 52 = .ok (.iaload, 1) := by decide +kernel
theorem dX7_cutLetters_53 : decode cX7_cutLetters 53 = .ok (.iastore, 1) := by decide +kernel
theorem dX7_cutLetters_54 : decode cX7_cutLetters 54 = .ok (.iinc 3 1, 3) := by decide +kernel
theorem dX7_cutLetters_57 : decode cX7_cutLetters 57 = .ok (.goto (-34), 3) := by decide +kernel
theorem dX7_cutLetters_60 : decode cX7_cutLetters 60 = .ok (.aload_n 0, 1) := by decide +kernel
theorem dX7_cutLetters_61 : decode cX7_cutLetters 61 = .ok (.dup, 1) := by decide +kernel
theorem dX7_cutLetters_62 : decode cX7_cutLetters 62 = .ok (.getfield 21, 3) := by decide +kernel
theorem dX7_cutLetters_65 : decode cX7_cutLetters 65 = .ok (.iload_n 2, 1) := by decide +kernel
theorem dX7_cutLetters_66 : decode cX7_cutLetters 66 = .ok (.isub, 1) := by decide +kernel
theorem dX7_cutLetters_67 : decode cX7_cutLetters 67 = .ok (.putfield 21, 3) := by decide +kernel
theorem dX7_cutLetters_70 : decode cX7_cutLetters 70 = .ok (.return_, 1) := by decide +kernel
theorem dX8_init_0 : decode cX8_init 0 = .ok (.aload_n 0, 1) := by decide +kernel
theorem dX8_init_1 : decode cX8_init 1 = .ok (.invokespecial 1, 3) := by decide +kernel
theorem dX8_init_4 : decode cX8_init 4 = .ok (.aload_n 0, 1) := by decide +kernel
theorem dX8_init_5 : decode cX8_init 5 = .ok (.new 7, 3) := by decide +kernel
theorem dX8_init_8 : decode cX8_init 8 = .ok (.dup, 1) := by decide +kernel
theorem dX8_init_9 : decode cX8_init 9 = .ok (.bipush 40, 2) := by decide +kernel
theorem dX8_init_11 : decode cX8_init 11 = .ok (.invokespecial 11, 3) := by decide +kernel
theorem dX8_init_14 : decode cX8_init 14 = .ok (.putfield 14, 3) := by decide +kernel
theorem dX8_init_17 : decode cX8_init 17 = .ok (.aload_n 0, 1) := by decide +kernel
theorem dX8_init_18 : decode cX8_init 18 = .ok (.new 18, 3) := by decide +kernel
theorem dX8_init_21 : decode cX8_init 21 = .ok (.dup, 1) := by decide +kernel
theorem dX8_init_22 : decode cX8_init 22 = .ok (.invokespecial 20, 3) := by decide +kernel
theorem dX8_init_25 : decode cX8_init 25 = .ok (.putfield 21, 3) := by decide +kernel
theorem dX8_init_28 : decode cX8_init 28 = .ok (.aload_n 0, 1) := by decide +kernel
theorem dX8_init_29 : decode cX8_init 29 = .ok (.new 25, 3) := by decide +kernel
theorem dX8_init_32 : decode cX8_init 32 = .ok (.dup, 1) := by decide +kernel
theorem dX8_init_33 : decode cX8_init 33 = .ok (.invokespecial 27, 3) := by decide +kernel
theorem dX8_init_36 : decode cX8_init 36 = .ok (.putfield 28, 3) := by decide +kernel
theorem dX8_init_39 : decode cX8_init 39 = .ok (.aload_n 0, 1) := by decide +kernel
theorem dX8_init_40 : decode cX8_init 40 = .ok (.new 32, 3) := by decide +kernel
theorem dX8_init_43 : decode cX8_init 43 = .ok (.dup, 1) := by decide +kernel
theorem dX8_init_44 : decode cX8_init 44 = .ok (.invokespecial 34, 3) := by decide +kernel
theorem dX8_init_47 : decode cX8_init 47 = .ok (.putfield 35, 3) := by decide +kernel
theorem dX8_init_50 : decode cX8_init 50 = .ok (.aload_n 0, 1) := by decide +kernel
theorem dX8_init_51 : decode cX8_init 51 = .ok (.new 32, 3) := by decide +kernel
theorem dX8_init_54 : decode cX8_init 54 = .ok (.dup, 1) := by decide +kernel
theorem dX8_init_55 : decode cX8_init 55 = .ok (.invokespecial 34, 3) := by decide +kernel
theorem dX8_init_58 : decode cX8_init 58 = .ok (.putfield 39, 3) := by decide +kernel
theorem dX8_init_61 : decode cX8_init 61 = .ok (.aload_n 0, 1) := by decide +kernel
theorem dX8_init_62 : decode cX8_init 62 = .ok (.new 42, 3) := by decide +kernel
theorem dX8_init_65 : decode cX8_init 65 = .ok (.dup, 1) := by decide +kernel
theorem dX8_init_66 : decode cX8_init 66 = .ok (.invokespecial 44, 3) := by decide +kernel
theorem dX8_init_69 : decode cX8_init 69 = .ok (.putfield 45, 3) := by decide +kernel
theorem dX8_init_72 : decode cX8_init 72 = .ok (.aload_n 0, 1) := by decide +kernel
theorem dX8_init_73 : decode cX8_init 73 = .ok (.new 49, 3) := by decide +kernel
theorem dX8_init_76 : decode cX8_init 76 = .ok (.dup, 1) := by decide +kernel
theorem dX8_init_77 : decode cX8_init 77 = .ok (.invokespecial 51, 3) := by decide +kernel
theorem dX8_init_80 : decode cX8_init 80 = .ok (.putfield 52, 3) := by decide +kernel
theorem dX8_init_83 : decode cX8_init 83 = .ok (.aload_n 0, 1) := by decide +kernel
theorem dX8_init_84 : decode cX8_init 84 = .ok (.bipush 60, 2) := by decide +kernel
theorem dX8_init_86 : decode cX8_init 86 = .ok (.putfield 56, 3) := by decide +kernel
theorem dX8_init_89 : decode cX8_init 89 = .ok (.return_, 1) := by decide +kernel
theorem dX8_type_0 : decode cX8_type 0 = .ok (.iload_n 1, 1) := by decide +kernel
theorem dX8_type_1 : decode cX8_type 1 = .ok (.bipush 32, 2) := by decide +kernel
theorem dX8_type_3 : decode cX8_type 3 = .ok (.if_icmp .lt 9, 3) := by decide +kernel
theorem dX8_type_6 : decode cX8_type 6 = .ok (.iload_n 1, 1) := by decide +kernel
theorem dX8_type_7 : decode cX8_type 7 = .ok (.bipush 126, 2) := by decide +kernel
theorem dX8_type_9 : decode cX8_type 9 = .ok (.if_icmp .le 7, 3) := by decide +kernel
theorem dX8_type_12 : decode cX8_type 12 = .ok (.sipush (-1002), 3) := by decide +kernel
theorem dX8_type_15 : decode cX8_type 15 = .ok (.ireturn, 1) := by decide +kernel
theorem dX8_type_16 : decode cX8_type 16 = .ok (.aload_n 0, 1) := by decide +kernel
theorem dX8_type_17 : decode cX8_type 17 = .ok (.getfield 14, 3) := by decide +kernel
theorem dX8_type_20 : decode cX8_type 20 = .ok (.getfield 60, 3) := by decide +kernel
theorem dX8_type_23 : decode cX8_type 23 = .ok (.bipush 40, 2) := by decide +kernel
theorem dX8_type_25 : decode cX8_type 25 = .ok (.if_icmp .lt 7, 3) := by decide +kernel
theorem dX8_type_28 : decode cX8_type 28 = .ok (.sipush (-1004), 3) := by decide +kernel
theorem dX8_type_31 : decode cX8_type 31 = .ok (.ireturn, 1) := by decide +kernel
theorem dX8_type_32 : decode cX8_type 32 = .ok (.aload_n 0, 1) := by decide +kernel
theorem dX8_type_33 : decode cX8_type 33 = .ok (.getfield 14, 3) := by decide +kernel
theorem dX8_type_36 : decode cX8_type 36 = .ok (.iload_n 1, 1) := by decide +kernel
theorem dX8_type_37 : decode cX8_type 37 = .ok (.invokevirtual 63, 3) := by decide +kernel
theorem dX8_type_40 : decode cX8_type 40 = .ok (.aload_n 0, 1) := by decide +kernel
theorem dX8_type_41 : decode cX8_type 41 = .ok (.getfield 14, 3) := by decide +kernel
theorem dX8_type_44 : decode cX8_type 44 = .ok (.getfield 60, 3) := by decide +kernel
theorem dX8_type_47 : decode cX8_type 47 = .ok (.ireturn, 1) := by decide +kernel
theorem dX8_clearBuffer_0 : decode cX8_clearBuffer 0 = .ok (.aload_n 0, 1) := by decide +kernel
theorem dX8_clearBuffer_1 : decode cX8_clearBuffer 1 = .ok (.getfield 14, 3) := by decide +kernel
theorem dX8_clearBuffer_4 : decode cX8_clearBuffer 4 = .ok (.getfield 60, 3) := by decide +kernel
theorem dX8_clearBuffer_7 : decode cX8_clearBuffer 7 = .ok (.istore_n 1, 1) := by decide +kernel
theorem dX8_clearBuffer_8 : decode cX8_clearBuffer 8 = .ok (.aload_n 0, 1) := by decide +kernel
theorem dX8_clearBuffer_9 : decode cX8_clearBuffer 9 = .ok (.getfield 14, 3) := by decide +kernel
theorem dX8_clearBuffer_12 : decode cX8_clearBuffer 12 = .ok (.invokevirtual 66, 3) := by decide +kernel
theorem dX8_clearBuffer_15 : decode cX8_clearBuffer 15 = .ok (.iload_n 1, 1) := by decide +kernel
theorem dX8_clearBuffer_16 : decode cX8_clearBuffer 16 = .ok (.ireturn, 1) := by decide +kernel
theorem dX8_load_0 : decode cX8_load 0 = .ok (.aload_n 0, 1) := by decide +kernel
theorem dX8_load_1 : decode cX8_load 1 = .ok (.getfield 28, 3) := by decide +kernel
theorem dX8_load_4 : decode cX8_load 4 = .ok (.aload_n 0, 1) := by decide +kernel
theorem dX8_load_5 : decode cX8_load 5 = .ok (.getfield 21, 3) := by decide +kernel
theorem dX8_load_8 : decode cX8_load 8 = .ok (.invokevirtual 69, 3) := by decide +kernel
theorem dX8_load_11 : decode cX8_load 11 = .ok (.aload_n 0, 1) := by decide +kernel
theorem dX8_load_12 : decode cX8_load 12 = .ok (.getfield 21, 3) := by decide +kernel
theorem dX8_load_15 : decode cX8_load 15 = .ok (.getfield 73, 3) := by decide +kernel
theorem dX8_load_18 : decode cX8_load 18 = .ok (.getfield 60, 3) := by decide +kernel
theorem dX8_load_21 : decode cX8_load 21 = .ok (.istore_n 1, 1) := by decide +kernel
theorem dX8_load_22 : decode cX8_load 22 = .ok (.aload_n 0, 1) := by decide +kernel
theorem dX8_load_23 : decode cX8_load 23 = .ok (.getfield 21, 3) := by decide +kernel
theorem dX8_load_26 : decode cX8_load 26 = .ok (.aload_n 0, 1) := by decide +kernel
theorem dX8_load_27 : decode cX8_load 27 = .ok (.getfield 14, 3) := by decide +kernel
theorem dX8_load_30 : decode cX8_load 30 = .ok (.invokevirtual 76, 3) := by decide +kernel
theorem dX8_load_33 : decode cX8_load 33 = .ok (.iload_n 1, 1) := by decide +kernel
theorem dX8_load_34 : decode cX8_load 34 = .ok (.ireturn, 1) := by decide +kernel
theorem dX8_insert_0 : decode cX8_insert 0 = .ok (.aload_n 0, 1) := by decide +kernel
theorem dX8_insert_1 : decode cX8_insert 1 = .ok (.iload_n 1, 1) := by decide +kernel
theorem dX8_insert_2 : decode cX8_insert 2 = .ok (.invokevirtual 80, 3) := by decide +kernel
theorem dX8_insert_5 : decode cX8_insert 5 = .ok (.ifCond .ne 7, 3) := by decide +kernel
theorem dX8_insert_8 : decode cX8_insert 8 = .ok (.sipush (-1001), 3) := by decide +kernel
theorem dX8_insert_11 : decode cX8_insert 11 = .ok (.ireturn, 1) := by decide +kernel
theorem dX8_insert_12 : decode cX8_insert 12 = .ok (.aload_n 0, 1) := by decide +kernel
theorem dX8_insert_13 : decode cX8_insert 13 = .ok (.getfield 21, 3) := by decide +kernel
theorem dX8_insert_16 : decode cX8_insert 16 = .ok (.getfield 73, 3) := by decide +kernel
theorem dX8_insert_19 : decode cX8_insert 19 = .ok (.getfield 60, 3) := by decide +kernel
theorem dX8_insert_22 : decode cX8_insert 22 = .ok (.aload_n 0, 1) := by decide +kernel
theorem dX8_insert_23 : decode cX8_insert 23 = .ok (.getfield 14, 3) := by decide +kernel
theorem dX8_insert_26 : decode cX8_insert 26 = .ok (.getfield 60, 3) := by decide +kernel
theorem dX8_insert_29 : decode cX8_insert 29 = .ok (.iadd, 1) := by decide +kernel
theorem dX8_insert_30 : decode cX8_insert 30 = .ok (.bipush 120, 2) := by decide +kernel
theorem dX8_insert_32 : decode cX8_insert 32 = .ok (.if_icmp .le 7, 3) := by decide +kernel
theorem dX8_insert_35 : decode cX8_insert 35 = .ok (.sipush (-1004), 3) := by decide +kernel
theorem dX8_insert_38 : decode cX8_insert 38 = .ok (.ireturn, 1) := by decide +kernel
theorem dX8_insert_39 : decode cX8_insert 39 = .ok (.aload_n 0, 1) := by decide +kernel
theorem dX8_insert_40 : decode cX8_insert 40 = .ok (.getfield 28, 3) := by decide +kernel
theorem dX8_insert_43 : decode cX8_insert 43 = .ok (.aload_n 0, 1) := by decide +kernel
theorem dX8_insert_44 : decode cX8_insert 44 = .ok (.getfield 21, 3) := by decide +kernel
theorem dX8_insert_47 : decode cX8_insert 47 = .ok (.invokevirtual 69, 3) := by decide +kernel
theorem dX8_insert_50 : decode cX8_insert 50 = .ok (.aload_n 0, 1) := by decide +kernel
theorem dX8_insert_51 : decode cX8_insert 51 = .ok (.getfield 21, 3) := by decide +kernel
theorem dX8_insert_54 : decode cX8_insert 54 = .ok (.iload_n 1, 1) := by decide +kernel
theorem dX8_insert_55 : decode cX8_insert 55 = .ok (.aload_n 0, 1) := by decide +kernel
theorem dX8_insert_56 : decode cX8_insert 56 = .ok (.getfield 14, 3) := by decide +kernel
theorem dX8_insert_59 : decode cX8_insert 59 = .ok (.invokevirtual 84, 3) := by decide +kernel
theorem dX8_insert_62 : decode cX8_insert 62 = .ok (.aload_n 0, 1) := by decide +kernel
theorem dX8_insert_63 : decode cX8_insert 63 = .ok (.getfield 21, 3) := by decide +kernel
theorem dX8_insert_66 : decode cX8_insert 66 = .ok (.getfield 73, 3) := by decide +kernel
theorem dX8_insert_69 : decode cX8_insert 69 = .ok (.getfield 60, 3) := by decide +kernel
theorem dX8_insert_72 : decode cX8_insert 72 = .ok (.ireturn, 1) := by decide +kernel
theorem dX8_delete_0 : decode cX8_delete 0 = .ok (.aload_n 0, 1) := by decide +kernel
theorem dX8_delete_1 : decode cX8_delete 1 = .ok (.iload_n 1, 1) := by decide +kernel
theorem dX8_delete_2 : decode cX8_delete 2 = .ok (.invokevirtual 80, 3) := by decide +kernel
theorem dX8_delete_5 : decode cX8_delete 5 = .ok (.ifCond .ne 7, 3) := by decide +kernel
theorem dX8_delete_8 : decode cX8_delete 8 = .ok (.sipush (-1001), 3) := by decide +kernel
theorem dX8_delete_11 : decode cX8_delete 11 = .ok (.ireturn, 1) := by decide +kernel
theorem dX8_delete_12 : decode cX8_delete 12 = .ok (.iload_n 2, 1) := by decide +kernel
theorem dX8_delete_13 : decode cX8_delete 13 = .ok (.ifCond .lt 19, 3) := by decide +kernel
theorem dX8_delete_16 : decode cX8_delete 16 = .ok (.iload_n 2, 1) := by decide +kernel
theorem dX8_delete_17 : decode cX8_delete 17 = .ok (.aload_n 0, 1) := by decide +kernel
theorem dX8_delete_18 : decode cX8_delete 18 = .ok (.getfield 21, 3) := by decide +kernel
theorem dX8_delete_21 : decode cX8_delete 21 = .ok (.getfield 73, 3) := by decide +kernel
theorem dX8_delete_24 : decode cX8_delete 24 = .ok (.getfield 60, 3) := by decide +kernel
theorem dX8_delete_27 : decode cX8_delete 27 = .ok (.iload_n 1, 1) := by decide +kernel
theorem dX8_delete_28 : decode cX8_delete 28 = .ok (.isub, 1) := by decide +kernel
theorem dX8_delete_29 : decode cX8_delete 29 = .ok (.if_icmp .le 7, 3) := by decide +kernel
theorem dX8_delete_32 : decode cX8_delete 32 = .ok (.sipush (-1002), 3) := by decide +kernel
theorem dX8_delete_35 : decode cX8_delete 35 = .ok (.ireturn, 1) := by decide +kernel
theorem dX8_delete_36 : decode cX8_delete 36 = .ok (.aload_n 0, 1) := by decide +kernel
theorem dX8_delete_37 : decode cX8_delete 37 = .ok (.getfield 28, 3) := by decide +kernel
theorem dX8_delete_40 : decode cX8_delete 40 = .ok (.aload_n 0, 1) := by decide +kernel
theorem dX8_delete_41 : decode cX8_delete 41 = .ok (.getfield 21, 3) := by decide +kernel
theorem dX8_delete_44 : decode cX8_delete 44 = .ok (.invokevirtual 69, 3) := by decide +kernel
theorem dX8_delete_47 : decode cX8_delete 47 = .ok (.aload_n 0, 1) := by decide +kernel
theorem dX8_delete_48 : decode cX8_delete 48 = .ok (.getfield 21, 3) := by decide +kernel
theorem dX8_delete_51 : decode cX8_delete 51 = .ok (.iload_n 1, 1) := by decide +kernel
theorem dX8_delete_52 : decode cX8_delete 52 = .ok (.iload_n 2, 1) := by decide +kernel
theorem dX8_delete_53 : decode cX8_delete 53 = .ok (.invokevirtual 88, 3) := by decide +kernel
theorem dX8_delete_56 : decode cX8_delete 56 = .ok (.ireturn, 1) := by decide +kernel
theorem dX8_comment_0 : decode cX8_comment 0 = .ok (.aload_n 0, 1) := by decide +kernel
theorem dX8_comment_1 : decode cX8_comment 1 = .ok (.iload_n 1, 1) := by decide +kernel
theorem dX8_comment_2 : decode cX8_comment 2 = .ok (.invokevirtual 80, 3) := by decide +kernel
theorem dX8_comment_5 : decode cX8_comment 5 = .ok (.ifCond .ne 7, 3) := by decide +kernel
theorem dX8_comment_8 : decode cX8_comment 8 = .ok (.sipush (-1001), 3) := by decide +kernel
theorem dX8_comment_11 : decode cX8_comment 11 = .ok (.ireturn, 1) := by decide +kernel
theorem dX8_comment_12 : decode cX8_comment 12 = .ok (.aload_n 0, 1) := by decide +kernel
theorem dX8_comment_13 : decode cX8_comment 13 = .ok (.iload_n 1, 1) := by decide +kernel
theorem dX8_comment_14 : decode cX8_comment 14 = .ok (.iload_n 2, 1) := by decide +kernel
theorem dX8_comment_15 : decode cX8_comment 15 = .ok (.bipush 16, 2) := by decide +kernel
theorem dX8_comment_17 : decode cX8_comment 17 = .ok (.invokevirtual 92, 3) := by decide +kernel
theorem dX8_comment_20 : decode cX8_comment 20 = .ok (.ifCond .ne 7, 3) := by decide +kernel
theorem dX8_comment_23 : decode cX8_comment 23 = .ok (.sipush (-1002), 3) := by decide +kernel
theorem dX8_comment_26 : decode cX8_comment 26 = .ok (.ireturn, 1) := by decide +kernel
theorem dX8_comment_27 : decode cX8_comment 27 = .ok (.aload_n 0, 1) := by decide +kernel
theorem dX8_comment_28 : decode cX8_comment 28 = .ok (.getfield 21, 3) := by decide +kernel
theorem dX8_comment_31 : decode cX8_comment 31 = .ok (.getfield 96, 3) := by decide +kernel
theorem dX8_comment_34 : decode cX8_comment 34 = .ok (.bipush 10, 2) := by decide +kernel
theorem dX8_comment_36 : decode cX8_comment 36 = .ok (.if_icmp .lt 7, 3) := by decide +kernel
theorem dX8_comment_39 : decode cX8_comment 39 = .ok (.sipush (-1004), 3) := by decide +kernel
theorem dX8_comment_42 : decode cX8_comment 42 = .ok (.ireturn, 1) := by decide +kernel
theorem dX8_comment_43 : decode cX8_comment 43 = .ok (.aload_n 0, 1) := by decide +kernel
theorem dX8_comment_44 : decode cX8_comment 44 = .ok (.getfield 28, 3) := by decide +kernel
theorem dX8_comment_47 : decode cX8_comment 47 = .ok (.aload_n 0, 1) := by decide +kernel
theorem dX8_comment_48 : decode cX8_comment 48 = .ok (.getfield 21, 3) := by decide +kernel
theorem dX8_comment_51 : decode cX8_comment 51 = .ok (.invokevirtual 69, 3) := by decide +kernel
theorem dX8_comment_54 : decode cX8_comment 54 = .ok (.aload_n 0, 1) := by decide +kernel
theorem dX8_comment_55 : decode cX8_comment 55 = .ok (.getfield 21, 3) := by decide +kernel
theorem dX8_comment_58 : decode cX8_comment 58 = .ok (.iload_n 1, 1) := by decide +kernel
theorem dX8_comment_59 : decode cX8_comment 59 = .ok (.iload_n 2, 1) := by decide +kernel
theorem dX8_comment_60 : decode cX8_comment 60 = .ok (.invokevirtual 99, 3) := by decide +kernel
theorem dX8_comment_63 : decode cX8_comment 63 = .ok (.ireturn, 1) := by decide +kernel
theorem dX8_remove_0 : decode cX8_remove 0 = .ok (.aload_n 0, 1) := by decide +kernel
theorem dX8_remove_1 : decode cX8_remove 1 = .ok (.getfield 21, 3) := by decide +kernel
theorem dX8_remove_4 : decode cX8_remove 4 = .ok (.iload_n 1, 1) := by decide +kernel
theorem dX8_remove_5 : decode cX8_remove 5 = .ok (.invokevirtual 102, 3) := by decide +kernel
theorem dX8_remove_8 : decode cX8_remove 8 = .ok (.istore_n 2, 1) := by decide +kernel
theorem dX8_remove_9 : decode cX8_remove 9 = .ok (.iload_n 2, 1) := by decide +kernel
theorem dX8_remove_10 : decode cX8_remove 10 = .ok (.ifCond .ge 7, 3) := by decide +kernel
theorem dX8_remove_13 : decode cX8_remove 13 = .ok (.sipush (-1001), 3) := by decide +kernel
theorem dX8_remove_16 : decode cX8_remove 16 = .ok (.ireturn, 1) := by decide +kernel
theorem dX8_remove_17 : decode cX8_remove 17 = .ok (.aload_n 0, 1) := by decide +kernel
theorem dX8_remove_18 : decode cX8_remove 18 = .ok (.getfield 28, 3) := by decide +kernel
theorem dX8_remove_21 : decode cX8_remove 21 = .ok (.aload_n 0, 1) := by decide +kernel
theorem dX8_remove_22 : decode cX8_remove 22 = .ok (.getfield 21, 3) := by decide +kernel
theorem dX8_remove_25 : decode cX8_remove 25 = .ok (.invokevirtual 69, 3) := by decide +kernel
theorem dX8_remove_28 : decode cX8_remove 28 = .ok (.aload_n 0, 1) := by decide +kernel
theorem dX8_remove_29 : decode cX8_remove 29 = .ok (.getfield 21, 3) := by decide +kernel
theorem dX8_remove_32 : decode cX8_remove 32 = .ok (.iload_n 2, 1) := by decide +kernel
theorem dX8_remove_33 : decode cX8_remove 33 = .ok (.invokevirtual 106, 3) := by decide +kernel
theorem dX8_remove_36 : decode cX8_remove 36 = .ok (.aload_n 0, 1) := by decide +kernel
theorem dX8_remove_37 : decode cX8_remove 37 = .ok (.getfield 21, 3) := by decide +kernel
theorem dX8_remove_40 : decode cX8_remove 40 = .ok (.getfield 96, 3) := by decide +kernel
theorem dX8_remove_43 : decode cX8_remove 43 = .ok (.ireturn, 1) := by decide +kernel
theorem dX8_quoteAnew_0 : decode cX8_quoteAnew 0 = .ok (.aload_n 0, 1) := by decide +kernel
theorem dX8_quoteAnew_1 : decode cX8_quoteAnew 1 = .ok (.getfield 21, 3) := by decide +kernel
theorem dX8_quoteAnew_4 : decode cX8_quoteAnew 4 = .ok (.iload_n 1, 1) := by decide +kernel
theorem dX8_quoteAnew_5 : decode cX8_quoteAnew 5 = .ok (.invokevirtual 109, 3) := by decide +kernel
theorem dX8_quoteAnew_8 : decode cX8_quoteAnew 8 = .ok (.astore_n 2, 1) := by decide +kernel
theorem dX8_quoteAnew_9 : decode cX8_quoteAnew 9 = .ok (.aload_n 2, 1) := by decide +kernel
theorem dX8_quoteAnew_10 : decode cX8_quoteAnew 10 = .ok (.ifnonnull 7, 3) := by decide +kernel
theorem dX8_quoteAnew_13 : decode cX8_quoteAnew 13 = .ok (.sipush (-1001), 3) := by decide +kernel
theorem dX8_quoteAnew_16 : decode cX8_quoteAnew 16 = .ok (.ireturn, 1) := by decide +kernel
theorem dX8_quoteAnew_17 : decode cX8_quoteAnew 17 = .ok (.aload_n 2, 1) := by decide +kernel
theorem dX8_quoteAnew_18 : decode cX8_quoteAnew 18 = .ok (.getfield 113, 3) := by decide +kernel
theorem dX8_quoteAnew_21 : decode cX8_quoteAnew 21 = .ok (.ifCond .eq 17, 3) := by decide +kernel
theorem dX8_quoteAnew_24 : decode cX8_quoteAnew 24 = .ok (.aload_n 2, 1) := by decide +kernel
theorem dX8_quoteAnew_25 : decode cX8_quoteAnew 25 = .ok (.getfield 118, 3) := by decide +kernel
theorem dX8_quoteAnew_28 : decode cX8_quoteAnew 28 = .ok (.aload_n 2, 1) := by decide +kernel
theorem dX8_quoteAnew_29 : decode cX8_quoteAnew 29 = .ok (.getfield 121, 3) := by decide +kernel
theorem dX8_quoteAnew_32 : decode cX8_quoteAnew 32 = .ok (.isub, 1) := by decide +kernel
theorem dX8_quoteAnew_33 : decode cX8_quoteAnew 33 = .ok (.bipush 16, 2) := by decide +kernel
theorem dX8_quoteAnew_35 : decode cX8_quoteAnew 35 = .ok (.if_icmp .le 7, 3) := by decide +kernel
theorem dX8_quoteAnew_38 : decode cX8_quoteAnew 38 = .ok (.sipush (-1003), 3) := by decide +kernel
theorem dX8_quoteAnew_41 : decode cX8_quoteAnew 41 = .ok (.ireturn, 1) := by decide +kernel
theorem dX8_quoteAnew_42 : decode cX8_quoteAnew 42 = .ok (.aload_n 0, 1) := by decide +kernel
theorem dX8_quoteAnew_43 : decode cX8_quoteAnew 43 = .ok (.getfield 28, 3) := by decide +kernel
theorem dX8_quoteAnew_46 : decode cX8_quoteAnew 46 = .ok (.aload_n 0, 1) := by decide +kernel
theorem dX8_quoteAnew_47 : decode cX8_quoteAnew 47 = .ok (.getfield 21, 3) := by decide +kernel
theorem dX8_quoteAnew_50 : decode cX8_quoteAnew 50 = .ok (.invokevirtual 69, 3) := by decide +kernel
theorem dX8_quoteAnew_53 : decode cX8_quoteAnew 53 = .ok (.aload_n 2, 1) := by decide +kernel
theorem dX8_quoteAnew_54 : decode cX8_quoteAnew 54 = .ok (.aload_n 0, 1) := by decide +kernel
theorem dX8_quoteAnew_55 : decode cX8_quoteAnew 55 = .ok (.getfield 21, 3) := by decide +kernel
theorem dX8_quoteAnew_58 : decode cX8_quoteAnew 58 = .ok (.getfield 73, 3) := by decide +kernel
theorem dX8_quoteAnew_61 : decode cX8_quoteAnew 61 = .ok (.invokevirtual 124, 3) := by decide +kernel
theorem dX8_quoteAnew_64 : decode cX8_quoteAnew 64 = .ok (.aload_n 2, 1) := by decide +kernel
theorem dX8_quoteAnew_65 : decode cX8_quoteAnew 65 = .ok (.getfield 127, 3) := by decide +kernel
theorem dX8_quoteAnew_68 : decode cX8_quoteAnew 68 = .ok (.getfield 60, 3) := by decide +kernel
theorem dX8_quoteAnew_71 : decode cX8_quoteAnew 71 = .ok (.ireturn, 1) := by decide +kernel
theorem dX8_attach_0 : decode cX8_attach 0 = .ok (.aload_n 0, 1) := by decide +kernel
theorem dX8_attach_1 : decode cX8_attach 1 = .ok (.getfield 21, 3) := by decide +kernel
theorem dX8_attach_4 : decode cX8_attach 4 = .ok (.iload_n 1, 1) := by decide +kernel
theorem dX8_attach_5 : decode cX8_attach 5 = .ok (.invokevirtual 109, 3) := by decide +kernel
theorem dX8_attach_8 : decode cX8_attach 8 = .ok (.astore_n 2, 1) := by decide +kernel
theorem dX8_attach_9 : decode cX8_attach 9 = .ok (.aload_n 2, 1) := by decide +kernel
theorem dX8_attach_10 : decode cX8_attach 10 = .ok (.ifnonnull 7, 3) := by decide +kernel
theorem dX8_attach_13 : decode cX8_attach 13 = .ok (.sipush (-1001), 3) := by decide +kernel
theorem dX8_attach_16 : decode cX8_attach 16 = .ok (.ireturn, 1) := by decide +kernel
theorem dX8_attach_17 : decode cX8_attach 17 = .ok (.aload_n 2, 1) := by decide +kernel
theorem dX8_attach_18 : decode cX8_attach 18 = .ok (.getfield 113, 3) := by decide +kernel
theorem dX8_attach_21 : decode cX8_attach 21 = .ok (.iconst 1, 1) := by decide +kernel
theorem dX8_attach_22 : decode cX8_attach 22 = .ok (.if_icmp .ne 7, 3) := by decide +kernel
theorem dX8_attach_25 : decode cX8_attach 25 = .ok (.sipush (-1003), 3) := by decide +kernel
theorem dX8_attach_28 : decode cX8_attach 28 = .ok (.ireturn, 1) := by decide +kernel
theorem dX8_attach_29 : decode cX8_attach 29 = .ok (.aload_n 0, 1) := by decide +kernel
theorem dX8_attach_30 : decode cX8_attach 30 = .ok (.getfield 45, 3) := by decide +kernel
theorem dX8_attach_33 : decode cX8_attach 33 = .ok (.aload_n 2, 1) := by decide +kernel
theorem dX8_attach_34 : decode cX8_attach 34 = .ok (.aload_n 0, 1) := by decide +kernel
theorem dX8_attach_35 : decode cX8_attach 35 = .ok (.getfield 21, 3) := by decide +kernel
theorem dX8_attach_38 : decode cX8_attach 38 = .ok (.getfield 73, 3) := by decide +kernel
theorem dX8_attach_41 : decode cX8_attach 41 = .ok (.invokevirtual 130, 3) := by decide +kernel
theorem dX8_attach_44 : decode cX8_attach 44 = .ok (.aload_n 0, 1) := by decide +kernel
theorem dX8_attach_45 : decode cX8_attach 45 = .ok (.getfield 45, 3) := by decide +kernel
theorem dX8_attach_48 : decode cX8_attach 48 = .ok (.getfield 134, 3) := by decide +kernel
theorem dX8_attach_51 : decode cX8_attach 51 = .ok (.aload_n 0, 1) := by decide +kernel
theorem dX8_attach_52 : decode cX8_attach 52 = .ok (.getfield 56, 3) := by decide +kernel
theorem dX8_attach_55 : decode cX8_attach 55 = .ok (.if_icmp .ge 7, 3) := by decide +kernel
theorem dX8_attach_58 : decode cX8_attach 58 = .ok (.sipush (-1005), 3) := by decide +kernel
theorem dX8_attach_61 : decode cX8_attach 61 = .ok (.ireturn, 1) := by decide +kernel
theorem dX8_attach_62 : decode cX8_attach 62 = .ok (.aload_n 0, 1) := by decide +kernel
theorem dX8_attach_63 : decode cX8_attach 63 = .ok (.getfield 28, 3) := by decide +kernel
theorem dX8_attach_66 : decode cX8_attach 66 = .ok (.aload_n 0, 1) := by decide +kernel
theorem dX8_attach_67 : decode cX8_attach 67 = .ok (.getfield 21, 3) := by decide +kernel
theorem dX8_attach_70 : decode cX8_attach 70 = .ok (.invokevirtual 69, 3) := by decide +kernel
theorem dX8_attach_73 : decode cX8_attach 73 = .ok (.aload_n 2, 1) := by decide +kernel
theorem dX8_attach_74 : decode cX8_attach 74 = .ok (.aload_n 0, 1) := by decide +kernel
theorem dX8_attach_75 : decode cX8_attach 75 = .ok (.getfield 45, 3) := by decide +kernel
theorem dX8_attach_78 : decode cX8_attach 78 = .ok (.getfield 137, 3) := by decide +kernel
theorem dX8_attach_81 : decode cX8_attach 81 = .ok (.aload_n 0, 1) := by decide +kernel
theorem dX8_attach_82 : decode cX8_attach 82 = .ok (.getfield 45, 3) := by decide +kernel
theorem dX8_attach_85 : decode cX8_attach 85 = .ok (.getfield 140, 3) := by decide +kernel
theorem dX8_attach_88 : decode cX8_attach 88 = .ok (.invokevirtual 143, 3) := by decide +kernel
theorem dX8_attach_91 : decode cX8_attach 91 = .ok (.aload_n 2, 1) := by decide +kernel
theorem dX8_attach_92 : decode cX8_attach 92 = .ok (.getfield 121, 3) := by decide +kernel
theorem dX8_attach_95 : decode cX8_attach 95 = .ok (.ireturn, 1) := by decide +kernel
theorem dX8_attachAll_0 : decode cX8_attachAll 0 = .ok (.aload_n 0, 1) := by decide +kernel
theorem dX8_attachAll_1 : decode cX8_attachAll 1 = .ok (.getfield 52, 3) := by decide +kernel
theorem dX8_attachAll_4 : decode cX8_attachAll 4 = .ok (.aload_n 0, 1) := by decide +kernel
theorem dX8_attachAll_5 : decode cX8_attachAll 5 = .ok (.getfield 21, 3) := by decide +kernel
theorem dX8_attachAll_8 : decode cX8_attachAll 8 = .ok (.invokevirtual 147, 3) := by decide +kernel
theorem dX8_attachAll_11 : decode cX8_attachAll 11 = .ok (.ifCond .ne 7, 3) := by decide +kernel
theorem dX8_attachAll_14 : decode cX8_attachAll 14 = .ok (.sipush (-1005), 3) := by decide +kernel
theorem dX8_attachAll_17 : decode cX8_attachAll 17 = .ok (.ireturn, 1) := by decide +kernel
theorem dX8_attachAll_18 : decode cX8_attachAll 18 = .ok (.aload_n 0, 1) := by decide +kernel
theorem dX8_attachAll_19 : decode cX8_attachAll 19 = .ok (.getfield 28, 3) := by decide +kernel
theorem dX8_attachAll_22 : decode cX8_attachAll 22 = .ok (.aload_n 0, 1) := by decide +kernel
theorem dX8_attachAll_23 : decode cX8_attachAll 23 = .ok (.getfield 21, 3) := by decide +kernel
theorem dX8_attachAll_26 : decode cX8_attachAll 26 = .ok (.invokevirtual 69, 3) := by decide +kernel
theorem dX8_attachAll_29 : decode cX8_attachAll 29 = .ok (.aload_n 0, 1) := by decide +kernel
theorem dX8_attachAll_30 : decode cX8_attachAll 30 = .ok (.getfield 52, 3) := by decide +kernel
theorem dX8_attachAll_33 : decode cX8_attachAll 33 = .ok (.aload_n 0, 1) := by decide +kernel
theorem dX8_attachAll_34 : decode cX8_attachAll 34 = .ok (.getfield 21, 3) := by decide +kernel
theorem dX8_attachAll_37 : decode cX8_attachAll 37 = .ok (.getfield 73, 3) := by decide +kernel
theorem dX8_attachAll_40 : decode cX8_attachAll 40 = .ok (.aload_n 0, 1) := by decide +kernel
theorem dX8_attachAll_41 : decode cX8_attachAll 41 = .ok (.getfield 56, 3) := by decide +kernel
theorem dX8_attachAll_44 : decode cX8_attachAll 44 = .ok (.aload_n 0, 1) := by decide +kernel
theorem dX8_attachAll_45 : decode cX8_attachAll 45 = .ok (.getfield 45, 3) := by decide +kernel
theorem dX8_attachAll_48 : decode cX8_attachAll 48 = .ok (.invokevirtual 151, 3) := by decide +kernel
theorem dX8_attachAll_51 : decode cX8_attachAll 51 = .ok (.aload_n 0, 1) := by decide +kernel
theorem dX8_attachAll_52 : decode cX8_attachAll 52 = .ok (.getfield 52, 3) := by decide +kernel
theorem dX8_attachAll_55 : decode cX8_attachAll 55 = .ok (.invokevirtual 155, 3) := by decide +kernel
theorem dX8_attachAll_58 : decode cX8_attachAll 58 = .ok (.ireturn, 1) := by decide +kernel
theorem dX8_merge_0 : decode cX8_merge 0 = .ok (.aload_n 0, 1) := by decide +kernel
theorem dX8_merge_1 : decode cX8_merge 1 = .ok (.getfield 21, 3) := by decide +kernel
theorem dX8_merge_4 : decode cX8_merge 4 = .ok (.invokevirtual 159, 3) := by decide +kernel
theorem dX8_merge_7 : decode cX8_merge 7 = .ok (.ifCond .ne 7, 3) := by decide +kernel
theorem dX8_merge_10 : decode cX8_merge 10 = .ok (.sipush (-1005), 3) := by decide +kernel
theorem dX8_merge_13 : decode cX8_merge 13 = .ok (.ireturn, 1) := by decide +kernel
theorem dX8_merge_14 : decode cX8_merge 14 = .ok (.aload_n 0, 1) := by decide +kernel
theorem dX8_merge_15 : decode cX8_merge 15 = .ok (.getfield 28, 3) := by decide +kernel
theorem dX8_merge_18 : decode cX8_merge 18 = .ok (.aload_n 0, 1) := by decide +kernel
theorem dX8_merge_19 : decode cX8_merge 19 = .ok (.getfield 21, 3) := by decide +kernel
theorem dX8_merge_22 : decode cX8_merge 22 = .ok (.invokevirtual 69, 3) := by decide +kernel
theorem dX8_merge_25 : decode cX8_merge 25 = .ok (.aload_n 0, 1) := by decide +kernel
theorem dX8_merge_26 : decode cX8_merge 26 = .ok (.getfield 21, 3) := by decide +kernel
theorem dX8_merge_29 : decode cX8_merge 29 = .ok (.invokevirtual 163, 3) := by decide +kernel
theorem dX8_merge_32 : decode cX8_merge 32 = .ok (.ireturn, 1) := by decide +kernel
theorem dX8_undo_0 : decode cX8_undo 0 = .ok (.aload_n 0, 1) := by decide +kernel
theorem dX8_undo_1 : decode cX8_undo 1 = .ok (.getfield 28, 3) := by decide +kernel
theorem dX8_undo_4 : decode cX8_undo 4 = .ok (.getfield 166, 3) := by decide +kernel
theorem dX8_undo_7 : decode cX8_undo 7 = .ok (.ifCond .ne 7, 3) := by decide +kernel
theorem dX8_undo_10 : decode cX8_undo 10 = .ok (.sipush (-1003), 3) := by decide +kernel
theorem dX8_undo_13 : decode cX8_undo 13 = .ok (.ireturn, 1) := by decide +kernel
theorem dX8_undo_14 : decode cX8_undo 14 = .ok (.aload_n 0, 1) := by decide +kernel
theorem dX8_undo_15 : decode cX8_undo 15 = .ok (.getfield 28, 3) := by decide +kernel
theorem dX8_undo_18 : decode cX8_undo 18 = .ok (.aload_n 0, 1) := by decide +kernel
theorem dX8_undo_19 : decode cX8_undo 19 = .ok (.getfield 21, 3) := by decide +kernel
theorem dX8_undo_22 : decode cX8_undo 22 = .ok (.invokevirtual 167, 3) := by decide +kernel
theorem dX8_undo_25 : decode cX8_undo 25 = .ok (.aload_n 0, 1) := by decide +kernel
theorem dX8_undo_26 : decode cX8_undo 26 = .ok (.getfield 28, 3) := by decide +kernel
theorem dX8_undo_29 : decode cX8_undo 29 = .ok (.getfield 166, 3) := by decide +kernel
theorem dX8_undo_32 : decode cX8_undo 32 = .ok (.ireturn, 1) := by decide +kernel
theorem dX8_length_0 : decode cX8_length 0 = .ok (.aload_n 0, 1) := by decide +kernel
theorem dX8_length_1 : decode cX8_length 1 = .ok (.getfield 21, 3) := by decide +kernel
theorem dX8_length_4 : decode cX8_length 4 = .ok (.getfield 73, 3) := by decide +kernel
theorem dX8_length_7 : decode cX8_length 7 = .ok (.getfield 60, 3) := by decide +kernel
theorem dX8_length_10 : decode cX8_length 10 = .ok (.ireturn, 1) := by decide +kernel
theorem dX8_letter_0 : decode cX8_letter 0 = .ok (.aload_n 0, 1) := by decide +kernel
theorem dX8_letter_1 : decode cX8_letter 1 = .ok (.iload_n 1, 1) := by decide +kernel
theorem dX8_letter_2 : decode cX8_letter 2 = .ok (.invokevirtual 170, 3) := by decide +kernel
theorem dX8_letter_5 : decode cX8_letter 5 = .ok (.ifCond .ne 7, 3) := by decide +kernel
theorem dX8_letter_8 : decode cX8_letter 8 = .ok (.sipush (-1001), 3) := by decide +kernel
theorem dX8_letter_11 : decode cX8_letter 11 = .ok (.ireturn, 1) := by decide +kernel
theorem dX8_letter_12 : decode cX8_letter 12 = .ok (.aload_n 0, 1) := by decide +kernel
theorem dX8_letter_13 : decode cX8_letter 13 = .ok (.getfield 21, 3) := by decide +kernel
theorem dX8_letter_16 : decode cX8_letter 16 = .ok (.getfield 73, 3) := by decide +kernel
theorem dX8_letter_19 : decode cX8_letter 19 = .ok (.iload_n 1, 1) := by decide +kernel
theorem dX8_letter_20 : decode cX8_letter 20 = .ok (.invokevirtual 173, 3) := by decide +kernel
theorem dX8_letter_23 : decode cX8_letter 23 = .ok (.ireturn, 1) := by decide +kernel
theorem dX8_comments_0 : decode cX8_comments 0 = .ok (.aload_n 0, 1) := by decide +kernel
theorem dX8_comments_1 : decode cX8_comments 1 = .ok (.getfield 21, 3) := by decide +kernel
theorem dX8_comments_4 : decode cX8_comments 4 = .ok (.getfield 96, 3) := by decide +kernel
theorem dX8_comments_7 : decode cX8_comments 7 = .ok (.ireturn, 1) := by decide +kernel
theorem dX8_commentAt_0 : decode cX8_commentAt 0 = .ok (.iload_n 1, 1) := by decide +kernel
theorem dX8_commentAt_1 : decode cX8_commentAt 1 = .ok (.ifCond .lt 26, 3) := by decide +kernel
theorem dX8_commentAt_4 : decode cX8_commentAt 4 = .ok (.iload_n 1, 1) := by decide +kernel
theorem dX8_commentAt_5 : decode cX8_commentAt 5 = .ok (.aload_n 0, 1) := by decide +kernel
theorem dX8_commentAt_6 : decode cX8_commentAt 6 = .ok (.getfield 21, 3) := by decide +kernel
theorem dX8_commentAt_9 : decode cX8_commentAt 9 = .ok (.getfield 96, 3) := by decide +kernel
theorem dX8_commentAt_12 : decode cX8_commentAt 12 = .ok (.if_icmp .ge 15, 3) := by decide +kernel
theorem dX8_commentAt_15 : decode cX8_commentAt 15 = .ok (.iload_n 1, 1) := by decide +kernel
theorem dX8_commentAt_16 : decode cX8_commentAt 16 = .ok (.aload_n 0, 1) := by decide +kernel
theorem dX8_commentAt_17 : decode cX8_commentAt 17 = .ok (.getfield 21, 3) := by decide +kernel
theorem dX8_commentAt_20 : decode cX8_commentAt 20 = .ok (.getfield 176, 3) := by decide +kernel
theorem dX8_commentAt_23 : decode cX8_commentAt 23 = .ok (.arraylength, 1) := by decide +kernel
theorem dX8_commentAt_24 : decode cX8_commentAt 24 = .ok (.if_icmp .lt 7, 3) := by decide +kernel
theorem dX8_commentAt_27 : decode cX8_commentAt 27 = .ok (.sipush (-1001), 3) := by decide +kernel
theorem dX8_commentAt_30 : decode cX8_commentAt 30 = .ok (.ireturn, 1) := by decide +kernel
theorem dX8_commentAt_31 : decode cX8_commentAt 31 = .ok (.aload_n 0, 1) := by decide +kernel
theorem dX8_commentAt_32 : decode cX8_commentAt 32 = .ok (.getfield 21, 3) := by decide +kernel
theorem dX8_commentAt_35 : decode cX8_commentAt 35 = .ok (.getfield 176, 3) := by decide +kernel
theorem dX8_commentAt_38 : decode cX8_commentAt 38 = .ok (.iload_n 1, 1) := by decide +kernel
theorem dX8_commentAt_39 : decode cX8_commentAt 39 = .ok (.aaload, 1) := by decide +kernel
theorem dX8_commentAt_40 : decode cX8_commentAt 40 = .ok (.getfield 180, 3) := by decide +kernel
theorem dX8_commentAt_43 : decode cX8_commentAt 43 = .ok (.ireturn, 1) := by decide +kernel
theorem dX8_state_0 : decode cX8_state 0 = .ok (.aload_n 0, 1) := by decide +kernel
theorem dX8_state_1 : decode cX8_state 1 = .ok (.getfield 21, 3) := by decide +kernel
theorem dX8_state_4 : decode cX8_state 4 = .ok (.iload_n 1, 1) := by decide +kernel
theorem dX8_state_5 : decode cX8_state 5 = .ok (.invokevirtual 109, 3) := by decide +kernel
theorem dX8_state_8 : decode cX8_state 8 = .ok (.astore_n 2, 1) := by decide +kernel
theorem dX8_state_9 : decode cX8_state 9 = .ok (.aload_n 2, 1) := by decide +kernel
theorem dX8_state_10 : decode cX8_state 10 = .ok (.ifnonnull 9, 3) := by decide +kernel
theorem dX8_state_13 : decode cX8_state 13 = .ok (.sipush (-1001), 3) := by decide +kernel
theorem dX8_state_16 : decode cX8_state 16 = .ok (.goto 7, 3) := by decide +kernel
theorem dX8_state_19 : decode cX8_state 19 = .ok (.aload_n 2, 1) := by decide +kernel
theorem dX8_state_20 : decode cX8_state 20 = .ok (.getfield 113, 3) := by decide +kernel
theorem dX8_state_23 : decode cX8_state 23 = .ok (.ireturn, 1) := by decide +kernel
theorem dX8_range_0 : decode cX8_range 0 = .ok (.aload_n 0, 1) := by decide +kernel
theorem dX8_range_1 : decode cX8_range 1 = .ok (.getfield 21, 3) := by decide +kernel
theorem dX8_range_4 : decode cX8_range 4 = .ok (.iload_n 1, 1) := by decide +kernel
theorem dX8_range_5 : decode cX8_range 5 = .ok (.invokevirtual 109, 3) := by decide +kernel
theorem dX8_range_8 : decode cX8_range 8 = .ok (.astore_n 3, 1) := by decide +kernel
theorem dX8_range_9 : decode cX8_range 9 = .ok (.aload_n 3, 1) := by decide +kernel
theorem dX8_range_10 : decode cX8_range 10 = .ok (.ifnonnull 7, 3) := by decide +kernel
theorem dX8_range_13 : decode cX8_range 13 = .ok (.sipush (-1001), 3) := by decide +kernel
theorem dX8_range_16 : decode cX8_range 16 = .ok (.ireturn, 1) := by decide +kernel
theorem dX8_range_17 : decode cX8_range 17 = .ok (.iload_n 2, 1) := by decide +kernel
theorem dX8_range_18 : decode cX8_range 18 = .ok (.ifCond .eq 10, 3) := by decide +kernel
theorem dX8_range_21 : decode cX8_range 21 = .ok (.aload_n 3, 1) := by decide +kernel
theorem dX8_range_22 : decode cX8_range 22 = .ok (.getfield 118, 3) := by decide +kernel
theorem dX8_range_25 : decode cX8_range 25 = .ok (.goto 7, 3) := by decide +kernel
theorem dX8_range_28 : decode cX8_range 28 = .ok (.aload_n 3, 1) := by decide +kernel
theorem dX8_range_29 : decode cX8_range 29 = .ok (.getfield 121, 3) := by decide +kernel
theorem dX8_range_32 : decode cX8_range 32 = .ok (.ireturn, 1) := by decide +kernel
theorem dX8_weight_0 : decode cX8_weight 0 = .ok (.aload_n 0, 1) := by decide +kernel
theorem dX8_weight_1 : decode cX8_weight 1 = .ok (.getfield 21, 3) := by decide +kernel
theorem dX8_weight_4 : decode cX8_weight 4 = .ok (.iload_n 1, 1) := by decide +kernel
theorem dX8_weight_5 : decode cX8_weight 5 = .ok (.invokevirtual 109, 3) := by decide +kernel
theorem dX8_weight_8 : decode cX8_weight 8 = .ok (.astore_n 2, 1) := by decide +kernel
theorem dX8_weight_9 : decode cX8_weight 9 = .ok (.aload_n 2, 1) := by decide +kernel
theorem dX8_weight_10 : decode cX8_weight 10 = .ok (.ifnonnull 9, 3) := by decide +kernel
theorem dX8_weight_13 : decode cX8_weight 13 = .ok (.sipush (-1001), 3) := by decide +kernel
theorem dX8_weight_16 : decode cX8_weight 16 = .ok (.goto 7, 3) := by decide +kernel
theorem dX8_weight_19 : decode cX8_weight 19 = .ok (.aload_n 2, 1) := by decide +kernel
theorem dX8_weight_20 : decode cX8_weight 20 = .ok (.getfield 183, 3) := by decide +kernel
theorem dX8_weight_23 : decode cX8_weight 23 = .ok (.ireturn, 1) := by decide +kernel
theorem dX8_quoted_0 : decode cX8_quoted 0 = .ok (.aload_n 0, 1) := by decide +kernel
theorem dX8_quoted_1 : decode cX8_quoted 1 = .ok (.getfield 21, 3) := by decide +kernel
theorem dX8_quoted_4 : decode cX8_quoted 4 = .ok (.iload_n 1, 1) := by decide +kernel
theorem dX8_quoted_5 : decode cX8_quoted 5 = .ok (.invokevirtual 109, 3) := by decide +kernel
theorem dX8_quoted_8 : decode cX8_quoted 8 = .ok (.astore 4, 2) := by decide +kernel
theorem dX8_quoted_10 : decode cX8_quoted 10 = .ok (.aload 4, 2) := by decide +kernel
theorem dX8_quoted_12 : decode cX8_quoted 12 = .ok (.ifnonnull 7, 3) := by decide +kernel
theorem dX8_quoted_15 : decode cX8_quoted 15 = .ok (.sipush (-1001), 3) := by decide +kernel
theorem dX8_quoted_18 : decode cX8_quoted 18 = .ok (.ireturn, 1) := by decide +kernel
theorem dX8_quoted_19 : decode cX8_quoted 19 = .ok (.iload_n 2, 1) := by decide +kernel
theorem dX8_quoted_20 : decode cX8_quoted 20 = .ok (.ifCond .lt 8, 3) := by decide +kernel
theorem dX8_quoted_23 : decode cX8_quoted 23 = .ok (.iload_n 2, 1) := by decide +kernel
theorem dX8_quoted_24 : decode cX8_quoted 24 = .ok (.iconst 2, 1) := by decide +kernel
theorem dX8_quoted_25 : decode cX8_quoted 25 = .ok (.if_icmp .le 7, 3) := by decide +kernel
theorem dX8_quoted_28 : decode cX8_quoted 28 = .ok (.sipush (-1002), 3) := by decide +kernel
theorem dX8_quoted_31 : decode cX8_quoted 31 = .ok (.ireturn, 1) := by decide +kernel
theorem dX8_quoted_32 : decode cX8_quoted 32 = .ok (.iload_n 2, 1) := by decide +kernel
theorem dX8_quoted_33 : decode cX8_quoted 33 = .ok (.ifCond .ne 11, 3) := by decide +kernel
theorem dX8_quoted_36 : decode cX8_quoted 36 = .ok (.aload 4, 2) := by decide +kernel
theorem dX8_quoted_38 : decode cX8_quoted 38 = .ok (.getfield 186, 3) := by decide +kernel
theorem dX8_quoted_41 : decode cX8_quoted 41 = .ok (.goto 21, 3) := by decide +kernel
theorem dX8_quoted_44 : decode cX8_quoted 44 = .ok (.iload_n 2, 1) := by decide +kernel
theorem dX8_quoted_45 : decode cX8_quoted 45 = .ok (.iconst 1, 1) := by decide +kernel
theorem dX8_quoted_46 : decode cX8_quoted 46 = .ok (.if_icmp .ne 11, 3) := by decide +kernel
theorem dX8_quoted_49 : decode cX8_quoted 49 = .ok (.aload 4, 2) := by decide +kernel
theorem dX8_quoted_51 : decode cX8_quoted 51 = .ok (.getfield 127, 3) := by decide +kernel
theorem dX8_quoted_54 : decode cX8_quoted 54 = .ok (.goto 8, 3) := by decide +kernel
theorem dX8_quoted_57 : decode cX8_quoted 57 = .ok (.aload 4, 2) := by decide +kernel
theorem dX8_quoted_59 : decode cX8_quoted 59 = .ok (.getfield 189, 3) := by decide +kernel
theorem dX8_quoted_62 : decode cX8_quoted 62 = .ok (.astore 5, 2) := by decide +kernel
theorem dX8_quoted_64 : decode cX8_quoted 64 = .ok (.iload_n 3, 1) := by decide +kernel
theorem dX8_quoted_65 : decode cX8_quoted 65 = .ok (.ifCond .lt 12, 3) := by decide +kernel
theorem dX8_quoted_68 : decode cX8_quoted 68 = .ok (.iload_n 3, 1) := by decide +kernel
theorem dX8_quoted_69 : decode cX8_quoted 69 = .ok (.aload 5, 2) := by decide +kernel
theorem dX8_quoted_71 : decode cX8_quoted 71 = .ok (.getfield 60, 3) := by decide +kernel
theorem dX8_quoted_74 : decode cX8_quoted 74 = .ok (.if_icmp .lt 9, 3) := by decide +kernel
theorem dX8_quoted_77 : decode cX8_quoted 77 = .ok (.sipush (-1005), 3) := by decide +kernel
theorem dX8_quoted_80 : decode cX8_quoted 80 = .ok (.goto 9, 3) := by decide +kernel
theorem dX8_quoted_83 : decode cX8_quoted 83 = .ok (.aload 5, 2) := by decide +kernel
theorem dX8_quoted_85 : decode cX8_quoted 85 = .ok (.iload_n 3, 1) := by decide +kernel
theorem dX8_quoted_86 : decode cX8_quoted 86 = .ok (.invokevirtual 173, 3) := by decide +kernel
theorem dX8_quoted_89 : decode cX8_quoted 89 = .ok (.ireturn, 1) := by decide +kernel
theorem dX8_distance_0 : decode cX8_distance 0 = .ok (.aload_n 0, 1) := by decide +kernel
theorem dX8_distance_1 : decode cX8_distance 1 = .ok (.getfield 21, 3) := by decide +kernel
theorem dX8_distance_4 : decode cX8_distance 4 = .ok (.iload_n 1, 1) := by decide +kernel
theorem dX8_distance_5 : decode cX8_distance 5 = .ok (.invokevirtual 109, 3) := by decide +kernel
theorem dX8_distance_8 : decode cX8_distance 8 = .ok (.astore_n 2, 1) := by decide +kernel
theorem dX8_distance_9 : decode cX8_distance 9 = .ok (.aload_n 2, 1) := by decide +kernel
theorem dX8_distance_10 : decode cX8_distance 10 = .ok (.ifnonnull 7, 3) := by decide +kernel
theorem dX8_distance_13 : decode cX8_distance 13 = .ok (.sipush (-1001), 3) := by decide +kernel
theorem dX8_distance_16 : decode cX8_distance 16 = .ok (.ireturn, 1) := by decide +kernel
theorem dX8_distance_17 : decode cX8_distance 17 = .ok (.aload_n 2, 1) := by decide +kernel
theorem dX8_distance_18 : decode cX8_distance 18 = .ok (.getfield 113, 3) := by decide +kernel
theorem dX8_distance_21 : decode cX8_distance 21 = .ok (.ifCond .ne 7, 3) := by decide +kernel
theorem dX8_distance_24 : decode cX8_distance 24 = .ok (.sipush (-1003), 3) := by decide +kernel
theorem dX8_distance_27 : decode cX8_distance 27 = .ok (.ireturn, 1) := by decide +kernel
theorem dX8_distance_28 : decode cX8_distance 28 = .ok (.aload_n 0, 1) := by decide +kernel
theorem dX8_distance_29 : decode cX8_distance 29 = .ok (.getfield 45, 3) := by decide +kernel
theorem dX8_distance_32 : decode cX8_distance 32 = .ok (.aload_n 2, 1) := by decide +kernel
theorem dX8_distance_33 : decode cX8_distance 33 = .ok (.aload_n 0, 1) := by decide +kernel
theorem dX8_distance_34 : decode cX8_distance 34 = .ok (.getfield 21, 3) := by decide +kernel
theorem dX8_distance_37 : decode cX8_distance 37 = .ok (.getfield 73, 3) := by decide +kernel
theorem dX8_distance_40 : decode cX8_distance 40 = .ok (.aload_n 2, 1) := by decide +kernel
theorem dX8_distance_41 : decode cX8_distance 41 = .ok (.getfield 121, 3) := by decide +kernel
theorem dX8_distance_44 : decode cX8_distance 44 = .ok (.aload_n 2, 1) := by decide +kernel
theorem dX8_distance_45 : decode cX8_distance 45 = .ok (.getfield 118, 3) := by decide +kernel
theorem dX8_distance_48 : decode cX8_distance 48 = .ok (.invokevirtual 192, 3) := by decide +kernel
theorem dX8_distance_51 : decode cX8_distance 51 = .ok (.ireturn, 1) := by decide +kernel
theorem dX8_score_0 : decode cX8_score 0 = .ok (.aload_n 0, 1) := by decide +kernel
theorem dX8_score_1 : decode cX8_score 1 = .ok (.getfield 21, 3) := by decide +kernel
theorem dX8_score_4 : decode cX8_score 4 = .ok (.iload_n 1, 1) := by decide +kernel
theorem dX8_score_5 : decode cX8_score 5 = .ok (.invokevirtual 109, 3) := by decide +kernel
theorem dX8_score_8 : decode cX8_score 8 = .ok (.astore 4, 2) := by decide +kernel
theorem dX8_score_10 : decode cX8_score 10 = .ok (.aload 4, 2) := by decide +kernel
theorem dX8_score_12 : decode cX8_score 12 = .ok (.ifnull 11, 3) := by decide +kernel
theorem dX8_score_15 : decode cX8_score 15 = .ok (.aload_n 0, 1) := by decide +kernel
theorem dX8_score_16 : decode cX8_score 16 = .ok (.iload_n 2, 1) := by decide +kernel
theorem dX8_score_17 : decode cX8_score 17 = .ok (.invokevirtual 80, 3) := by decide +kernel
theorem dX8_score_20 : decode cX8_score 20 = .ok (.ifCond .ne 7, 3) := by decide +kernel
theorem dX8_score_23 : decode cX8_score 23 = .ok (.sipush (-1001), 3) := by decide +kernel
theorem dX8_score_26 : decode cX8_score 26 = .ok (.ireturn, 1) := by decide +kernel
theorem dX8_score_27 : decode cX8_score 27 = .ok (.aload_n 0, 1) := by decide +kernel
theorem dX8_score_28 : decode cX8_score 28 = .ok (.iload_n 2, 1) := by decide +kernel
theorem dX8_score_29 : decode cX8_score 29 = .ok (.iload_n 3, 1) := by decide +kernel
theorem dX8_score_30 : decode cX8_score 30 = .ok (.bipush 30, 2) := by decide +kernel
theorem dX8_score_32 : decode cX8_score 32 = .ok (.invokevirtual 92, 3) := by decide +kernel
theorem dX8_score_35 : decode cX8_score 35 = .ok (.ifCond .ne 7, 3) := by decide +kernel
theorem dX8_score_38 : decode cX8_score 38 = .ok (.sipush (-1002), 3) := by decide +kernel
theorem dX8_score_41 : decode cX8_score 41 = .ok (.ireturn, 1) := by decide +kernel
theorem dX8_score_42 : decode cX8_score 42 = .ok (.aload_n 0, 1) := by decide +kernel
theorem dX8_score_43 : decode cX8_score 43 = .ok (.getfield 45, 3) := by decide +kernel
theorem dX8_score_46 : decode cX8_score 46 = .ok (.aload 4, 2) := by decide +kernel
theorem dX8_score_48 : decode cX8_score 48 = .ok (.aload_n 0, 1) := by decide +kernel
theorem dX8_score_49 : decode cX8_score 49 = .ok (.getfield 21, 3) := by decide +kernel
theorem dX8_score_52 : decode cX8_score 52 = .ok (.getfield 73, 3) := by decide +kernel
theorem dX8_score_55 : decode cX8_score 55 = .ok (.iload_n 2, 1) := by decide +kernel
theorem dX8_score_56 : decode cX8_score 56 = .ok (.iload_n 3, 1) := by decide +kernel
theorem dX8_score_57 : decode cX8_score 57 = .ok (.invokevirtual 192, 3) := by decide +kernel
theorem dX8_score_60 : decode cX8_score 60 = .ok (.istore 5, 2) := by decide +kernel
theorem dX8_score_62 : decode cX8_score 62 = .ok (.aload 4, 2) := by decide +kernel
theorem dX8_score_64 : decode cX8_score 64 = .ok (.iload 5, 2) := by decide +kernel
theorem dX8_score_66 : decode cX8_score 66 = .ok (.aload_n 0, 1) := by decide +kernel
theorem dX8_score_67 : decode cX8_score 67 = .ok (.getfield 21, 3) := by decide +kernel
theorem dX8_score_70 : decode cX8_score 70 = .ok (.getfield 73, 3) := by decide +kernel
theorem dX8_score_73 : decode cX8_score 73 = .ok (.iload_n 2, 1) := by decide +kernel
theorem dX8_score_74 : decode cX8_score 74 = .ok (.iload_n 3, 1) := by decide +kernel
theorem dX8_score_75 : decode cX8_score 75 = .ok (.invokevirtual 196, 3) := by decide +kernel
theorem dX8_score_78 : decode cX8_score 78 = .ok (.ireturn, 1) := by decide +kernel
theorem dX8_best_0 : decode cX8_best 0 = .ok (.aload_n 0, 1) := by decide +kernel
theorem dX8_best_1 : decode cX8_best 1 = .ok (.getfield 21, 3) := by decide +kernel
theorem dX8_best_4 : decode cX8_best 4 = .ok (.iload_n 1, 1) := by decide +kernel
theorem dX8_best_5 : decode cX8_best 5 = .ok (.invokevirtual 109, 3) := by decide +kernel
theorem dX8_best_8 : decode cX8_best 8 = .ok (.astore_n 3, 1) := by decide +kernel
theorem dX8_best_9 : decode cX8_best 9 = .ok (.aload_n 3, 1) := by decide +kernel
theorem dX8_best_10 : decode cX8_best 10 = .ok (.ifnonnull 7, 3) := by decide +kernel
theorem dX8_best_13 : decode cX8_best 13 = .ok (.sipush (-1001), 3) := by decide +kernel
theorem dX8_best_16 : decode cX8_best 16 = .ok (.ireturn, 1) := by decide +kernel
theorem dX8_best_17 : decode cX8_best 17 = .ok (.iload_n 2, 1) := by decide +kernel
theorem dX8_best_18 : decode cX8_best 18 = .ok (.ifCond .lt 8, 3) := by decide +kernel
theorem dX8_best_21 : decode cX8_best 21 = .ok (.iload_n 2, 1) := by decide +kernel
theorem dX8_best_22 : decode cX8_best 22 = .ok (.iconst 2, 1) := by decide +kernel
theorem dX8_best_23 : decode cX8_best 23 = .ok (.if_icmp .le 7, 3) := by decide +kernel
theorem dX8_best_26 : decode cX8_best 26 = .ok (.sipush (-1002), 3) := by decide +kernel
theorem dX8_best_29 : decode cX8_best 29 = .ok (.ireturn, 1) := by decide +kernel
theorem dX8_best_30 : decode cX8_best 30 = .ok (.aload_n 0, 1) := by decide +kernel
theorem dX8_best_31 : decode cX8_best 31 = .ok (.getfield 45, 3) := by decide +kernel
theorem dX8_best_34 : decode cX8_best 34 = .ok (.aload_n 3, 1) := by decide +kernel
theorem dX8_best_35 : decode cX8_best 35 = .ok (.aload_n 0, 1) := by decide +kernel
theorem dX8_best_36 : decode cX8_best 36 = .ok (.getfield 21, 3) := by decide +kernel
theorem dX8_best_39 : decode cX8_best 39 = .ok (.getfield 73, 3) := by decide +kernel
theorem dX8_best_42 : decode cX8_best 42 = .ok (.invokevirtual 130, 3) := by decide +kernel
theorem dX8_best_45 : decode cX8_best 45 = .ok (.iload_n 2, 1) := by decide +kernel
theorem dX8_best_46 : decode cX8_best 46 = .ok (.ifCond .ne 13, 3) := by decide +kernel
theorem dX8_best_49 : decode cX8_best 49 = .ok (.aload_n 0, 1) := by decide +kernel
theorem dX8_best_50 : decode cX8_best 50 = .ok (.getfield 45, 3) := by decide +kernel
theorem dX8_best_53 : decode cX8_best 53 = .ok (.getfield 134, 3) := by decide +kernel
theorem dX8_best_56 : decode cX8_best 56 = .ok (.goto 25, 3) := by decide +kernel
theorem dX8_best_59 : decode cX8_best 59 = .ok (.iload_n 2, 1) := by decide +kernel
theorem dX8_best_60 : decode cX8_best 60 = .ok (.iconst 1, 1) := by decide +kernel
theorem dX8_best_61 : decode cX8_best 61 = .ok (.if_icmp .ne 13, 3) := by decide +kernel
theorem dX8_best_64 : decode cX8_best 64 = .ok (.aload_n 0, 1) := by decide +kernel
theorem dX8_best_65 : decode cX8_best 65 = .ok (.getfield 45, 3) := by decide +kernel
theorem dX8_best_68 : decode cX8_best 68 = .ok (.getfield 137, 3) := by decide +kernel
theorem dX8_best_71 : decode cX8_best 71 = .ok (.goto 10, 3) := by decide +kernel
theorem dX8_best_74 : decode cX8_best 74 = .ok (.aload_n 0, 1) := by decide +kernel
theorem dX8_best_75 : decode cX8_best 75 = .ok (.getfield 45, 3) := by decide +kernel
theorem dX8_best_78 : decode cX8_best 78 = .ok (.getfield 140, 3) := by decide +kernel
theorem dX8_best_81 : decode cX8_best 81 = .ok (.ireturn, 1) := by decide +kernel
theorem dX8_overlap_0 : decode cX8_overlap 0 = .ok (.aload_n 0, 1) := by decide +kernel
theorem dX8_overlap_1 : decode cX8_overlap 1 = .ok (.getfield 21, 3) := by decide +kernel
theorem dX8_overlap_4 : decode cX8_overlap 4 = .ok (.iload_n 1, 1) := by decide +kernel
theorem dX8_overlap_5 : decode cX8_overlap 5 = .ok (.invokevirtual 109, 3) := by decide +kernel
theorem dX8_overlap_8 : decode cX8_overlap 8 = .ok (.astore_n 3, 1) := by decide +kernel
theorem dX8_overlap_9 : decode cX8_overlap 9 = .ok (.aload_n 0, 1) := by decide +kernel
theorem dX8_overlap_10 : decode cX8_overlap 10 = .ok (.getfield 21, 3) := by decide +kernel
theorem dX8_overlap_13 : decode cX8_overlap 13 = .ok (.iload_n 2, 1) := by decide +kernel
theorem dX8_overlap_14 : decode cX8_overlap 14 = .ok (.invokevirtual 109, 3) := by decide +kernel
theorem dX8_overlap_17 : decode cX8_overlap 17 = .ok (.astore 4, 2) := by decide +kernel
theorem dX8_overlap_19 : decode cX8_overlap 19 = .ok (.aload_n 3, 1) := by decide +kernel
theorem dX8_overlap_20 : decode cX8_overlap 20 = .ok (.ifnull 8, 3) := by decide +kernel
theorem dX8_overlap_23 : decode cX8_overlap 23 = .ok (.aload 4, 2) := by decide +kernel
theorem dX8_overlap_25 : decode cX8_overlap 25 = .ok (.ifnonnull 7, 3) := by decide +kernel
theorem dX8_overlap_28 : decode cX8_overlap 28 = .ok (.sipush (-1001), 3) := by decide +kernel
theorem dX8_overlap_31 : decode cX8_overlap 31 = .ok (.ireturn, 1) := by decide +kernel
theorem dX8_overlap_32 : decode cX8_overlap 32 = .ok (.iconst 0, 1) := by decide +kernel
theorem dX8_overlap_33 : decode cX8_overlap 33 = .ok (.aload_n 3, 1) := by decide +kernel
theorem dX8_overlap_34 : decode cX8_overlap 34 = .ok (.getfield 118, 3) := by decide +kernel
theorem dX8_overlap_37 : decode cX8_overlap 37 = .ok (.aload 4, 2) := by decide +kernel
theorem dX8_overlap_39 : decode cX8_overlap 39 = .ok (.getfield 118, 3) := by decide +kernel
theorem dX8_overlap_42 : decode cX8_overlap 42 = .ok (.invokestatic 200, 3) := by decide +kernel
theorem dX8_overlap_45 : decode cX8_overlap 45 = .ok (.aload_n 3, 1) := by decide +kernel
theorem dX8_overlap_46 : decode cX8_overlap 46 = .ok (.getfield 121, 3) := by decide +kernel
theorem dX8_overlap_49 : decode cX8_overlap 49 = .ok (.aload 4, 2) := by decide +kernel
theorem dX8_overlap_51 : decode cX8_overlap 51 = .ok (.getfield 121, 3) := by decide +kernel
theorem dX8_overlap_54 : decode cX8_overlap 54 = .ok (.invokestatic 205, 3) := by decide +kernel
theorem dX8_overlap_57 : decode cX8_overlap 57 = .ok (.isub, 1) := by decide +kernel
theorem dX8_overlap_58 : decode cX8_overlap 58 = .ok (.invokestatic 205, 3) := by decide +kernel
theorem dX8_overlap_61 : decode cX8_overlap 61 = .ok (.ireturn, 1) := by decide +kernel
theorem dX8_covering_0 : decode cX8_covering 0 = .ok (.aload_n 0, 1) := by decide +kernel
theorem dX8_covering_1 : decode cX8_covering 1 = .ok (.iload_n 1, 1) := by decide +kernel
theorem dX8_covering_2 : decode cX8_covering 2 = .ok (.invokevirtual 170, 3) := by decide +kernel
theorem dX8_covering_5 : decode cX8_covering 5 = .ok (.ifCond .eq 7, 3) := by decide +kernel
theorem dX8_covering_8 : decode cX8_covering 8 = .ok (.iload_n 2, 1) := by decide +kernel
theorem dX8_covering_9 : decode cX8_covering 9 = .ok (.ifCond .ge 7, 3) := by decide +kernel
theorem dX8_covering_12 : decode cX8_covering 12 = .ok (.sipush (-1001), 3) := by decide +kernel
theorem dX8_covering_15 : decode cX8_covering 15 = .ok (.ireturn, 1) := by decide +kernel
theorem dX8_covering_16 : decode cX8_covering 16 = .ok (.aload_n 0, 1) := by decide +kernel
theorem dX8_covering_17 : decode cX8_covering 17 = .ok (.getfield 21, 3) := by decide +kernel
theorem dX8_covering_20 : decode cX8_covering 20 = .ok (.iload_n 1, 1) := by decide +kernel
theorem dX8_covering_21 : decode cX8_covering 21 = .ok (.iload_n 2, 1) := by decide +kernel
theorem dX8_covering_22 : decode cX8_covering 22 = .ok (.invokevirtual 208, 3) := by decide +kernel
theorem dX8_covering_25 : decode cX8_covering 25 = .ok (.ireturn, 1) := by decide +kernel
theorem dX8_setThreshold_0 : decode cX8_setThreshold 0 = .ok (.iload_n 1, 1) := by decide +kernel
theorem dX8_setThreshold_1 : decode cX8_setThreshold 1 = .ok (.ifCond .lt 9, 3) := by decide +kernel
theorem dX8_setThreshold_4 : decode cX8_setThreshold 4 = .ok (.iload_n 1, 1) := by decide +kernel
theorem dX8_setThreshold_5 : decode cX8_setThreshold 5 = .ok (.bipush 108, 2) := by decide +kernel
theorem dX8_setThreshold_7 : decode cX8_setThreshold 7 = .ok (.if_icmp .le 7, 3) := by decide +kernel
theorem dX8_setThreshold_10 : decode cX8_setThreshold 10 = .ok (.sipush (-1002), 3) := by decide +kernel
theorem dX8_setThreshold_13 : decode cX8_setThreshold 13 = .ok (.ireturn, 1) := by decide +kernel
theorem dX8_setThreshold_14 : decode cX8_setThreshold 14 = .ok (.aload_n 0, 1) := by decide +kernel
theorem dX8_setThreshold_15 : decode cX8_setThreshold 15 = .ok (.getfield 56, 3) := by decide +kernel
theorem dX8_setThreshold_18 : decode cX8_setThreshold 18 = .ok (.istore_n 2, 1) := by decide +kernel
theorem dX8_setThreshold_19 : decode cX8_setThreshold 19 = .ok (.aload_n 0, 1) := by decide +kernel
theorem dX8_setThreshold_20 : decode cX8_setThreshold 20 = .ok (.iload_n 1, 1) := by decide +kernel
theorem dX8_setThreshold_21 : decode cX8_setThreshold 21 = .ok (.putfield 56, 3) := by decide +kernel
theorem dX8_setThreshold_24 : decode cX8_setThreshold 24 = .ok (.iload_n 2, 1) := by decide +kernel
theorem dX8_setThreshold_25 : decode cX8_setThreshold 25 = .ok (.ireturn, 1) := by decide +kernel
theorem dX8_save_0 : decode cX8_save 0 = .ok (.iload_n 1, 1) := by decide +kernel
theorem dX8_save_1 : decode cX8_save 1 = .ok (.ifCond .lt 8, 3) := by decide +kernel
theorem dX8_save_4 : decode cX8_save 4 = .ok (.iload_n 1, 1) := by decide +kernel
theorem dX8_save_5 : decode cX8_save 5 = .ok (.iconst 1, 1) := by decide +kernel
theorem dX8_save_6 : decode cX8_save 6 = .ok (.if_icmp .le 7, 3) := by decide +kernel
theorem dX8_save_9 : decode cX8_save 9 = .ok (.sipush (-1001), 3) := by decide +kernel
theorem dX8_save_12 : decode cX8_save 12 = .ok (.ireturn, 1) := by decide +kernel
theorem dX8_save_13 : decode cX8_save 13 = .ok (.iload_n 1, 1) := by decide +kernel
theorem dX8_save_14 : decode cX8_save 14 = .ok (.ifCond .ne 10, 3) := by decide +kernel
theorem dX8_save_17 : decode cX8_save 17 = .ok (.aload_n 0, 1) := by decide +kernel
theorem dX8_save_18 : decode cX8_save 18 = .ok (.getfield 35, 3) := by decide +kernel
theorem dX8_save_21 : decode cX8_save 21 = .ok (.goto 7, 3) := by decide +kernel
theorem dX8_save_24 : decode cX8_save 24 = .ok (.aload_n 0, 1) := by decide +kernel
theorem dX8_save_25 : decode cX8_save 25 = .ok (.getfield 39, 3) := by decide +kernel
theorem dX8_save_28 : decode cX8_save 28 = .ok (.astore_n 2, 1) := by decide +kernel
theorem dX8_save_29 : decode cX8_save 29 = .ok (.aload_n 2, 1) := by decide +kernel
theorem dX8_save_30 : decode cX8_save 30 = .ok (.iconst 1, 1) := by decide +kernel
theorem dX8_save_31 : decode cX8_save 31 = .ok (.putfield 211, 3) := by decide +kernel
theorem dX8_save_34 : decode cX8_save 34 = .ok (.aload_n 2, 1) := by decide +kernel
theorem dX8_save_35 : decode cX8_save 35 = .ok (.aload_n 0, 1) := by decide +kernel
theorem dX8_save_36 : decode cX8_save 36 = .ok (.getfield 56, 3) := by decide +kernel
theorem dX8_save_39 : decode cX8_save 39 = .ok (.putfield 215, 3) := by decide +kernel
theorem dX8_save_42 : decode cX8_save 42 = .ok (.aload_n 2, 1) := by decide +kernel
theorem dX8_save_43 : decode cX8_save 43 = .ok (.getfield 216, 3) := by decide +kernel
theorem dX8_save_46 : decode cX8_save 46 = .ok (.aload_n 0, 1) := by decide +kernel
theorem dX8_save_47 : decode cX8_save 47 = .ok (.getfield 21, 3) := by decide +kernel
theorem dX8_save_50 : decode cX8_save 50 = .ok (.invokevirtual 217, 3) := by decide +kernel
theorem dX8_save_53 : decode cX8_save 53 = .ok (.aload_n 0, 1) := by decide +kernel
theorem dX8_save_54 : decode cX8_save 54 = .ok (.getfield 21, 3) := by decide +kernel
theorem dX8_save_57 : decode cX8_save 57 = .ok (.getfield 96, 3) := by decide +kernel
theorem dX8_save_60 : decode cX8_save 60 = .ok (.ireturn, 1) := by decide +kernel
theorem dX8_restore_0 : decode cX8_restore 0 = .ok (.iload_n 1, 1) := by decide +kernel
theorem dX8_restore_1 : decode cX8_restore 1 = .ok (.ifCond .lt 8, 3) := by decide +kernel
theorem dX8_restore_4 : decode cX8_restore 4 = .ok (.iload_n 1, 1) := by decide +kernel
theorem dX8_restore_5 : decode cX8_restore 5 = .ok (.iconst 1, 1) := by decide +kernel
theorem dX8_restore_6 : decode cX8_restore 6 = .ok (.if_icmp .le 7, 3) := by decide +kernel
theorem dX8_restore_9 : decode cX8_restore 9 = .ok (.sipush (-1001), 3) := by decide +kernel
theorem dX8_restore_12 : decode cX8_restore 12 = .ok (.ireturn, 1) := by decide +kernel
theorem dX8_restore_13 : decode cX8_restore 13 = .ok (.iload_n 1, 1) := by decide +kernel
theorem dX8_restore_14 : decode cX8_restore 14 = .ok (.ifCond .ne 10, 3) := by decide +kernel
theorem dX8_restore_17 : decode cX8_restore 17 = .ok (.aload_n 0, 1) := by decide +kernel
theorem dX8_restore_18 : decode cX8_restore 18 = .ok (.getfield 35, 3) := by decide +kernel
theorem dX8_restore_21 : decode cX8_restore 21 = .ok (.goto 7, 3) := by decide +kernel
theorem dX8_restore_24 : decode cX8_restore 24 = .ok (.aload_n 0, 1) := by decide +kernel
theorem dX8_restore_25 : decode cX8_restore 25 = .ok (.getfield 39, 3) := by decide +kernel
theorem dX8_restore_28 : decode cX8_restore 28 = .ok (.astore_n 2, 1) := by decide +kernel
theorem dX8_restore_29 : decode cX8_restore 29 = .ok (.aload_n 2, 1) := by decide +kernel
theorem dX8_restore_30 : decode cX8_restore 30 = .ok (.getfield 211, 3) := by decide +kernel
theorem dX8_restore_33 : decode cX8_restore 33 = .ok (.ifCond .ne 7, 3) := by decide +kernel
theorem dX8_restore_36 : decode cX8_restore 36 = .ok (.sipush (-1003), 3) := by decide +kernel
theorem dX8_restore_39 : decode cX8_restore 39 = .ok (.ireturn, 1) := by decide +kernel
theorem dX8_restore_40 : decode cX8_restore 40 = .ok (.aload_n 0, 1) := by decide +kernel
theorem dX8_restore_41 : decode cX8_restore 41 = .ok (.aload_n 2, 1) := by decide +kernel
theorem dX8_restore_42 : decode cX8_restore 42 = .ok (.getfield 215, 3) := by decide +kernel
theorem dX8_restore_45 : decode cX8_restore 45 = .ok (.putfield 56, 3) := by decide +kernel
theorem dX8_restore_48 : decode cX8_restore 48 = .ok (.aload_n 0, 1) := by decide +kernel
theorem dX8_restore_49 : decode cX8_restore 49 = .ok (.getfield 21, 3) := by decide +kernel
theorem dX8_restore_52 : decode cX8_restore 52 = .ok (.aload_n 2, 1) := by decide +kernel
theorem dX8_restore_53 : decode cX8_restore 53 = .ok (.getfield 216, 3) := by decide +kernel
theorem dX8_restore_56 : decode cX8_restore 56 = .ok (.invokevirtual 217, 3) := by decide +kernel
theorem dX8_restore_59 : decode cX8_restore 59 = .ok (.aload_n 0, 1) := by decide +kernel
theorem dX8_restore_60 : decode cX8_restore 60 = .ok (.getfield 28, 3) := by decide +kernel
theorem dX8_restore_63 : decode cX8_restore 63 = .ok (.iconst 0, 1) := by decide +kernel
theorem dX8_restore_64 : decode cX8_restore 64 = .ok (.putfield 166, 3) := by decide +kernel
theorem dX8_restore_67 : decode cX8_restore 67 = .ok (.aload_n 0, 1) := by decide +kernel
theorem dX8_restore_68 : decode cX8_restore 68 = .ok (.getfield 21, 3) := by decide +kernel
theorem dX8_restore_71 : decode cX8_restore 71 = .ok (.getfield 96, 3) := by decide +kernel
theorem dX8_restore_74 : decode cX8_restore 74 = .ok (.ireturn, 1) := by decide +kernel
theorem dX8_checksum_0 : decode cX8_checksum 0 = .ok (.ldc2_w 220, 3) := by decide +kernel
theorem dX8_checksum_3 : decode cX8_checksum 3 = .ok (.aload_n 0, 1) := by decide +kernel
theorem dX8_checksum_4 : decode cX8_checksum 4 = .ok (.getfield 21, 3) := by decide +kernel
theorem dX8_checksum_7 : decode cX8_checksum 7 = .ok (.getfield 73, 3) := by decide +kernel
theorem dX8_checksum_10 : decode cX8_checksum 10 = .ok (.getfield 60, 3) := by decide +kernel
theorem dX8_checksum_13 : decode cX8_checksum 13 = .ok (.invokestatic 222, 3) := by decide +kernel
theorem dX8_checksum_16 : decode cX8_checksum 16 = .ok (.lstore_n 1, 1) := by decide +kernel
theorem dX8_checksum_17 : decode cX8_checksum 17 = .ok (.lload_n 1, 1) := by decide +kernel
theorem dX8_checksum_18 : decode cX8_checksum 18 = .ok (.aload_n 0, 1) := by decide +kernel
theorem dX8_checksum_19 : decode cX8_checksum 19 = .ok (.getfield 21, 3) := by decide +kernel
theorem dX8_checksum_22 : decode cX8_checksum 22 = .ok (.getfield 73, 3) := by decide +kernel
theorem dX8_checksum_25 : decode cX8_checksum 25 = .ok (.invokestatic 226, 3) := by decide +kernel
theorem dX8_checksum_28 : decode cX8_checksum 28 = .ok (.lstore_n 1, 1) := by decide +kernel
theorem dX8_checksum_29 : decode cX8_checksum 29 = .ok (.lload_n 1, 1) := by decide +kernel
theorem dX8_checksum_30 : decode cX8_checksum 30 = .ok (.aload_n 0, 1) := by decide +kernel
theorem dX8_checksum_31 : decode cX8_checksum 31 = .ok (.getfield 21, 3) := by decide +kernel
theorem dX8_checksum_34 : decode cX8_checksum 34 = .ok (.getfield 96, 3) := by decide +kernel
theorem dX8_checksum_37 : decode cX8_checksum 37 = .ok (.invokestatic 222, 3) := by decide +kernel
theorem dX8_checksum_40 : decode cX8_checksum 40 = .ok (.lstore_n 1, 1) := by decide +kernel
theorem dX8_checksum_41 : decode cX8_checksum 41 = .ok (.iconst 0, 1) := by decide +kernel
theorem dX8_checksum_42 : decode cX8_checksum 42 = .ok (.istore_n 3, 1) := by decide +kernel
theorem dX8_checksum_43 : decode cX8_checksum 43 = .ok (.iload_n 3, 1) := by decide +kernel
theorem dX8_checksum_44 : decode cX8_checksum 44 = .ok (.aload_n 0, 1) := by decide +kernel
theorem dX8_checksum_45 : decode cX8_checksum 45 = .ok (.getfield 21, 3) := by decide +kernel
theorem dX8_checksum_48 : decode cX8_checksum 48 = .ok (.getfield 96, 3) := by decide +kernel
theorem dX8_checksum_51 : decode cX8_checksum 51 = .ok (.if_icmp .ge 36, 3) := by decide +kernel
theorem dX8_checksum_54 : decode cX8_checksum 54 = .ok (.iload_n 3, 1) := by decide +kernel
theorem dX8_checksum_55 : decode cX8_checksum 55 = .ok (.aload_n 0, 1) := by decide +kernel
theorem dX8_checksum_56 : decode cX8_checksum 56 = .ok (.getfield 21, 3) := by decide +kernel
theorem dX8_checksum_59 : decode cX8_checksum 59 = .ok (.getfield 176, 3) := by decide +kernel
theorem dX8_checksum_62 : decode cX8_checksum 62 = .ok (.arraylength, 1) := by decide +kernel
theorem dX8_checksum_63 : decode cX8_checksum 63 = .ok (.if_icmp .ge 24, 3) := by decide +kernel
theorem dX8_checksum_66 : decode cX8_checksum 66 = .ok (.aload_n 0, 1) := by decide +kernel
theorem dX8_checksum_67 : decode cX8_checksum 67 = .ok (.lload_n 1, 1) := by decide +kernel
theorem dX8_checksum_68 : decode cX8_checksum 68 = .ok (.aload_n 0, 1) := by decide +kernel
theorem dX8_checksum_69 : decode cX8_checksum 69 = .ok (.getfield 21, 3) := by decide +kernel
theorem dX8_checksum_72 : decode cX8_checksum 72 = .ok (.getfield 176, 3) := by decide +kernel
theorem dX8_checksum_75 : decode cX8_checksum 75 = .ok (.iload_n 3, 1) := by decide +kernel
theorem dX8_checksum_76 : decode cX8_checksum 76 = .ok (.aaload, 1) := by decide +kernel
theorem dX8_checksum_77 : decode cX8_checksum 77 = .ok (.invokevirtual 230, 3) := by decide +kernel
theorem dX8_checksum_80 : decode cX8_checksum 80 = .ok (.lstore_n 1, 1) := by decide +kernel
theorem dX8_checksum_81 : decode cX8_checksum 81 = .ok (.iinc 3 1, 3) := by decide +kernel
theorem dX8_checksum_84 : decode cX8_checksum 84 = .ok (.goto (-41), 3) := by decide +kernel
theorem dX8_checksum_87 : decode cX8_checksum 87 = .ok (.lload_n 1, 1) := by decide +kernel
theorem dX8_checksum_88 : decode cX8_checksum 88 = .ok (.lreturn, 1) := by decide +kernel
theorem dX8_mixNote_0 : decode cX8_mixNote 0 = .ok (.lload_n 1, 1) := by decide +kernel
theorem dX8_mixNote_1 : decode cX8_mixNote 1 = .ok (.aload_n 3, 1) := by decide +kernel
theorem dX8_mixNote_2 : decode cX8_mixNote 2 = .ok (.getfield 180, 3) := by decide +kernel
theorem dX8_mixNote_5 : decode cX8_mixNote 5 = .ok (.invokestatic 222, 3) := by decide +kernel
theorem dX8_mixNote_8 : decode cX8_mixNote 8 = .ok (.lstore 4, 2) := by decide +kernel
theorem dX8_mixNote_10 : decode cX8_mixNote 10 = .ok (.lload 4, 2) := by decide +kernel
theorem dX8_mixNote_12 : decode cX8_mixNote 12 = .ok (.aload_n 3, 1) := by decide +kernel
theorem dX8_mixNote_13 : decode cX8_mixNote 13 = .ok (.getfield 113, 3) := by decide +kernel
theorem dX8_mixNote_16 : decode cX8_mixNote 16 = .ok (.invokestatic 222, 3) := by decide +kernel
theorem dX8_mixNote_19 : decode cX8_mixNote 19 = .ok (.lstore 4, 2) := by decide +kernel
theorem dX8_mixNote_21 : decode cX8_mixNote 21 = .ok (.lload 4, 2) := by decide +kernel
theorem dX8_mixNote_23 : decode cX8_mixNote 23 = .ok (.aload_n 3, 1) := by decide +kernel
theorem dX8_mixNote_24 : decode cX8_mixNote 24 = .ok (.getfield 121, 3) := by decide +kernel
theorem dX8_mixNote_27 : decode cX8_mixNote 27 = .ok (.invokestatic 222, 3) := by decide +kernel
theorem dX8_mixNote_30 : decode cX8_mixNote 30 = .ok (.lstore 4, 2) := by decide +kernel
theorem dX8_mixNote_32 : decode cX8_mixNote 32 = .ok (.lload 4, 2) := by decide +kernel
theorem dX8_mixNote_34 : decode cX8_mixNote 34 = .ok (.aload_n 3, 1) := by decide +kernel
theorem dX8_mixNote_35 : decode cX8_mixNote 35 = .ok (.getfield 118, 3) := by decide +kernel
theorem dX8_mixNote_38 : decode cX8_mixNote 38 = .ok (.invokestatic 222, 3) := by decide +kernel
theorem dX8_mixNote_41 : decode cX8_mixNote 41 = .ok (.lstore 4, 2) := by decide +kernel
theorem dX8_mixNote_43 : decode cX8_mixNote 43 = .ok (.lload 4, 2) := by decide +kernel
theorem dX8_mixNote_45 : decode cX8_mixNote 45 = .ok (.aload_n 3, 1) := by decide +kernel
theorem dX8_mixNote_46 : decode cX8_mixNote 46 = .ok (.getfield 183, 3) := by decide +kernel
theorem dX8_mixNote_49 : decode cX8_mixNote 49 = .ok (.invokestatic 222, 3) := by decide +kernel
theorem dX8_mixNote_52 : decode cX8_mixNote 52 = .ok (.lstore 4, 2) := by decide +kernel
theorem dX8_mixNote_54 : decode cX8_mixNote 54 = .ok (.lload 4, 2) := by decide +kernel
theorem dX8_mixNote_56 : decode cX8_mixNote 56 = .ok (.aload_n 3, 1) := by decide +kernel
theorem dX8_mixNote_57 : decode cX8_mixNote 57 = .ok (.getfield 186, 3) := by decide +kernel
theorem dX8_mixNote_60 : decode cX8_mixNote 60 = .ok (.invokestatic 226, 3) := by decide +kernel
theorem dX8_mixNote_63 : decode cX8_mixNote 63 = .ok (.lstore 4, 2) := by decide +kernel
theorem dX8_mixNote_65 : decode cX8_mixNote 65 = .ok (.lload 4, 2) := by decide +kernel
theorem dX8_mixNote_67 : decode cX8_mixNote 67 = .ok (.aload_n 3, 1) := by decide +kernel
theorem dX8_mixNote_68 : decode cX8_mixNote 68 = .ok (.getfield 127, 3) := by decide +kernel
theorem dX8_mixNote_71 : decode cX8_mixNote 71 = .ok (.invokestatic 226, 3) := by decide +kernel
theorem dX8_mixNote_74 : decode cX8_mixNote 74 = .ok (.lstore 4, 2) := by decide +kernel
theorem dX8_mixNote_76 : decode cX8_mixNote 76 = .ok (.lload 4, 2) := by decide +kernel
theorem dX8_mixNote_78 : decode cX8_mixNote 78 = .ok (.aload_n 3, 1) := by decide +kernel
theorem dX8_mixNote_79 : decode cX8_mixNote 79 = .ok (.getfield 189, 3) := by decide +kernel
theorem dX8_mixNote_82 : decode cX8_mixNote 82 = .ok (.invokestatic 226, 3) := by decide +kernel
theorem dX8_mixNote_85 : decode cX8_mixNote 85 = .ok (.lstore 4, 2) := by decide +kernel
theorem dX8_mixNote_87 : decode cX8_mixNote 87 = .ok (.aload_n 0, 1) := by decide +kernel
theorem dX8_mixNote_88 : decode cX8_mixNote 88 = .ok (.getfield 45, 3) := by decide +kernel
theorem dX8_mixNote_91 : decode cX8_mixNote 91 = .ok (.aload_n 3, 1) := by decide +kernel
theorem dX8_mixNote_92 : decode cX8_mixNote 92 = .ok (.aload_n 0, 1) := by decide +kernel
theorem dX8_mixNote_93 : decode cX8_mixNote 93 = .ok (.getfield 21, 3) := by decide +kernel
theorem dX8_mixNote_96 : decode cX8_mixNote 96 = .ok (.getfield 73, 3) := by decide +kernel
theorem dX8_mixNote_99 : decode cX8_mixNote 99 = .ok (.invokevirtual 130, 3) := by decide +kernel
theorem dX8_mixNote_102 : decode cX8_mixNote 102 = .ok (.lload 4, 2) := by decide +kernel
theorem dX8_mixNote_104 : decode cX8_mixNote 104 = .ok (.aload_n 0, 1) := by decide +kernel
theorem dX8_mixNote_105 : decode cX8_mixNote 105 = .ok (.getfield 45, 3) := by decide +kernel
theorem dX8_mixNote_108 : decode cX8_mixNote 108 = .ok (.getfield 134, 3) := by decide +kernel
theorem dX8_mixNote_111 : decode cX8_mixNote 111 = .ok (.invokestatic 222, 3) := by decide +kernel
theorem dX8_mixNote_114 : decode cX8_mixNote 114 = .ok (.lstore 4, 2) := by decide +kernel
theorem dX8_mixNote_116 : decode cX8_mixNote 116 = .ok (.lload 4, 2) := by decide +kernel
theorem dX8_mixNote_118 : decode cX8_mixNote 118 = .ok (.aload_n 0, 1) := by decide +kernel
theorem dX8_mixNote_119 : decode cX8_mixNote 119 = .ok (.getfield 45, 3) := by decide +kernel
theorem dX8_mixNote_122 : decode cX8_mixNote 122 = .ok (.getfield 137, 3) := by decide +kernel
theorem dX8_mixNote_125 : decode cX8_mixNote 125 = .ok (.invokestatic 222, 3) := by decide +kernel
theorem dX8_mixNote_128 : decode cX8_mixNote 128 = .ok (.lstore 4, 2) := by decide +kernel
theorem dX8_mixNote_130 : decode cX8_mixNote 130 = .ok (.lload 4, 2) := by decide +kernel
theorem dX8_mixNote_132 : decode cX8_mixNote 132 = .ok (.aload_n 0, 1) := by decide +kernel
theorem dX8_mixNote_133 : decode cX8_mixNote 133 = .ok (.getfield 45, 3) := by decide +kernel
theorem dX8_mixNote_136 : decode cX8_mixNote 136 = .ok (.getfield 140, 3) := by decide +kernel
theorem dX8_mixNote_139 : decode cX8_mixNote 139 = .ok (.invokestatic 222, 3) := by decide +kernel
theorem dX8_mixNote_142 : decode cX8_mixNote 142 = .ok (.lreturn, 1) := by decide +kernel
theorem dX8_mixText_0 : decode cX8_mixText 0 = .ok (.lload_n 0, 1) := by decide +kernel
theorem dX8_mixText_1 : decode cX8_mixText 1 = .ok (.lstore_n 3, 1) := by decide +kernel
theorem dX8_mixText_2 : decode cX8_mixText 2 = .ok (.iconst 0, 1) := by decide +kernel
theorem dX8_mixText_3 : decode cX8_mixText 3 = .ok (.istore 5, 2) := by decide +kernel
theorem dX8_mixText_5 : decode cX8_mixText 5 = .ok (.iload 5, 2) := by decide +kernel
theorem dX8_mixText_7 : decode cX8_mixText 7 = .ok (.aload_n 2, 1) := by decide +kernel
theorem dX8_mixText_8 : decode cX8_mixText 8 = .ok (.getfield 60, 3) := by decide +kernel
theorem dX8_mixText_11 : decode cX8_mixText 11 = .ok (.if_icmp .ge 20, 3) := by decide +kernel
theorem dX8_mixText_14 : decode cX8_mixText 14 = .ok (.lload_n 3, 1) := by decide +kernel
theorem dX8_mixText_15 : decode cX8_mixText 15 = .ok (.aload_n 2, 1) := by decide +kernel
theorem dX8_mixText_16 : decode cX8_mixText 16 = .ok (.iload 5, 2) := by decide +kernel
theorem dX8_mixText_18 : decode cX8_mixText 18 = .ok (.invokevirtual 173, 3) := by decide +kernel
theorem dX8_mixText_21 : decode cX8_mixText 21 = .ok (.invokestatic 222, 3) := by decide +kernel
theorem dX8_mixText_24 : decode cX8_mixText 24 = .ok (.lstore_n 3, 1) := by decide +kernel
theorem dX8_mixText_25 : decode cX8_mixText 25 = .ok (.iinc 5 1, 3) := by decide +kernel
theorem dX8_mixText_28 : decode cX8_mixText 28 = .ok (.goto (-23), 3) := by decide +kernel
theorem dX8_mixText_31 : decode cX8_mixText 31 = .ok (.lload_n 3, 1) := by decide +kernel
theorem dX8_mixText_32 : decode cX8_mixText 32 = .ok (.lreturn, 1) := by decide +kernel
theorem dX8_mix_0 : decode cX8_mix 0 = .ok (.ldc2_w 234, 3) := by decide +kernel
theorem dX8_mix_3 : decode cX8_mix 3 = .ok (.lload_n 0, 1) := by decide +kernel
theorem dX8_mix_4 : decode cX8_mix 4 = .ok (.lmul, 1) := by decide +kernel
theorem dX8_mix_5 : decode cX8_mix 5 = .ok (.iload_n 2, 1) := by decide +kernel
theorem dX8_mix_6 : decode cX8_mix 6 = .ok (.i2l, 1) := by decide +kernel
theorem dX8_mix_7 : decode cX8_mix 7 = .ok (.ladd, 1) := by decide +kernel
theorem dX8_mix_8 : decode cX8_mix 8 = .ok (.lreturn, 1) := by decide +kernel
theorem dX8_isPosition_0 : decode cX8_isPosition 0 = .ok (.iload_n 1, 1) := by decide +kernel
theorem dX8_isPosition_1 : decode cX8_isPosition 1 = .ok (.ifCond .lt 21, 3) := by decide +kernel
theorem dX8_isPosition_4 : decode cX8_isPosition 4 = .ok (.iload_n 1, 1) := by decide +kernel
theorem dX8_isPosition_5 : decode cX8_isPosition 5 = .ok (.aload_n 0, 1) := by decide +kernel
theorem dX8_isPosition_6 : decode cX8_isPosition 6 = .ok (.getfield 21, 3) := by decide +kernel
theorem dX8_isPosition_9 : decode cX8_isPosition 9 = .ok (.getfield 73, 3) := by decide +kernel
theorem dX8_isPosition_12 : decode cX8_isPosition 12 = .ok (.getfield 60, 3) := by decide +kernel
theorem dX8_isPosition_15 : decode cX8_isPosition 15 = .ok (.if_icmp .gt 7, 3) := by decide +kernel
theorem dX8_isPosition_18 : decode cX8_isPosition 18 = .ok (.iconst 1, 1) := by decide +kernel
theorem dX8_isPosition_19 : decode cX8_isPosition 19 = .ok (.goto 4, 3) := by decide +kernel
theorem dX8_isPosition_22 : decode cX8_isPosition 22 = .ok (.iconst 0, 1) := by decide +kernel
theorem dX8_isPosition_23 : decode cX8_isPosition 23 = .ok (.ireturn, 1) := by decide +kernel
theorem dX8_isLetterIndex_0 : decode cX8_isLetterIndex 0 = .ok (.iload_n 1, 1) := by decide +kernel
theorem dX8_isLetterIndex_1 : decode cX8_isLetterIndex 1 = .ok (.ifCond .lt 21, 3) := by decide +kernel
theorem dX8_isLetterIndex_4 : decode cX8_isLetterIndex 4 = .ok (.iload_n 1, 1) := by decide +kernel
theorem dX8_isLetterIndex_5 : decode cX8_isLetterIndex 5 = .ok (.aload_n 0, 1) := by decide +kernel
theorem dX8_isLetterIndex_6 : decode cX8_isLetterIndex 6 = .ok (.getfield 21, 3) := by decide +kernel
theorem dX8_isLetterIndex_9 : decode cX8_isLetterIndex 9 = .ok (.getfield 73, 3) := by decide +kernel
theorem dX8_isLetterIndex_12 : decode cX8_isLetterIndex 12 = .ok (.getfield 60, 3) := by decide +kernel
theorem dX8_isLetterIndex_15 : decode cX8_isLetterIndex 15 = .ok (.if_icmp .ge 7, 3) := by decide +kernel
theorem dX8_isLetterIndex_18 : decode cX8_isLetterIndex 18 = .ok (.iconst 1, 1) := by decide +kernel
theorem dX8_isLetterIndex_19 : decode cX8_isLetterIndex 19 = .ok (.goto 4, 3) := by decide +kernel
theorem dX8_isLetterIndex_22 : decode cX8_isLetterIndex 22 = .ok (.iconst 0, 1) := by decide +kernel
theorem dX8_isLetterIndex_23 : decode cX8_isLetterIndex 23 = .ok (.ireturn, 1) := by decide +kernel
theorem dX8_isRange_0 : decode cX8_isRange 0 = .ok (.iload_n 2, 1) := by decide +kernel
theorem dX8_isRange_1 : decode cX8_isRange 1 = .ok (.iload_n 1, 1) := by decide +kernel
theorem dX8_isRange_2 : decode cX8_isRange 2 = .ok (.if_icmp .le 28, 3) := by decide +kernel
theorem dX8_isRange_5 : decode cX8_isRange 5 = .ok (.iload_n 2, 1) := by decide +kernel
theorem dX8_isRange_6 : decode cX8_isRange 6 = .ok (.aload_n 0, 1) := by decide +kernel
theorem dX8_isRange_7 : decode cX8_isRange 7 = .ok (.getfield 21, 3) := by decide +kernel
theorem dX8_isRange_10 : decode cX8_isRange 10 = .ok (.getfield 73, 3) := by decide +kernel
theorem dX8_isRange_13 : decode cX8_isRange 13 = .ok (.getfield 60, 3) := by decide +kernel
theorem dX8_isRange_16 : decode cX8_isRange 16 = .ok (.if_icmp .gt 14, 3) := by decide +kernel
theorem dX8_isRange_19 : decode cX8_isRange 19 = .ok (.iload_n 2, 1) := by decide +kernel
theorem dX8_isRange_20 : decode cX8_isRange 20 = .ok (.iload_n 1, 1) := by decide +kernel
theorem dX8_isRange_21 : decode cX8_isRange 21 = .ok (.isub, 1) := by decide +kernel
theorem dX8_isRange_22 : decode cX8_isRange 22 = .ok (.iload_n 3, 1) := by decide +kernel
theorem dX8_isRange_23 : decode cX8_isRange 23 = .ok (.if_icmp .gt 7, 3) := by decide +kernel
theorem dX8_isRange_26 : decode cX8_isRange 26 = .ok (.iconst 1, 1) := by decide +kernel
theorem dX8_isRange_27 : decode cX8_isRange 27 = .ok (.goto 4, 3) := by decide +kernel
theorem dX8_isRange_30 : decode cX8_isRange 30 = .ok (.iconst 0, 1) := by decide +kernel
theorem dX8_isRange_31 : decode cX8_isRange 31 = .ok (.ireturn, 1) := by decide +kernel
theorem dX9_init_0 : decode cX9_init 0 = .ok (.aload_n 0, 1) := by decide +kernel
theorem dX9_init_1 : decode cX9_init 1 = .ok (.invokespecial 1, 3) := by decide +kernel
theorem dX9_init_4 : decode cX9_init 4 = .ok (.aload_n 0, 1) := by decide +kernel
theorem dX9_init_5 : decode cX9_init 5 = .ok (.sipush 483, 3) := by decide +kernel
theorem dX9_init_8 : decode cX9_init 8 = .ok (.newarray .int, 2) := by decide +kernel
theorem dX9_init_10 : decode cX9_init 10 = .ok (.putfield 7, 3) := by decide +kernel
theorem dX9_init_13 : decode cX9_init 13 = .ok (.aload_n 0, 1) := by decide +kernel
theorem dX9_init_14 : decode cX9_init 14 = .ok (.sipush 483, 3) := by decide +kernel
theorem dX9_init_17 : decode cX9_init 17 = .ok (.newarray .int, 2) := by decide +kernel
theorem dX9_init_19 : decode cX9_init 19 = .ok (.putfield 13, 3) := by decide +kernel
theorem dX9_init_22 : decode cX9_init 22 = .ok (.aload_n 0, 1) := by decide +kernel
theorem dX9_init_23 : decode cX9_init 23 = .ok (.sipush 2898, 3) := by decide +kernel
theorem dX9_init_26 : decode cX9_init 26 = .ok (.newarray .int, 2) := by decide +kernel
theorem dX9_init_28 : decode cX9_init 28 = .ok (.putfield 16, 3) := by decide +kernel
theorem dX9_init_31 : decode cX9_init 31 = .ok (.aload_n 0, 1) := by decide +kernel
theorem dX9_init_32 : decode cX9_init 32 = .ok (.sipush 968, 3) := by decide +kernel
theorem dX9_init_35 : decode cX9_init 35 = .ok (.newarray .int, 2) := by decide +kernel
theorem dX9_init_37 : decode cX9_init 37 = .ok (.putfield 19, 3) := by decide +kernel
theorem dX9_init_40 : decode cX9_init 40 = .ok (.aload_n 0, 1) := by decide +kernel
theorem dX9_init_41 : decode cX9_init 41 = .ok (.iconst 2, 1) := by decide +kernel
theorem dX9_init_42 : decode cX9_init 42 = .ok (.newarray .boolean, 2) := by decide +kernel
theorem dX9_init_44 : decode cX9_init 44 = .ok (.putfield 22, 3) := by decide +kernel
theorem dX9_init_47 : decode cX9_init 47 = .ok (.aload_n 0, 1) := by decide +kernel
theorem dX9_init_48 : decode cX9_init 48 = .ok (.bipush 60, 2) := by decide +kernel
theorem dX9_init_50 : decode cX9_init 50 = .ok (.putfield 26, 3) := by decide +kernel
theorem dX9_init_53 : decode cX9_init 53 = .ok (.aload_n 0, 1) := by decide +kernel
theorem dX9_init_54 : decode cX9_init 54 = .ok (.bipush 40, 2) := by decide +kernel
theorem dX9_init_56 : decode cX9_init 56 = .ok (.newarray .int, 2) := by decide +kernel
theorem dX9_init_58 : decode cX9_init 58 = .ok (.putfield 30, 3) := by decide +kernel
theorem dX9_init_61 : decode cX9_init 61 = .ok (.aload_n 0, 1) := by decide +kernel
theorem dX9_init_62 : decode cX9_init 62 = .ok (.bipush 17, 2) := by decide +kernel
theorem dX9_init_64 : decode cX9_init 64 = .ok (.newarray .int, 2) := by decide +kernel
theorem dX9_init_66 : decode cX9_init 66 = .ok (.putfield 33, 3) := by decide +kernel
theorem dX9_init_69 : decode cX9_init 69 = .ok (.aload_n 0, 1) := by decide +kernel
theorem dX9_init_70 : decode cX9_init 70 = .ok (.bipush 10, 2) := by decide +kernel
theorem dX9_init_72 : decode cX9_init 72 = .ok (.newarray .int, 2) := by decide +kernel
theorem dX9_init_74 : decode cX9_init 74 = .ok (.putfield 36, 3) := by decide +kernel
theorem dX9_init_77 : decode cX9_init 77 = .ok (.aload_n 0, 1) := by decide +kernel
theorem dX9_init_78 : decode cX9_init 78 = .ok (.sipush 1210, 3) := by decide +kernel
theorem dX9_init_81 : decode cX9_init 81 = .ok (.newarray .int, 2) := by decide +kernel
theorem dX9_init_83 : decode cX9_init 83 = .ok (.putfield 39, 3) := by decide +kernel
theorem dX9_init_86 : decode cX9_init 86 = .ok (.aload_n 0, 1) := by decide +kernel
theorem dX9_init_87 : decode cX9_init 87 = .ok (.sipush 1210, 3) := by decide +kernel
theorem dX9_init_90 : decode cX9_init 90 = .ok (.newarray .int, 2) := by decide +kernel
theorem dX9_init_92 : decode cX9_init 92 = .ok (.putfield 42, 3) := by decide +kernel
theorem dX9_init_95 : decode cX9_init 95 = .ok (.aload_n 0, 1) := by decide +kernel
theorem dX9_init_96 : decode cX9_init 96 = .ok (.sipush 1331, 3) := by decide +kernel
theorem dX9_init_99 : decode cX9_init 99 = .ok (.newarray .int, 2) := by decide +kernel
theorem dX9_init_101 : decode cX9_init 101 = .ok (.putfield 45, 3) := by decide +kernel
theorem dX9_init_104 : decode cX9_init 104 = .ok (.return_, 1) := by decide +kernel
theorem dX9_in_0 : decode cX9_in 0 = .ok (.iload_n 0, 1) := by decide +kernel
theorem dX9_in_1 : decode cX9_in 1 = .ok (.iload_n 1, 1) := by decide +kernel
theorem dX9_in_2 : decode cX9_in 2 = .ok (.if_icmp .lt 12, 3) := by decide +kernel
theorem dX9_in_5 : decode cX9_in 5 = .ok (.iload_n 0, 1) := by decide +kernel
theorem dX9_in_6 : decode cX9_in 6 = .ok (.iload_n 2, 1) := by decide +kernel
theorem dX9_in_7 : decode cX9_in 7 = .ok (.if_icmp .gt 7, 3) := by decide +kernel
theorem dX9_in_10 : decode cX9_in 10 = .ok (.iconst 1, 1) := by decide +kernel
theorem dX9_in_11 : decode cX9_in 11 = .ok (.goto 4, 3) := by decide +kernel
theorem dX9_in_14 : decode cX9_in 14 = .ok (.iconst 0, 1) := by decide +kernel
theorem dX9_in_15 : decode cX9_in 15 = .ok (.ireturn, 1) := by decide +kernel
theorem dX9_least_0 : decode cX9_least 0 = .ok (.iload_n 0, 1) := by decide +kernel
theorem dX9_least_1 : decode cX9_least 1 = .ok (.iload_n 1, 1) := by decide +kernel
theorem dX9_least_2 : decode cX9_least 2 = .ok (.if_icmp .ge 7, 3) := by decide +kernel
theorem dX9_least_5 : decode cX9_least 5 = .ok (.iload_n 0, 1) := by decide +kernel
theorem dX9_least_6 : decode cX9_least 6 = .ok (.goto 4, 3) := by decide +kernel
theorem dX9_least_9 : decode cX9_least 9 = .ok (.iload_n 1, 1) := by decide +kernel
theorem dX9_least_10 : decode cX9_least 10 = .ok (.ireturn, 1) := by decide +kernel
theorem dX9_at_0 : decode cX9_at 0 = .ok (.bipush 123, 2) := by decide +kernel
theorem dX9_at_2 : decode cX9_at 2 = .ok (.bipush 36, 2) := by decide +kernel
theorem dX9_at_4 : decode cX9_at 4 = .ok (.iload_n 0, 1) := by decide +kernel
theorem dX9_at_5 : decode cX9_at 5 = .ok (.imul, 1) := by decide +kernel
theorem dX9_at_6 : decode cX9_at 6 = .ok (.iadd, 1) := by decide +kernel
theorem dX9_at_7 : decode cX9_at 7 = .ok (.iload_n 1, 1) := by decide +kernel
theorem dX9_at_8 : decode cX9_at 8 = .ok (.iadd, 1) := by decide +kernel
theorem dX9_at_9 : decode cX9_at 9 = .ok (.ireturn, 1) := by decide +kernel
theorem dX9_find_0 : decode cX9_find 0 = .ok (.iconst 0, 1) := by decide +kernel
theorem dX9_find_1 : decode cX9_find 1 = .ok (.istore_n 2, 1) := by decide +kernel
theorem dX9_find_2 : decode cX9_find 2 = .ok (.iload_n 2, 1) := by decide +kernel
theorem dX9_find_3 : decode cX9_find 3 = .ok (.aload_n 0, 1) := by decide +kernel
theorem dX9_find_4 : decode cX9_find 4 = .ok (.getfield 7, 3) := by decide +kernel
theorem dX9_find_7 : decode cX9_find 7 = .ok (.bipush 122, 2) := by decide +kernel
theorem dX9_find_9 : decode cX9_find 9 = .ok (.iaload, 1) := by decide +kernel
theorem dX9_find_10 : decode cX9_find 10 = .ok (.if_icmp .ge 25, 3) := by decide +kernel
theorem dX9_find_13 : decode cX9_find 13 = .ok (.aload_n 0, 1) := by decide +kernel
theorem dX9_find_14 : decode cX9_find 14 = .ok (.getfield 7, 3) := by decide +kernel
theorem dX9_find_17 : decode cX9_find 17 = .ok (.iload_n 2, 1) := by decide +kernel
theorem dX9_find_18 : decode cX9_find 18 = .ok (.iconst 0, 1) := by decide +kernel
theorem dX9_find_19 : decode cX9_find 19 = .ok (.invokestatic 48, 3) := by decide +kernel
theorem dX9_find_22 : decode cX9_find 22 = .ok (.iaload, 1) := by decide +kernel
theorem dX9_find_23 : decode cX9_find 23 = .ok (.iload_n 1, 1) := by decide +kernel
theorem dX9_find_24 : decode cX9_find 24 = .ok (.if_icmp .ne 5, 3) := by decide +kernel
theorem dX9_find_27 : decode cX9_find 27 = .ok (.iload_n 2, 1) := by decide +kernel
theorem dX9_find_28 : decode cX9_find 28 = .ok (.ireturn, 1) := by decide +kernel
theorem dX9_find_29 : decode cX9_find 29 = .ok (.iinc 2 1, 3) := by decide +kernel
theorem dX9_find_32 : decode cX9_find 32 = .ok (.goto (-30), 3) := by decide +kernel
theorem dX9_find_35 : decode cX9_find 35 = .ok (.iconst (-1), 1) := by decide +kernel
theorem dX9_find_36 : decode cX9_find 36 = .ok (.ireturn, 1) := by decide +kernel
theorem dX9_isPosition_0 : decode cX9_isPosition 0 = .ok (.iload_n 1, 1) := by decide +kernel
theorem dX9_isPosition_1 : decode cX9_isPosition 1 = .ok (.iconst 0, 1) := by decide +kernel
theorem dX9_isPosition_2 : decode cX9_isPosition 2 = .ok (.aload_n 0, 1) := by decide +kernel
theorem dX9_isPosition_3 : decode cX9_isPosition 3 = .ok (.getfield 7, 3) := by decide +kernel
theorem dX9_isPosition_6 : decode cX9_isPosition 6 = .ok (.iconst 0, 1) := by decide +kernel
theorem dX9_isPosition_7 : decode cX9_isPosition 7 = .ok (.iaload, 1) := by decide +kernel
theorem dX9_isPosition_8 : decode cX9_isPosition 8 = .ok (.invokestatic 52, 3) := by decide +kernel
theorem dX9_isPosition_11 : decode cX9_isPosition 11 = .ok (.ireturn, 1) := by decide +kernel
theorem dX9_copies_0 : decode cX9_copies 0 = .ok (.iconst 0, 1) := by decide +kernel
theorem dX9_copies_1 : decode cX9_copies 1 = .ok (.istore 4, 2) := by decide +kernel
theorem dX9_copies_3 : decode cX9_copies 3 = .ok (.iload 4, 2) := by decide +kernel
theorem dX9_copies_5 : decode cX9_copies 5 = .ok (.sipush 483, 3) := by decide +kernel
theorem dX9_copies_8 : decode cX9_copies 8 = .ok (.if_icmp .ge 21, 3) := by decide +kernel
theorem dX9_copies_11 : decode cX9_copies 11 = .ok (.aload_n 2, 1) := by decide +kernel
theorem dX9_copies_12 : decode cX9_copies 12 = .ok (.iload_n 3, 1) := by decide +kernel
theorem dX9_copies_13 : decode cX9_copies 13 = .ok (.iload 4, 2) := by decide +kernel
theorem dX9_copies_15 : decode cX9_copies 15 = .ok (.iadd, 1) := by decide +kernel
theorem dX9_copies_16 : decode cX9_copies 16 = .ok (.aload_n 0, 1) := by decide +kernel
theorem dX9_copies_17 : decode cX9_copies 17 = .ok (.iload_n 1, 1) := by decide +kernel
theorem dX9_copies_18 : decode cX9_copies 18 = .ok (.iload 4, 2) := by decide +kernel
theorem dX9_copies_20 : decode cX9_copies 20 = .ok (.iadd, 1) := by decide +kernel
theorem dX9_copies_21 : decode cX9_copies 21 = .ok (.iaload, 1) := by decide +kernel
theorem dX9_copies_22 : decode cX9_copies 22 = .ok (.iastore, 1) := by decide +kernel
theorem dX9_copies_23 : decode cX9_copies 23 = .ok (.iinc 4 1, 3) := by decide +kernel
theorem dX9_copies_26 : decode cX9_copies 26 = .ok (.goto (-23), 3) := by decide +kernel
theorem dX9_copies_29 : decode cX9_copies 29 = .ok (.return_, 1) := by decide +kernel
theorem dX9_begins_0 : decode cX9_begins 0 = .ok (.aload_n 0, 1) := by decide +kernel
theorem dX9_begins_1 : decode cX9_begins 1 = .ok (.getfield 7, 3) := by decide +kernel
theorem dX9_begins_4 : decode cX9_begins 4 = .ok (.iconst 0, 1) := by decide +kernel
theorem dX9_begins_5 : decode cX9_begins 5 = .ok (.aload_n 0, 1) := by decide +kernel
theorem dX9_begins_6 : decode cX9_begins 6 = .ok (.getfield 13, 3) := by decide +kernel
theorem dX9_begins_9 : decode cX9_begins 9 = .ok (.iconst 0, 1) := by decide +kernel
theorem dX9_begins_10 : decode cX9_begins 10 = .ok (.invokestatic 56, 3) := by decide +kernel
theorem dX9_begins_13 : decode cX9_begins 13 = .ok (.return_, 1) := by decide +kernel
theorem dX9_made_0 : decode cX9_made 0 = .ok (.aload_n 0, 1) := by decide +kernel
theorem dX9_made_1 : decode cX9_made 1 = .ok (.getfield 60, 3) := by decide +kernel
theorem dX9_made_4 : decode cX9_made 4 = .ok (.bipush 6, 2) := by decide +kernel
theorem dX9_made_6 : decode cX9_made 6 = .ok (.if_icmp .ne 39, 3) := by decide +kernel
theorem dX9_made_9 : decode cX9_made 9 = .ok (.iconst 0, 1) := by decide +kernel
theorem dX9_made_10 : decode cX9_made 10 = .ok (.istore_n 2, 1) := by decide +kernel
theorem dX9_made_11 : decode cX9_made 11 = .ok (.iload_n 2, 1) := by decide +kernel
theorem dX9_made_12 : decode cX9_made 12 = .ok (.sipush 2415, 3) := by decide +kernel
theorem dX9_made_15 : decode cX9_made 15 = .ok (.if_icmp .ge 25, 3) := by decide +kernel
theorem dX9_made_18 : decode cX9_made 18 = .ok (.aload_n 0, 1) := by decide +kernel
theorem dX9_made_19 : decode cX9_made 19 = .ok (.getfield 16, 3) := by decide +kernel
theorem dX9_made_22 : decode cX9_made 22 = .ok (.iload_n 2, 1) := by decide +kernel
theorem dX9_made_23 : decode cX9_made 23 = .ok (.aload_n 0, 1) := by decide +kernel
theorem dX9_made_24 : decode cX9_made 24 = .ok (.getfield 16, 3) := by decide +kernel
theorem dX9_made_27 : decode cX9_made 27 = .ok (.iload_n 2, 1) := by decide +kernel
theorem dX9_made_28 : decode cX9_made 28 = .ok (.sipush 483, 3) := by decide +kernel
theorem dX9_made_31 : decode cX9_made 31 = .ok (.iadd, 1) := by decide +kernel
theorem dX9_made_32 : decode cX9_made 32 = .ok (.iaload, 1) := by decide +kernel
theorem dX9_made_33 : decode cX9_made 33 = .ok (.iastore, 1) := by decide +kernel
theorem dX9_made_34 : decode cX9_made 34 = .ok (.iinc 2 1, 3) := by decide +kernel
theorem dX9_made_37 : decode cX9_made 37 = .ok (.goto (-26), 3) := by decide +kernel
theorem dX9_made_40 : decode cX9_made 40 = .ok (.aload_n 0, 1) := by decide +kernel
theorem dX9_made_41 : decode cX9_made 41 = .ok (.iconst 5, 1) := by decide +kernel
theorem dX9_made_42 : decode cX9_made 42 = .ok (.putfield 60, 3) := by decide +kernel
theorem dX9_made_45 : decode cX9_made 45 = .ok (.aload_n 0, 1) := by decide +kernel
theorem dX9_made_46 : decode cX9_made 46 = .ok (.getfield 13, 3) := by decide +kernel
theorem dX9_made_49 : decode cX9_made 49 = .ok (.iconst 0, 1) := by decide +kernel
theorem dX9_made_50 : decode cX9_made 50 = .ok (.aload_n 0, 1) := by decide +kernel
theorem dX9_made_51 : decode cX9_made 51 = .ok (.getfield 16, 3) := by decide +kernel
theorem dX9_made_54 : decode cX9_made 54 = .ok (.sipush 483, 3) := by decide +kernel
theorem dX9_made_57 : decode cX9_made 57 = .ok (.aload_n 0, 1) := by decide +kernel
theorem dX9_made_58 : decode cX9_made 58 = .ok (.getfield 60, 3) := by decide +kernel
theorem dX9_made_61 : decode cX9_made 61 = .ok (.imul, 1) := by decide +kernel
theorem dX9_made_62 : decode cX9_made 62 = .ok (.invokestatic 56, 3) := by decide +kernel
theorem dX9_made_65 : decode cX9_made 65 = .ok (.aload_n 0, 1) := by decide +kernel
theorem dX9_made_66 : decode cX9_made 66 = .ok (.dup, 1) := by decide +kernel
theorem dX9_made_67 : decode cX9_made 67 = .ok (.getfield 60, 3) := by decide +kernel
theorem dX9_made_70 : decode cX9_made 70 = .ok (.iconst 1, 1) := by decide +kernel
theorem dX9_made_71 : decode cX9_made 71 = .ok (.iadd, 1) := by decide +kernel
theorem dX9_made_72 : decode cX9_made 72 = .ok (.putfield 60, 3) := by decide +kernel
theorem dX9_made_75 : decode cX9_made 75 = .ok (.iload_n 1, 1) := by decide +kernel
theorem dX9_made_76 : decode cX9_made 76 = .ok (.ireturn, 1) := by decide +kernel
theorem dX9_type_0 : decode cX9_type 0 = .ok (.iload_n 1, 1) := by decide +kernel
theorem dX9_type_1 : decode cX9_type 1 = .ok (.bipush 32, 2) := by decide +kernel
theorem dX9_type_3 : decode cX9_type 3 = .ok (.bipush 126, 2) := by decide +kernel
theorem dX9_type_5 : decode cX9_type 5 = .ok (.invokestatic 52, 3) := by decide +kernel
theorem dX9_type_8 : decode cX9_type 8 = .ok (.ifCond .ne 7, 3) := by decide +kernel
theorem dX9_type_11 : decode cX9_type 11 = .ok (.sipush (-1002), 3) := by decide +kernel
theorem dX9_type_14 : decode cX9_type 14 = .ok (.ireturn, 1) := by decide +kernel
theorem dX9_type_15 : decode cX9_type 15 = .ok (.aload_n 0, 1) := by decide +kernel
theorem dX9_type_16 : decode cX9_type 16 = .ok (.getfield 63, 3) := by decide +kernel
theorem dX9_type_19 : decode cX9_type 19 = .ok (.bipush 40, 2) := by decide +kernel
theorem dX9_type_21 : decode cX9_type 21 = .ok (.if_icmp .ne 7, 3) := by decide +kernel
theorem dX9_type_24 : decode cX9_type 24 = .ok (.sipush (-1004), 3) := by decide +kernel
theorem dX9_type_27 : decode cX9_type 27 = .ok (.ireturn, 1) := by decide +kernel
theorem dX9_type_28 : decode cX9_type 28 = .ok (.aload_n 0, 1) := by decide +kernel
theorem dX9_type_29 : decode cX9_type 29 = .ok (.getfield 30, 3) := by decide +kernel
end
section
theorem dX9_type_32 : decode cX9_type 32 = .ok (.aload_n 0, 1) := by decide +kernel
theorem dX9_type_33 : decode cX9_type 33 = .ok (.getfield 63, 3) := by decide +kernel
theorem dX9_type_36 : decode cX9_type 36 = .ok (.iload_n 1, 1) := by decide +kernel
theorem dX9_type_37 : decode cX9_type 37 = .ok (.iastore, 1) := by decide +kernel
theorem dX9_type_38 : decode cX9_type 38 = .ok (.aload_n 0, 1) := by decide +kernel
theorem dX9_type_39 : decode cX9_type 39 = .ok (.dup, 1) := by decide +kernel
theorem dX9_type_40 : decode cX9_type 40 = .ok (.getfield 63, 3) := by decide +kernel
theorem dX9_type_43 : decode cX9_type 43 = .ok (.iconst 1, 1) := by decide +kernel
theorem dX9_type_44 : decode cX9_type 44 = .ok (.iadd, 1) := by decide +kernel
theorem dX9_type_45 : decode cX9_type 45 = .ok (.putfield 63, 3) := by decide +kernel
theorem dX9_type_48 : decode cX9_type 48 = .ok (.aload_n 0, 1) := by decide +kernel
theorem dX9_type_49 : decode cX9_type 49 = .ok (.getfield 63, 3) := by decide +kernel
theorem dX9_type_52 : decode cX9_type 52 = .ok (.ireturn, 1) := by decide +kernel
theorem dX9_clearBuffer_0 : decode cX9_clearBuffer 0 = .ok (.aload_n 0, 1) := by decide +kernel
theorem dX9_clearBuffer_1 : decode cX9_clearBuffer 1 = .ok (.getfield 63, 3) := by decide +kernel
theorem dX9_clearBuffer_4 : decode cX9_clearBuffer 4 = .ok (.istore_n 1, 1) := by decide +kernel
theorem dX9_clearBuffer_5 : decode cX9_clearBuffer 5 = .ok (.aload_n 0, 1) := by decide +kernel
theorem dX9_clearBuffer_6 : decode cX9_clearBuffer 6 = .ok (.iconst 0, 1) := by decide +kernel
theorem dX9_clearBuffer_7 : decode cX9_clearBuffer 7 = .ok (.putfield 63, 3) := by decide +kernel
theorem dX9_clearBuffer_10 : decode cX9_clearBuffer 10 = .ok (.iload_n 1, 1) := by decide +kernel
theorem dX9_clearBuffer_11 : decode cX9_clearBuffer 11 = .ok (.ireturn, 1) := by decide +kernel
theorem dX9_load_0 : decode cX9_load 0 = .ok (.aload_n 0, 1) := by decide +kernel
theorem dX9_load_1 : decode cX9_load 1 = .ok (.invokevirtual 66, 3) := by decide +kernel
theorem dX9_load_4 : decode cX9_load 4 = .ok (.aload_n 0, 1) := by decide +kernel
theorem dX9_load_5 : decode cX9_load 5 = .ok (.getfield 7, 3) := by decide +kernel
theorem dX9_load_8 : decode cX9_load 8 = .ok (.iconst 0, 1) := by decide +kernel
theorem dX9_load_9 : decode cX9_load 9 = .ok (.iaload, 1) := by decide +kernel
theorem dX9_load_10 : decode cX9_load 10 = .ok (.istore_n 1, 1) := by decide +kernel
theorem dX9_load_11 : decode cX9_load 11 = .ok (.aload_n 0, 1) := by decide +kernel
theorem dX9_load_12 : decode cX9_load 12 = .ok (.getfield 7, 3) := by decide +kernel
theorem dX9_load_15 : decode cX9_load 15 = .ok (.iconst 0, 1) := by decide +kernel
theorem dX9_load_16 : decode cX9_load 16 = .ok (.aload_n 0, 1) := by decide +kernel
theorem dX9_load_17 : decode cX9_load 17 = .ok (.getfield 63, 3) := by decide +kernel
theorem dX9_load_20 : decode cX9_load 20 = .ok (.iastore, 1) := by decide +kernel
theorem dX9_load_21 : decode cX9_load 21 = .ok (.iconst 0, 1) := by decide +kernel
theorem dX9_load_22 : decode cX9_load 22 = .ok (.istore_n 2, 1) := by decide +kernel
theorem dX9_load_23 : decode cX9_load 23 = .ok (.iload_n 2, 1) := by decide +kernel
theorem dX9_load_24 : decode cX9_load 24 = .ok (.aload_n 0, 1) := by decide +kernel
theorem dX9_load_25 : decode cX9_load 25 = .ok (.getfield 63, 3) := by decide +kernel
theorem dX9_load_28 : decode cX9_load 28 = .ok (.if_icmp .ge 23, 3) := by decide +kernel
theorem dX9_load_31 : decode cX9_load 31 = .ok (.aload_n 0, 1) := by decide +kernel
theorem dX9_load_32 : decode cX9_load 32 = .ok (.getfield 7, 3) := by decide +kernel
theorem dX9_load_35 : decode cX9_load 35 = .ok (.iconst 1, 1) := by decide +kernel
theorem dX9_load_36 : decode cX9_load 36 = .ok (.iload_n 2, 1) := by decide +kernel
theorem dX9_load_37 : decode cX9_load 37 = .ok (.iadd, 1) := by decide +kernel
theorem dX9_load_38 : decode cX9_load 38 = .ok (.aload_n 0, 1) := by decide +kernel
theorem dX9_load_39 : decode cX9_load 39 = .ok (.getfield 30, 3) := by decide +kernel
theorem dX9_load_42 : decode cX9_load 42 = .ok (.iload_n 2, 1) := by decide +kernel
theorem dX9_load_43 : decode cX9_load 43 = .ok (.iaload, 1) := by decide +kernel
theorem dX9_load_44 : decode cX9_load 44 = .ok (.iastore, 1) := by decide +kernel
theorem dX9_load_45 : decode cX9_load 45 = .ok (.iinc 2 1, 3) := by decide +kernel
theorem dX9_load_48 : decode cX9_load 48 = .ok (.goto (-25), 3) := by decide +kernel
theorem dX9_load_51 : decode cX9_load 51 = .ok (.iconst 0, 1) := by decide +kernel
theorem dX9_load_52 : decode cX9_load 52 = .ok (.istore_n 2, 1) := by decide +kernel
theorem dX9_load_53 : decode cX9_load 53 = .ok (.iload_n 2, 1) := by decide +kernel
theorem dX9_load_54 : decode cX9_load 54 = .ok (.aload_n 0, 1) := by decide +kernel
theorem dX9_load_55 : decode cX9_load 55 = .ok (.getfield 7, 3) := by decide +kernel
theorem dX9_load_58 : decode cX9_load 58 = .ok (.bipush 122, 2) := by decide +kernel
theorem dX9_load_60 : decode cX9_load 60 = .ok (.iaload, 1) := by decide +kernel
theorem dX9_load_61 : decode cX9_load 61 = .ok (.if_icmp .ge 74, 3) := by decide +kernel
theorem dX9_load_64 : decode cX9_load 64 = .ok (.aload_n 0, 1) := by decide +kernel
theorem dX9_load_65 : decode cX9_load 65 = .ok (.getfield 7, 3) := by decide +kernel
theorem dX9_load_68 : decode cX9_load 68 = .ok (.iload_n 2, 1) := by decide +kernel
theorem dX9_load_69 : decode cX9_load 69 = .ok (.iconst 1, 1) := by decide +kernel
theorem dX9_load_70 : decode cX9_load 70 = .ok (.invokestatic 48, 3) := by decide +kernel
theorem dX9_load_73 : decode cX9_load 73 = .ok (.iconst 0, 1) := by decide +kernel
theorem dX9_load_74 : decode cX9_load 74 = .ok (.iastore, 1) := by decide +kernel
theorem dX9_load_75 : decode cX9_load 75 = .ok (.aload_n 0, 1) := by decide +kernel
theorem dX9_load_76 : decode cX9_load 76 = .ok (.getfield 7, 3) := by decide +kernel
theorem dX9_load_79 : decode cX9_load 79 = .ok (.iload_n 2, 1) := by decide +kernel
theorem dX9_load_80 : decode cX9_load 80 = .ok (.iconst 2, 1) := by decide +kernel
theorem dX9_load_81 : decode cX9_load 81 = .ok (.invokestatic 48, 3) := by decide +kernel
theorem dX9_load_84 : decode cX9_load 84 = .ok (.aload_n 0, 1) := by decide +kernel
theorem dX9_load_85 : decode cX9_load 85 = .ok (.getfield 7, 3) := by decide +kernel
theorem dX9_load_88 : decode cX9_load 88 = .ok (.iload_n 2, 1) := by decide +kernel
theorem dX9_load_89 : decode cX9_load 89 = .ok (.iconst 2, 1) := by decide +kernel
theorem dX9_load_90 : decode cX9_load 90 = .ok (.invokestatic 48, 3) := by decide +kernel
theorem dX9_load_93 : decode cX9_load 93 = .ok (.iaload, 1) := by decide +kernel
theorem dX9_load_94 : decode cX9_load 94 = .ok (.aload_n 0, 1) := by decide +kernel
theorem dX9_load_95 : decode cX9_load 95 = .ok (.getfield 63, 3) := by decide +kernel
theorem dX9_load_98 : decode cX9_load 98 = .ok (.invokestatic 69, 3) := by decide +kernel
theorem dX9_load_101 : decode cX9_load 101 = .ok (.iastore, 1) := by decide +kernel
theorem dX9_load_102 : decode cX9_load 102 = .ok (.aload_n 0, 1) := by decide +kernel
theorem dX9_load_103 : decode cX9_load 103 = .ok (.getfield 7, 3) := by decide +kernel
theorem dX9_load_106 : decode cX9_load 106 = .ok (.iload_n 2, 1) := by decide +kernel
theorem dX9_load_107 : decode cX9_load 107 = .ok (.iconst 3, 1) := by decide +kernel
theorem dX9_load_108 : decode cX9_load 108 = .ok (.invokestatic 48, 3) := by decide +kernel
theorem dX9_load_111 : decode cX9_load 111 = .ok (.aload_n 0, 1) := by decide +kernel
theorem dX9_load_112 : decode cX9_load 112 = .ok (.getfield 7, 3) := by decide +kernel
theorem dX9_load_115 : decode cX9_load 115 = .ok (.iload_n 2, 1) := by decide +kernel
theorem dX9_load_116 : decode cX9_load 116 = .ok (.iconst 3, 1) := by decide +kernel
theorem dX9_load_117 : decode cX9_load 117 = .ok (.invokestatic 48, 3) := by decide +kernel
theorem dX9_load_120 : decode cX9_load 120 = .ok (.iaload, 1) := by decide +kernel
theorem dX9_load_121 : decode cX9_load 121 = .ok (.aload_n 0, 1) := by decide +kernel
theorem dX9_load_122 : decode cX9_load 122 = .ok (.getfield 63, 3) := by decide +kernel
theorem dX9_load_125 : decode cX9_load 125 = .ok (.invokestatic 69, 3) := by decide +kernel
theorem dX9_load_128 : decode cX9_load 128 = .ok (.iastore, 1) := by decide +kernel
theorem dX9_load_129 : decode cX9_load 129 = .ok (.iinc 2 1, 3) := by decide +kernel
theorem dX9_load_132 : decode cX9_load 132 = .ok (.goto (-79), 3) := by decide +kernel
theorem dX9_load_135 : decode cX9_load 135 = .ok (.aload_n 0, 1) := by decide +kernel
theorem dX9_load_136 : decode cX9_load 136 = .ok (.iload_n 1, 1) := by decide +kernel
theorem dX9_load_137 : decode cX9_load 137 = .ok (.invokevirtual 72, 3) := by decide +kernel
theorem dX9_load_140 : decode cX9_load 140 = .ok (.ireturn, 1) := by decide +kernel
theorem dX9_insert_0 : decode cX9_insert 0 = .ok (.aload_n 0, 1) := by decide +kernel
theorem dX9_insert_1 : decode cX9_insert 1 = .ok (.iload_n 1, 1) := by decide +kernel
theorem dX9_insert_2 : decode cX9_insert 2 = .ok (.invokevirtual 76, 3) := by decide +kernel
theorem dX9_insert_5 : decode cX9_insert 5 = .ok (.ifCond .ne 7, 3) := by decide +kernel
theorem dX9_insert_8 : decode cX9_insert 8 = .ok (.sipush (-1001), 3) := by decide +kernel
theorem dX9_insert_11 : decode cX9_insert 11 = .ok (.ireturn, 1) := by decide +kernel
theorem dX9_insert_12 : decode cX9_insert 12 = .ok (.aload_n 0, 1) := by decide +kernel
theorem dX9_insert_13 : decode cX9_insert 13 = .ok (.getfield 7, 3) := by decide +kernel
theorem dX9_insert_16 : decode cX9_insert 16 = .ok (.iconst 0, 1) := by decide +kernel
theorem dX9_insert_17 : decode cX9_insert 17 = .ok (.iaload, 1) := by decide +kernel
theorem dX9_insert_18 : decode cX9_insert 18 = .ok (.aload_n 0, 1) := by decide +kernel
theorem dX9_insert_19 : decode cX9_insert 19 = .ok (.getfield 63, 3) := by decide +kernel
theorem dX9_insert_22 : decode cX9_insert 22 = .ok (.iadd, 1) := by decide +kernel
theorem dX9_insert_23 : decode cX9_insert 23 = .ok (.bipush 120, 2) := by decide +kernel
theorem dX9_insert_25 : decode cX9_insert 25 = .ok (.if_icmp .le 7, 3) := by decide +kernel
theorem dX9_insert_28 : decode cX9_insert 28 = .ok (.sipush (-1004), 3) := by decide +kernel
theorem dX9_insert_31 : decode cX9_insert 31 = .ok (.ireturn, 1) := by decide +kernel
theorem dX9_insert_32 : decode cX9_insert 32 = .ok (.aload_n 0, 1) := by decide +kernel
theorem dX9_insert_33 : decode cX9_insert 33 = .ok (.invokevirtual 66, 3) := by decide +kernel
theorem dX9_insert_36 : decode cX9_insert 36 = .ok (.aload_n 0, 1) := by decide +kernel
theorem dX9_insert_37 : decode cX9_insert 37 = .ok (.getfield 7, 3) := by decide +kernel
theorem dX9_insert_40 : decode cX9_insert 40 = .ok (.iconst 0, 1) := by decide +kernel
theorem dX9_insert_41 : decode cX9_insert 41 = .ok (.iaload, 1) := by decide +kernel
theorem dX9_insert_42 : decode cX9_insert 42 = .ok (.iconst 1, 1) := by decide +kernel
theorem dX9_insert_43 : decode cX9_insert 43 = .ok (.isub, 1) := by decide +kernel
theorem dX9_insert_44 : decode cX9_insert 44 = .ok (.istore_n 2, 1) := by decide +kernel
theorem dX9_insert_45 : decode cX9_insert 45 = .ok (.iload_n 2, 1) := by decide +kernel
theorem dX9_insert_46 : decode cX9_insert 46 = .ok (.iload_n 1, 1) := by decide +kernel
theorem dX9_insert_47 : decode cX9_insert 47 = .ok (.if_icmp .lt 30, 3) := by decide +kernel
theorem dX9_insert_50 : decode cX9_insert 50 = .ok (.aload_n 0, 1) := by decide +kernel
theorem dX9_insert_51 : decode cX9_insert 51 = .ok (.getfield 7, 3) := by decide +kernel
theorem dX9_insert_54 : decode cX9_insert 54 = .ok (.iconst 1, 1) := by decide +kernel
theorem dX9_insert_55 : decode cX9_insert 55 = .ok (.iload_n 2, 1) := by decide +kernel
theorem dX9_insert_56 : decode cX9_insert 56 = .ok (.iadd, 1) := by decide +kernel
theorem dX9_insert_57 : decode cX9_insert 57 = .ok (.aload_n 0, 1) := by decide +kernel
theorem dX9_insert_58 : decode cX9_insert 58 = .ok (.getfield 63, 3) := by decide +kernel
theorem dX9_insert_61 : decode cX9_insert 61 = .ok (.iadd, 1) := by decide +kernel
theorem dX9_insert_62 : decode cX9_insert 62 = .ok (.aload_n 0, 1) := by decide +kernel
theorem dX9_insert_63 : decode cX9_insert 63 = .ok (.getfield 7, 3) := by decide +kernel
theorem dX9_insert_66 : decode cX9_insert 66 = .ok (.iconst 1, 1) := by decide +kernel
theorem dX9_insert_67 : decode cX9_insert 67 = .ok (.iload_n 2, 1) := by decide +kernel
theorem dX9_insert_68 : decode cX9_insert 68 = .ok (.iadd, 1) := by decide +kernel
theorem dX9_insert_69 : decode cX9_insert 69 = .ok (.iaload, 1) := by decide +kernel
theorem dX9_insert_70 : decode cX9_insert 70 = .ok (.iastore, 1) := by decide +kernel
theorem dX9_insert_71 : decode cX9_insert 71 = .ok (.iinc 2 (-1), 3) := by decide +kernel
theorem dX9_insert_74 : decode cX9_insert 74 = .ok (.goto (-29), 3) := by decide +kernel
theorem dX9_insert_77 : decode cX9_insert 77 = .ok (.iconst 0, 1) := by decide +kernel
theorem dX9_insert_78 : decode cX9_insert 78 = .ok (.istore_n 2, 1) := by decide +kernel
theorem dX9_insert_79 : decode cX9_insert 79 = .ok (.iload_n 2, 1) := by decide +kernel
theorem dX9_insert_80 : decode cX9_insert 80 = .ok (.aload_n 0, 1) := by decide +kernel
theorem dX9_insert_81 : decode cX9_insert 81 = .ok (.getfield 63, 3) := by decide +kernel
theorem dX9_insert_84 : decode cX9_insert 84 = .ok (.if_icmp .ge 25, 3) := by decide +kernel
theorem dX9_insert_87 : decode cX9_insert 87 = .ok (.aload_n 0, 1) := by decide +kernel
theorem dX9_insert_88 : decode cX9_insert 88 = .ok (.getfield 7, 3) := by decide +kernel
theorem dX9_insert_91 : decode cX9_insert 91 = .ok (.iconst 1, 1) := by decide +kernel
theorem dX9_insert_92 : decode cX9_insert 92 = .ok (.iload_n 1, 1) := by decide +kernel
theorem dX9_insert_93 : decode cX9_insert 93 = .ok (.iadd, 1) := by decide +kernel
theorem dX9_insert_94 : decode cX9_insert 94 = .ok (.iload_n 2, 1) := by decide +kernel
theorem dX9_insert_95 : decode cX9_insert 95 = .ok (.iadd, 1) := by decide +kernel
theorem dX9_insert_96 : decode cX9_insert 96 = .ok (.aload_n 0, 1) := by decide +kernel
theorem dX9_insert_97 : decode cX9_insert 97 = .ok (.getfield 30, 3) := by decide +kernel
theorem dX9_insert_100 : decode cX9_insert 100 = .ok (.iload_n 2, 1) := by decide +kernel
theorem dX9_insert_101 : decode cX9_insert 101 = .ok (.iaload, 1) := by decide +kernel
theorem dX9_insert_102 : decode cX9_insert 102 = .ok (.iastore, 1) := by decide +kernel
theorem dX9_insert_103 : decode cX9_insert 103 = .ok (.iinc 2 1, 3) := by decide +kernel
theorem dX9_insert_106 : decode cX9_insert 106 = .ok (.goto (-27), 3) := by decide +kernel
theorem dX9_insert_109 : decode cX9_insert 109 = .ok (.aload_n 0, 1) := by decide +kernel
theorem dX9_insert_110 : decode cX9_insert 110 = .ok (.getfield 7, 3) := by decide +kernel
theorem dX9_insert_113 : decode cX9_insert 113 = .ok (.iconst 0, 1) := by decide +kernel
theorem dX9_insert_114 : decode cX9_insert 114 = .ok (.dup2, 1) := by decide +kernel
theorem dX9_insert_115 : decode cX9_insert 115 = .ok (.iaload, 1) := by decide +kernel
theorem dX9_insert_116 : decode cX9_insert 116 = .ok (.aload_n 0, 1) := by decide +kernel
theorem dX9_insert_117 : decode cX9_insert 117 = .ok (.getfield 63, 3) := by decide +kernel
theorem dX9_insert_120 : decode cX9_insert 120 = .ok (.iadd, 1) := by decide +kernel
theorem dX9_insert_121 : decode cX9_insert 121 = .ok (.iastore, 1) := by decide +kernel
theorem dX9_insert_122 : decode cX9_insert 122 = .ok (.iconst 0, 1) := by decide +kernel
theorem dX9_insert_123 : decode cX9_insert 123 = .ok (.istore_n 2, 1) := by decide +kernel
theorem dX9_insert_124 : decode cX9_insert 124 = .ok (.iload_n 2, 1) := by decide +kernel
theorem dX9_insert_125 : decode cX9_insert 125 = .ok (.aload_n 0, 1) := by decide +kernel
theorem dX9_insert_126 : decode cX9_insert 126 = .ok (.getfield 7, 3) := by decide +kernel
theorem dX9_insert_129 : decode cX9_insert 129 = .ok (.bipush 122, 2) := by decide +kernel
theorem dX9_insert_131 : decode cX9_insert 131 = .ok (.iaload, 1) := by decide +kernel
theorem dX9_insert_132 : decode cX9_insert 132 = .ok (.if_icmp .ge 93, 3) := by decide +kernel
theorem dX9_insert_135 : decode cX9_insert 135 = .ok (.aload_n 0, 1) := by decide +kernel
theorem dX9_insert_136 : decode cX9_insert 136 = .ok (.getfield 7, 3) := by decide +kernel
theorem dX9_insert_139 : decode cX9_insert 139 = .ok (.iload_n 2, 1) := by decide +kernel
theorem dX9_insert_140 : decode cX9_insert 140 = .ok (.iconst 2, 1) := by decide +kernel
theorem dX9_insert_141 : decode cX9_insert 141 = .ok (.invokestatic 48, 3) := by decide +kernel
theorem dX9_insert_144 : decode cX9_insert 144 = .ok (.iaload, 1) := by decide +kernel
theorem dX9_insert_145 : decode cX9_insert 145 = .ok (.iload_n 1, 1) := by decide +kernel
theorem dX9_insert_146 : decode cX9_insert 146 = .ok (.if_icmp .lt 7, 3) := by decide +kernel
theorem dX9_insert_149 : decode cX9_insert 149 = .ok (.iconst 1, 1) := by decide +kernel
theorem dX9_insert_150 : decode cX9_insert 150 = .ok (.goto 4, 3) := by decide +kernel
theorem dX9_insert_153 : decode cX9_insert 153 = .ok (.iconst 0, 1) := by decide +kernel
theorem dX9_insert_154 : decode cX9_insert 154 = .ok (.istore_n 3, 1) := by decide +kernel
theorem dX9_insert_155 : decode cX9_insert 155 = .ok (.aload_n 0, 1) := by decide +kernel
theorem dX9_insert_156 : decode cX9_insert 156 = .ok (.getfield 7, 3) := by decide +kernel
theorem dX9_insert_159 : decode cX9_insert 159 = .ok (.iload_n 2, 1) := by decide +kernel
theorem dX9_insert_160 : decode cX9_insert 160 = .ok (.iconst 3, 1) := by decide +kernel
theorem dX9_insert_161 : decode cX9_insert 161 = .ok (.invokestatic 48, 3) := by decide +kernel
theorem dX9_insert_164 : decode cX9_insert 164 = .ok (.dup2, 1) := by decide +kernel
theorem dX9_insert_165 : decode cX9_insert 165 = .ok (.iaload, 1) := by decide +kernel
theorem dX9_insert_166 : decode cX9_insert 166 = .ok (.iload_n 3, 1) := by decide +kernel
theorem dX9_insert_167 : decode cX9_insert 167 = .ok (.ifCond .ne 17, 3) := by decide +kernel
theorem dX9_insert_170 : decode cX9_insert 170 = .ok (.aload_n 0, 1) := by decide +kernel
theorem dX9_insert_171 : decode cX9_insert 171 = .ok (.getfield 7, 3) := by decide +kernel
theorem dX9_insert_174 : decode cX9_insert 174 = .ok (.iload_n 2, 1) := by decide +kernel
theorem dX9_insert_175 : decode cX9_insert 175 = .ok (.iconst 3, 1) := by decide +kernel
theorem dX9_insert_176 : decode cX9_insert 176 = .ok (.invokestatic 48, 3) := by decide +kernel
theorem dX9_insert_179 : decode cX9_insert 179 = .ok (.iaload, 1) := by decide +kernel
theorem dX9_insert_180 : decode cX9_insert 180 = .ok (.iload_n 1, 1) := by decide +kernel
theorem dX9_insert_181 : decode cX9_insert 181 = .ok (.if_icmp .le 10, 3) := by decide +kernel
theorem dX9_insert_184 : decode cX9_insert 184 = .ok (.aload_n 0, 1) := by decide +kernel
theorem dX9_insert_185 : decode cX9_insert 185 = .ok (.getfield 63, 3) := by decide +kernel
theorem dX9_insert_188 : decode cX9_insert 188 = .ok (.goto 4, 3) := by decide +kernel
theorem dX9_insert_191 : decode cX9_insert 191 = .ok (.iconst 0, 1) := by decide +kernel
theorem dX9_insert_192 : decode cX9_insert 192 = .ok (.iadd, 1) := by decide +kernel
theorem dX9_insert_193 : decode cX9_insert 193 = .ok (.iastore, 1) := by decide +kernel
theorem dX9_insert_194 : decode cX9_insert 194 = .ok (.aload_n 0, 1) := by decide +kernel
theorem dX9_insert_195 : decode cX9_insert 195 = .ok (.getfield 7, 3) := by decide +kernel
theorem dX9_insert_198 : decode cX9_insert 198 = .ok (.iload_n 2, 1) := by decide +kernel
theorem dX9_insert_199 : decode cX9_insert 199 = .ok (.iconst 2, 1) := by decide +kernel
theorem dX9_insert_200 : decode cX9_insert 200 = .ok (.invokestatic 48, 3) := by decide +kernel
theorem dX9_insert_203 : decode cX9_insert 203 = .ok (.dup2, 1) := by decide +kernel
theorem dX9_insert_204 : decode cX9_insert 204 = .ok (.iaload, 1) := by decide +kernel
theorem dX9_insert_205 : decode cX9_insert 205 = .ok (.iload_n 3, 1) := by decide +kernel
theorem dX9_insert_206 : decode cX9_insert 206 = .ok (.ifCond .eq 10, 3) := by decide +kernel
theorem dX9_insert_209 : decode cX9_insert 209 = .ok (.aload_n 0, 1) := by decide +kernel
theorem dX9_insert_210 : decode cX9_insert 210 = .ok (.getfield 63, 3) := by decide +kernel
theorem dX9_insert_213 : decode cX9_insert 213 = .ok (.goto 4, 3) := by decide +kernel
theorem dX9_insert_216 : decode cX9_insert 216 = .ok (.iconst 0, 1) := by decide +kernel
theorem dX9_insert_217 : decode cX9_insert 217 = .ok (.iadd, 1) := by decide +kernel
theorem dX9_insert_218 : decode cX9_insert 218 = .ok (.iastore, 1) := by decide +kernel
theorem dX9_insert_219 : decode cX9_insert 219 = .ok (.iinc 2 1, 3) := by decide +kernel
theorem dX9_insert_222 : decode cX9_insert 222 = .ok (.goto (-98), 3) := by decide +kernel
theorem dX9_insert_225 : decode cX9_insert 225 = .ok (.aload_n 0, 1) := by decide +kernel
theorem dX9_insert_226 : decode cX9_insert 226 = .ok (.aload_n 0, 1) := by decide +kernel
theorem dX9_insert_227 : decode cX9_insert 227 = .ok (.getfield 7, 3) := by decide +kernel
theorem dX9_insert_230 : decode cX9_insert 230 = .ok (.iconst 0, 1) := by decide +kernel
theorem dX9_insert_231 : decode cX9_insert 231 = .ok (.iaload, 1) := by decide +kernel
theorem dX9_insert_232 : decode cX9_insert 232 = .ok (.invokevirtual 72, 3) := by decide +kernel
theorem dX9_insert_235 : decode cX9_insert 235 = .ok (.ireturn, 1) := by decide +kernel
theorem dX9_without_0 : decode cX9_without 0 = .ok (.iload_n 0, 1) := by decide +kernel
theorem dX9_without_1 : decode cX9_without 1 = .ok (.iload_n 1, 1) := by decide +kernel
theorem dX9_without_2 : decode cX9_without 2 = .ok (.iload_n 2, 1) := by decide +kernel
theorem dX9_without_3 : decode cX9_without 3 = .ok (.iadd, 1) := by decide +kernel
theorem dX9_without_4 : decode cX9_without 4 = .ok (.if_icmp .lt 9, 3) := by decide +kernel
theorem dX9_without_7 : decode cX9_without 7 = .ok (.iload_n 0, 1) := by decide +kernel
theorem dX9_without_8 : decode cX9_without 8 = .ok (.iload_n 2, 1) := by decide +kernel
theorem dX9_without_9 : decode cX9_without 9 = .ok (.isub, 1) := by decide +kernel
theorem dX9_without_10 : decode cX9_without 10 = .ok (.goto 8, 3) := by decide +kernel
theorem dX9_without_13 : decode cX9_without 13 = .ok (.iload_n 0, 1) := by decide +kernel
theorem dX9_without_14 : decode cX9_without 14 = .ok (.iload_n 1, 1) := by decide +kernel
theorem dX9_without_15 : decode cX9_without 15 = .ok (.invokestatic 69, 3) := by decide +kernel
theorem dX9_without_18 : decode cX9_without 18 = .ok (.ireturn, 1) := by decide +kernel
theorem dX9_delete_0 : decode cX9_delete 0 = .ok (.aload_n 0, 1) := by decide +kernel
theorem dX9_delete_1 : decode cX9_delete 1 = .ok (.iload_n 1, 1) := by decide +kernel
theorem dX9_delete_2 : decode cX9_delete 2 = .ok (.invokevirtual 76, 3) := by decide +kernel
theorem dX9_delete_5 : decode cX9_delete 5 = .ok (.ifCond .ne 7, 3) := by decide +kernel
theorem dX9_delete_8 : decode cX9_delete 8 = .ok (.sipush (-1001), 3) := by decide +kernel
theorem dX9_delete_11 : decode cX9_delete 11 = .ok (.ireturn, 1) := by decide +kernel
theorem dX9_delete_12 : decode cX9_delete 12 = .ok (.iload_n 2, 1) := by decide +kernel
theorem dX9_delete_13 : decode cX9_delete 13 = .ok (.iconst 0, 1) := by decide +kernel
theorem dX9_delete_14 : decode cX9_delete 14 = .ok (.bipush 120, 2) := by decide +kernel
theorem dX9_delete_16 : decode cX9_delete 16 = .ok (.invokestatic 52, 3) := by decide +kernel
theorem dX9_delete_19 : decode cX9_delete 19 = .ok (.ifCond .eq 15, 3) := by decide +kernel
theorem dX9_delete_22 : decode cX9_delete 22 = .ok (.iload_n 1, 1) := by decide +kernel
theorem dX9_delete_23 : decode cX9_delete 23 = .ok (.iload_n 2, 1) := by decide +kernel
theorem dX9_delete_24 : decode cX9_delete 24 = .ok (.iadd, 1) := by decide +kernel
theorem dX9_delete_25 : decode cX9_delete 25 = .ok (.aload_n 0, 1) := by decide +kernel
theorem dX9_delete_26 : decode cX9_delete 26 = .ok (.getfield 7, 3) := by decide +kernel
theorem dX9_delete_29 : decode cX9_delete 29 = .ok (.iconst 0, 1) := by decide +kernel
theorem dX9_delete_30 : decode cX9_delete 30 = .ok (.iaload, 1) := by decide +kernel
theorem dX9_delete_31 : decode cX9_delete 31 = .ok (.if_icmp .le 7, 3) := by decide +kernel
theorem dX9_delete_34 : decode cX9_delete 34 = .ok (.sipush (-1002), 3) := by decide +kernel
theorem dX9_delete_37 : decode cX9_delete 37 = .ok (.ireturn, 1) := by decide +kernel
theorem dX9_delete_38 : decode cX9_delete 38 = .ok (.aload_n 0, 1) := by decide +kernel
theorem dX9_delete_39 : decode cX9_delete 39 = .ok (.invokevirtual 66, 3) := by decide +kernel
theorem dX9_delete_42 : decode cX9_delete 42 = .ok (.iload_n 1, 1) := by decide +kernel
theorem dX9_delete_43 : decode cX9_delete 43 = .ok (.istore_n 3, 1) := by decide +kernel
theorem dX9_delete_44 : decode cX9_delete 44 = .ok (.iload_n 3, 1) := by decide +kernel
theorem dX9_delete_45 : decode cX9_delete 45 = .ok (.iload_n 2, 1) := by decide +kernel
theorem dX9_delete_46 : decode cX9_delete 46 = .ok (.iadd, 1) := by decide +kernel
theorem dX9_delete_47 : decode cX9_delete 47 = .ok (.aload_n 0, 1) := by decide +kernel
theorem dX9_delete_48 : decode cX9_delete 48 = .ok (.getfield 7, 3) := by decide +kernel
theorem dX9_delete_51 : decode cX9_delete 51 = .ok (.iconst 0, 1) := by decide +kernel
theorem dX9_delete_52 : decode cX9_delete 52 = .ok (.iaload, 1) := by decide +kernel
theorem dX9_delete_53 : decode cX9_delete 53 = .ok (.if_icmp .ge 27, 3) := by decide +kernel
theorem dX9_delete_56 : decode cX9_delete 56 = .ok (.aload_n 0, 1) := by decide +kernel
theorem dX9_delete_57 : decode cX9_delete 57 = .ok (.getfield 7, 3) := by decide +kernel
theorem dX9_delete_60 : decode cX9_delete 60 = .ok (.iconst 1, 1) := by decide +kernel
theorem dX9_delete_61 : decode cX9_delete 61 = .ok (.iload_n 3, 1) := by decide +kernel
theorem dX9_delete_62 : decode cX9_delete 62 = .ok (.iadd, 1) := by decide +kernel
theorem dX9_delete_63 : decode cX9_delete 63 = .ok (.aload_n 0, 1) := by decide +kernel
theorem dX9_delete_64 : decode cX9_delete 64 = .ok (.getfield 7, 3) := by decide +kernel
theorem dX9_delete_67 : decode cX9_delete 67 = .ok (.iconst 1, 1) := by decide +kernel
theorem dX9_delete_68 : decode cX9_delete 68 = .ok (.iload_n 3, 1) := by decide +kernel
theorem dX9_delete_69 : decode cX9_delete 69 = .ok (.iadd, 1) := by decide +kernel
theorem dX9_delete_70 : decode cX9_delete 70 = .ok (.iload_n 2, 1) := by decide +kernel
theorem dX9_delete_71 : decode cX9_delete 71 = .ok (.iadd, 1) := by decide +kernel
theorem dX9_delete_72 : decode cX9_delete 72 = .ok (.iaload, 1) := by decide +kernel
theorem dX9_delete_73 : decode cX9_delete 73 = .ok (.iastore, 1) := by decide +kernel
theorem dX9_delete_74 : decode cX9_delete 74 = .ok (.iinc 3 1, 3) := by decide +kernel
theorem dX9_delete_77 : decode cX9_delete 77 = .ok (.goto (-33), 3) := by decide +kernel
theorem dX9_delete_80 : decode cX9_delete 80 = .ok (.aload_n 0, 1) := by decide +kernel
theorem dX9_delete_81 : decode cX9_delete 81 = .ok (.getfield 7, 3) := by decide +kernel
theorem dX9_delete_84 : decode cX9_delete 84 = .ok (.iconst 0, 1) := by decide +kernel
theorem dX9_delete_85 : decode cX9_delete 85 = .ok (.dup2, 1) := by decide +kernel
theorem dX9_delete_86 : decode cX9_delete 86 = .ok (.iaload, 1) := by decide +kernel
theorem dX9_delete_87 : decode cX9_delete 87 = .ok (.iload_n 2, 1) := by decide +kernel
theorem dX9_delete_88 : decode cX9_delete 88 = .ok (.isub, 1) := by decide +kernel
theorem dX9_delete_89 : decode cX9_delete 89 = .ok (.iastore, 1) := by decide +kernel
theorem dX9_delete_90 : decode cX9_delete 90 = .ok (.iconst 0, 1) := by decide +kernel
theorem dX9_delete_91 : decode cX9_delete 91 = .ok (.istore_n 3, 1) := by decide +kernel
theorem dX9_delete_92 : decode cX9_delete 92 = .ok (.iconst 0, 1) := by decide +kernel
theorem dX9_delete_93 : decode cX9_delete 93 = .ok (.istore 4, 2) := by decide +kernel
theorem dX9_delete_95 : decode cX9_delete 95 = .ok (.iload 4, 2) := by decide +kernel
theorem dX9_delete_97 : decode cX9_delete 97 = .ok (.aload_n 0, 1) := by decide +kernel
theorem dX9_delete_98 : decode cX9_delete 98 = .ok (.getfield 7, 3) := by decide +kernel
theorem dX9_delete_101 : decode cX9_delete 101 = .ok (.bipush 122, 2) := by decide +kernel
theorem dX9_delete_103 : decode cX9_delete 103 = .ok (.iaload, 1) := by decide +kernel
theorem dX9_delete_104 : decode cX9_delete 104 = .ok (.if_icmp .ge 154, 3) := by decide +kernel
theorem dX9_delete_107 : decode cX9_delete 107 = .ok (.aload_n 0, 1) := by decide +kernel
theorem dX9_delete_108 : decode cX9_delete 108 = .ok (.getfield 7, 3) := by decide +kernel
theorem dX9_delete_111 : decode cX9_delete 111 = .ok (.iload 4, 2) := by decide +kernel
theorem dX9_delete_113 : decode cX9_delete 113 = .ok (.iconst 2, 1) := by decide +kernel
theorem dX9_delete_114 : decode cX9_delete 114 = .ok (.invokestatic 48, 3) := by decide +kernel
theorem dX9_delete_117 : decode cX9_delete 117 = .ok (.aload_n 0, 1) := by decide +kernel
theorem dX9_delete_118 : decode cX9_delete 118 = .ok (.getfield 7, 3) := by decide +kernel
theorem dX9_delete_121 : decode cX9_delete 121 = .ok (.iload 4, 2) := by decide +kernel
theorem dX9_delete_123 : decode cX9_delete 123 = .ok (.iconst 2, 1) := by decide +kernel
theorem dX9_delete_124 : decode cX9_delete 124 = .ok (.invokestatic 48, 3) := by decide +kernel
theorem dX9_delete_127 : decode cX9_delete 127 = .ok (.iaload, 1) := by decide +kernel
theorem dX9_delete_128 : decode cX9_delete 128 = .ok (.iload_n 1, 1) := by decide +kernel
theorem dX9_delete_129 : decode cX9_delete 129 = .ok (.iload_n 2, 1) := by decide +kernel
theorem dX9_delete_130 : decode cX9_delete 130 = .ok (.invokestatic 80, 3) := by decide +kernel
theorem dX9_delete_133 : decode cX9_delete 133 = .ok (.iastore, 1) := by decide +kernel
theorem dX9_delete_134 : decode cX9_delete 134 = .ok (.aload_n 0, 1) := by decide +kernel
theorem dX9_delete_135 : decode cX9_delete 135 = .ok (.getfield 7, 3) := by decide +kernel
theorem dX9_delete_138 : decode cX9_delete 138 = .ok (.iload 4, 2) := by decide +kernel
theorem dX9_delete_140 : decode cX9_delete 140 = .ok (.iconst 3, 1) := by decide +kernel
theorem dX9_delete_141 : decode cX9_delete 141 = .ok (.invokestatic 48, 3) := by decide +kernel
theorem dX9_delete_144 : decode cX9_delete 144 = .ok (.aload_n 0, 1) := by decide +kernel
theorem dX9_delete_145 : decode cX9_delete 145 = .ok (.getfield 7, 3) := by decide +kernel
theorem dX9_delete_148 : decode cX9_delete 148 = .ok (.iload 4, 2) := by decide +kernel
theorem dX9_delete_150 : decode cX9_delete 150 = .ok (.iconst 3, 1) := by decide +kernel
theorem dX9_delete_151 : decode cX9_delete 151 = .ok (.invokestatic 48, 3) := by decide +kernel
theorem dX9_delete_154 : decode cX9_delete 154 = .ok (.iaload, 1) := by decide +kernel
theorem dX9_delete_155 : decode cX9_delete 155 = .ok (.iload_n 1, 1) := by decide +kernel
theorem dX9_delete_156 : decode cX9_delete 156 = .ok (.iload_n 2, 1) := by decide +kernel
theorem dX9_delete_157 : decode cX9_delete 157 = .ok (.invokestatic 80, 3) := by decide +kernel
theorem dX9_delete_160 : decode cX9_delete 160 = .ok (.iastore, 1) := by decide +kernel
theorem dX9_delete_161 : decode cX9_delete 161 = .ok (.aload_n 0, 1) := by decide +kernel
theorem dX9_delete_162 : decode cX9_delete 162 = .ok (.getfield 7, 3) := by decide +kernel
theorem dX9_delete_165 : decode cX9_delete 165 = .ok (.iload 4, 2) := by decide +kernel
theorem dX9_delete_167 : decode cX9_delete 167 = .ok (.iconst 1, 1) := by decide +kernel
theorem dX9_delete_168 : decode cX9_delete 168 = .ok (.invokestatic 48, 3) := by decide +kernel
theorem dX9_delete_171 : decode cX9_delete 171 = .ok (.iaload, 1) := by decide +kernel
theorem dX9_delete_172 : decode cX9_delete 172 = .ok (.iconst 1, 1) := by decide +kernel
theorem dX9_delete_173 : decode cX9_delete 173 = .ok (.if_icmp .ne 32, 3) := by decide +kernel
theorem dX9_delete_176 : decode cX9_delete 176 = .ok (.aload_n 0, 1) := by decide +kernel
theorem dX9_delete_177 : decode cX9_delete 177 = .ok (.getfield 7, 3) := by decide +kernel
theorem dX9_delete_180 : decode cX9_delete 180 = .ok (.iload 4, 2) := by decide +kernel
theorem dX9_delete_182 : decode cX9_delete 182 = .ok (.iconst 2, 1) := by decide +kernel
theorem dX9_delete_183 : decode cX9_delete 183 = .ok (.invokestatic 48, 3) := by decide +kernel
theorem dX9_delete_186 : decode cX9_delete 186 = .ok (.iaload, 1) := by decide +kernel
theorem dX9_delete_187 : decode cX9_delete 187 = .ok (.aload_n 0, 1) := by decide +kernel
theorem dX9_delete_188 : decode cX9_delete 188 = .ok (.getfield 7, 3) := by decide +kernel
theorem dX9_delete_191 : decode cX9_delete 191 = .ok (.iload 4, 2) := by decide +kernel
theorem dX9_delete_193 : decode cX9_delete 193 = .ok (.iconst 3, 1) := by decide +kernel
theorem dX9_delete_194 : decode cX9_delete 194 = .ok (.invokestatic 48, 3) := by decide +kernel
theorem dX9_delete_197 : decode cX9_delete 197 = .ok (.iaload, 1) := by decide +kernel
theorem dX9_delete_198 : decode cX9_delete 198 = .ok (.if_icmp .ne 7, 3) := by decide +kernel
theorem dX9_delete_201 : decode cX9_delete 201 = .ok (.iconst 1, 1) := by decide +kernel
theorem dX9_delete_202 : decode cX9_delete 202 = .ok (.goto 4, 3) := by decide +kernel
theorem dX9_delete_205 : decode cX9_delete 205 = .ok (.iconst 0, 1) := by decide +kernel
theorem dX9_delete_206 : decode cX9_delete 206 = .ok (.istore 5, 2) := by decide +kernel
theorem dX9_delete_208 : decode cX9_delete 208 = .ok (.aload_n 0, 1) := by decide +kernel
theorem dX9_delete_209 : decode cX9_delete 209 = .ok (.getfield 7, 3) := by decide +kernel
theorem dX9_delete_212 : decode cX9_delete 212 = .ok (.iload 4, 2) := by decide +kernel
theorem dX9_delete_214 : decode cX9_delete 214 = .ok (.iconst 1, 1) := by decide +kernel
theorem dX9_delete_215 : decode cX9_delete 215 = .ok (.invokestatic 48, 3) := by decide +kernel
theorem dX9_delete_218 : decode cX9_delete 218 = .ok (.iload 5, 2) := by decide +kernel
theorem dX9_delete_220 : decode cX9_delete 220 = .ok (.ifCond .eq 7, 3) := by decide +kernel
theorem dX9_delete_223 : decode cX9_delete 223 = .ok (.iconst 0, 1) := by decide +kernel
theorem dX9_delete_224 : decode cX9_delete 224 = .ok (.goto 14, 3) := by decide +kernel
theorem dX9_delete_227 : decode cX9_delete 227 = .ok (.aload_n 0, 1) := by decide +kernel
theorem dX9_delete_228 : decode cX9_delete 228 = .ok (.getfield 7, 3) := by decide +kernel
theorem dX9_delete_231 : decode cX9_delete 231 = .ok (.iload 4, 2) := by decide +kernel
theorem dX9_delete_233 : decode cX9_delete 233 = .ok (.iconst 1, 1) := by decide +kernel
theorem dX9_delete_234 : decode cX9_delete 234 = .ok (.invokestatic 48, 3) := by decide +kernel
theorem dX9_delete_237 : decode cX9_delete 237 = .ok (.iaload, 1) := by decide +kernel
theorem dX9_delete_238 : decode cX9_delete 238 = .ok (.iastore, 1) := by decide +kernel
theorem dX9_delete_239 : decode cX9_delete 239 = .ok (.iload_n 3, 1) := by decide +kernel
theorem dX9_delete_240 : decode cX9_delete 240 = .ok (.iload 5, 2) := by decide +kernel
theorem dX9_delete_242 : decode cX9_delete 242 = .ok (.ifCond .eq 7, 3) := by decide +kernel
theorem dX9_delete_245 : decode cX9_delete 245 = .ok (.iconst 1, 1) := by decide +kernel
theorem dX9_delete_246 : decode cX9_delete 246 = .ok (.goto 4, 3) := by decide +kernel
theorem dX9_delete_249 : decode cX9_delete 249 = .ok (.iconst 0, 1) := by decide +kernel
theorem dX9_delete_250 : decode cX9_delete 250 = .ok (.iadd, 1) := by decide +kernel
theorem dX9_delete_251 : decode cX9_delete 251 = .ok (.istore_n 3, 1) := by decide +kernel
theorem dX9_delete_252 : decode cX9_delete 252 = .ok (.iinc 4 1, 3) := by decide +kernel
theorem dX9_delete_255 : decode cX9_delete 255 = .ok (.goto (-160), 3) := by decide +kernel
theorem dX9_delete_258 : decode cX9_delete 258 = .ok (.aload_n 0, 1) := by decide +kernel
theorem dX9_delete_259 : decode cX9_delete 259 = .ok (.iload_n 3, 1) := by decide +kernel
theorem dX9_delete_260 : decode cX9_delete 260 = .ok (.invokevirtual 72, 3) := by decide +kernel
theorem dX9_delete_263 : decode cX9_delete 263 = .ok (.ireturn, 1) := by decide +kernel
theorem dX9_quotesPart_0 : decode cX9_quotesPart 0 = .ok (.aload_n 0, 1) := by decide +kernel
theorem dX9_quotesPart_1 : decode cX9_quotesPart 1 = .ok (.getfield 7, 3) := by decide +kernel
theorem dX9_quotesPart_4 : decode cX9_quotesPart 4 = .ok (.iload_n 1, 1) := by decide +kernel
theorem dX9_quotesPart_5 : decode cX9_quotesPart 5 = .ok (.iload_n 2, 1) := by decide +kernel
theorem dX9_quotesPart_6 : decode cX9_quotesPart 6 = .ok (.invokestatic 48, 3) := by decide +kernel
theorem dX9_quotesPart_9 : decode cX9_quotesPart 9 = .ok (.iload 4, 2) := by decide +kernel
theorem dX9_quotesPart_11 : decode cX9_quotesPart 11 = .ok (.iload_n 3, 1) := by decide +kernel
theorem dX9_quotesPart_12 : decode cX9_quotesPart 12 = .ok (.isub, 1) := by decide +kernel
theorem dX9_quotesPart_13 : decode cX9_quotesPart 13 = .ok (.iastore, 1) := by decide +kernel
theorem dX9_quotesPart_14 : decode cX9_quotesPart 14 = .ok (.iload_n 3, 1) := by decide +kernel
theorem dX9_quotesPart_15 : decode cX9_quotesPart 15 = .ok (.istore 5, 2) := by decide +kernel
theorem dX9_quotesPart_17 : decode cX9_quotesPart 17 = .ok (.iload 5, 2) := by decide +kernel
theorem dX9_quotesPart_19 : decode cX9_quotesPart 19 = .ok (.iload 4, 2) := by decide +kernel
theorem dX9_quotesPart_21 : decode cX9_quotesPart 21 = .ok (.if_icmp .ge 35, 3) := by decide +kernel
theorem dX9_quotesPart_24 : decode cX9_quotesPart 24 = .ok (.aload_n 0, 1) := by decide +kernel
theorem dX9_quotesPart_25 : decode cX9_quotesPart 25 = .ok (.getfield 7, 3) := by decide +kernel
theorem dX9_quotesPart_28 : decode cX9_quotesPart 28 = .ok (.iload_n 1, 1) := by decide +kernel
theorem dX9_quotesPart_29 : decode cX9_quotesPart 29 = .ok (.iload_n 2, 1) := by decide +kernel
theorem dX9_quotesPart_30 : decode cX9_quotesPart 30 = .ok (.iconst 1, 1) := by decide +kernel
theorem dX9_quotesPart_31 : decode cX9_quotesPart 31 = .ok (.iadd, 1) := by decide +kernel
theorem dX9_quotesPart_32 : decode cX9_quotesPart 32 = .ok (.iload 5, 2) := by decide +kernel
theorem dX9_quotesPart_34 : decode cX9_quotesPart 34 = .ok (.iadd, 1) := by decide +kernel
theorem dX9_quotesPart_35 : decode cX9_quotesPart 35 = .ok (.iload_n 3, 1) := by decide +kernel
theorem dX9_quotesPart_36 : decode cX9_quotesPart 36 = .ok (.isub, 1) := by decide +kernel
theorem dX9_quotesPart_37 : decode cX9_quotesPart 37 = .ok (.invokestatic 48, 3) := by decide +kernel
theorem dX9_quotesPart_40 : decode cX9_quotesPart 40 = .ok (.aload_n 0, 1) := by decide +kernel
theorem dX9_quotesPart_41 : decode cX9_quotesPart 41 = .ok (.getfield 7, 3) := by decide +kernel
theorem dX9_quotesPart_44 : decode cX9_quotesPart 44 = .ok (.iconst 1, 1) := by decide +kernel
theorem dX9_quotesPart_45 : decode cX9_quotesPart 45 = .ok (.iload 5, 2) := by decide +kernel
theorem dX9_quotesPart_47 : decode cX9_quotesPart 47 = .ok (.iadd, 1) := by decide +kernel
theorem dX9_quotesPart_48 : decode cX9_quotesPart 48 = .ok (.iaload, 1) := by decide +kernel
theorem dX9_quotesPart_49 : decode cX9_quotesPart 49 = .ok (.iastore, 1) := by decide +kernel
theorem dX9_quotesPart_50 : decode cX9_quotesPart 50 = .ok (.iinc 5 1, 3) := by decide +kernel
theorem dX9_quotesPart_53 : decode cX9_quotesPart 53 = .ok (.goto (-36), 3) := by decide +kernel
theorem dX9_quotesPart_56 : decode cX9_quotesPart 56 = .ok (.return_, 1) := by decide +kernel
theorem dX9_quotes_0 : decode cX9_quotes 0 = .ok (.aload_n 0, 1) := by decide +kernel
theorem dX9_quotes_1 : decode cX9_quotes 1 = .ok (.getfield 7, 3) := by decide +kernel
theorem dX9_quotes_4 : decode cX9_quotes 4 = .ok (.iload_n 1, 1) := by decide +kernel
theorem dX9_quotes_5 : decode cX9_quotes 5 = .ok (.iconst 2, 1) := by decide +kernel
theorem dX9_quotes_6 : decode cX9_quotes 6 = .ok (.invokestatic 48, 3) := by decide +kernel
theorem dX9_quotes_9 : decode cX9_quotes 9 = .ok (.iaload, 1) := by decide +kernel
theorem dX9_quotes_10 : decode cX9_quotes 10 = .ok (.istore_n 2, 1) := by decide +kernel
theorem dX9_quotes_11 : decode cX9_quotes 11 = .ok (.aload_n 0, 1) := by decide +kernel
theorem dX9_quotes_12 : decode cX9_quotes 12 = .ok (.getfield 7, 3) := by decide +kernel
theorem dX9_quotes_15 : decode cX9_quotes 15 = .ok (.iload_n 1, 1) := by decide +kernel
theorem dX9_quotes_16 : decode cX9_quotes 16 = .ok (.iconst 3, 1) := by decide +kernel
theorem dX9_quotes_17 : decode cX9_quotes 17 = .ok (.invokestatic 48, 3) := by decide +kernel
theorem dX9_quotes_20 : decode cX9_quotes 20 = .ok (.iaload, 1) := by decide +kernel
theorem dX9_quotes_21 : decode cX9_quotes 21 = .ok (.istore_n 3, 1) := by decide +kernel
theorem dX9_quotes_22 : decode cX9_quotes 22 = .ok (.aload_n 0, 1) := by decide +kernel
theorem dX9_quotes_23 : decode cX9_quotes 23 = .ok (.iload_n 1, 1) := by decide +kernel
theorem dX9_quotes_24 : decode cX9_quotes 24 = .ok (.iconst 5, 1) := by decide +kernel
theorem dX9_quotes_25 : decode cX9_quotes 25 = .ok (.iload_n 2, 1) := by decide +kernel
theorem dX9_quotes_26 : decode cX9_quotes 26 = .ok (.bipush 6, 2) := by decide +kernel
theorem dX9_quotes_28 : decode cX9_quotes 28 = .ok (.if_icmp .ge 7, 3) := by decide +kernel
theorem dX9_quotes_31 : decode cX9_quotes 31 = .ok (.iconst 0, 1) := by decide +kernel
theorem dX9_quotes_32 : decode cX9_quotes 32 = .ok (.goto 7, 3) := by decide +kernel
theorem dX9_quotes_35 : decode cX9_quotes 35 = .ok (.iload_n 2, 1) := by decide +kernel
theorem dX9_quotes_36 : decode cX9_quotes 36 = .ok (.bipush 6, 2) := by decide +kernel
theorem dX9_quotes_38 : decode cX9_quotes 38 = .ok (.isub, 1) := by decide +kernel
theorem dX9_quotes_39 : decode cX9_quotes 39 = .ok (.iload_n 2, 1) := by decide +kernel
theorem dX9_quotes_40 : decode cX9_quotes 40 = .ok (.invokevirtual 84, 3) := by decide +kernel
theorem dX9_quotes_43 : decode cX9_quotes 43 = .ok (.aload_n 0, 1) := by decide +kernel
theorem dX9_quotes_44 : decode cX9_quotes 44 = .ok (.iload_n 1, 1) := by decide +kernel
theorem dX9_quotes_45 : decode cX9_quotes 45 = .ok (.bipush 12, 2) := by decide +kernel
theorem dX9_quotes_47 : decode cX9_quotes 47 = .ok (.iload_n 2, 1) := by decide +kernel
theorem dX9_quotes_48 : decode cX9_quotes 48 = .ok (.iload_n 3, 1) := by decide +kernel
theorem dX9_quotes_49 : decode cX9_quotes 49 = .ok (.invokevirtual 84, 3) := by decide +kernel
theorem dX9_quotes_52 : decode cX9_quotes 52 = .ok (.aload_n 0, 1) := by decide +kernel
theorem dX9_quotes_53 : decode cX9_quotes 53 = .ok (.iload_n 1, 1) := by decide +kernel
theorem dX9_quotes_54 : decode cX9_quotes 54 = .ok (.bipush 29, 2) := by decide +kernel
theorem dX9_quotes_56 : decode cX9_quotes 56 = .ok (.iload_n 3, 1) := by decide +kernel
theorem dX9_quotes_57 : decode cX9_quotes 57 = .ok (.aload_n 0, 1) := by decide +kernel
theorem dX9_quotes_58 : decode cX9_quotes 58 = .ok (.getfield 7, 3) := by decide +kernel
theorem dX9_quotes_61 : decode cX9_quotes 61 = .ok (.iconst 0, 1) := by decide +kernel
theorem dX9_quotes_62 : decode cX9_quotes 62 = .ok (.iaload, 1) := by decide +kernel
theorem dX9_quotes_63 : decode cX9_quotes 63 = .ok (.iload_n 3, 1) := by decide +kernel
theorem dX9_quotes_64 : decode cX9_quotes 64 = .ok (.bipush 6, 2) := by decide +kernel
theorem dX9_quotes_66 : decode cX9_quotes 66 = .ok (.iadd, 1) := by decide +kernel
theorem dX9_quotes_67 : decode cX9_quotes 67 = .ok (.invokestatic 69, 3) := by decide +kernel
theorem dX9_quotes_70 : decode cX9_quotes 70 = .ok (.invokevirtual 84, 3) := by decide +kernel
theorem dX9_quotes_73 : decode cX9_quotes 73 = .ok (.return_, 1) := by decide +kernel
theorem dX9_comment_0 : decode cX9_comment 0 = .ok (.aload_n 0, 1) := by decide +kernel
theorem dX9_comment_1 : decode cX9_comment 1 = .ok (.iload_n 1, 1) := by decide +kernel
theorem dX9_comment_2 : decode cX9_comment 2 = .ok (.invokevirtual 76, 3) := by decide +kernel
theorem dX9_comment_5 : decode cX9_comment 5 = .ok (.ifCond .ne 7, 3) := by decide +kernel
theorem dX9_comment_8 : decode cX9_comment 8 = .ok (.sipush (-1001), 3) := by decide +kernel
theorem dX9_comment_11 : decode cX9_comment 11 = .ok (.ireturn, 1) := by decide +kernel
theorem dX9_comment_12 : decode cX9_comment 12 = .ok (.iload_n 2, 1) := by decide +kernel
theorem dX9_comment_13 : decode cX9_comment 13 = .ok (.iload_n 1, 1) := by decide +kernel
theorem dX9_comment_14 : decode cX9_comment 14 = .ok (.iconst 1, 1) := by decide +kernel
theorem dX9_comment_15 : decode cX9_comment 15 = .ok (.iadd, 1) := by decide +kernel
theorem dX9_comment_16 : decode cX9_comment 16 = .ok (.iload_n 1, 1) := by decide +kernel
theorem dX9_comment_17 : decode cX9_comment 17 = .ok (.bipush 16, 2) := by decide +kernel
theorem dX9_comment_19 : decode cX9_comment 19 = .ok (.iadd, 1) := by decide +kernel
theorem dX9_comment_20 : decode cX9_comment 20 = .ok (.invokestatic 52, 3) := by decide +kernel
theorem dX9_comment_23 : decode cX9_comment 23 = .ok (.ifCond .eq 11, 3) := by decide +kernel
theorem dX9_comment_26 : decode cX9_comment 26 = .ok (.aload_n 0, 1) := by decide +kernel
theorem dX9_comment_27 : decode cX9_comment 27 = .ok (.iload_n 2, 1) := by decide +kernel
theorem dX9_comment_28 : decode cX9_comment 28 = .ok (.invokevirtual 76, 3) := by decide +kernel
theorem dX9_comment_31 : decode cX9_comment 31 = .ok (.ifCond .ne 7, 3) := by decide +kernel
theorem dX9_comment_34 : decode cX9_comment 34 = .ok (.sipush (-1002), 3) := by decide +kernel
theorem dX9_comment_37 : decode cX9_comment 37 = .ok (.ireturn, 1) := by decide +kernel
theorem dX9_comment_38 : decode cX9_comment 38 = .ok (.aload_n 0, 1) := by decide +kernel
theorem dX9_comment_39 : decode cX9_comment 39 = .ok (.getfield 7, 3) := by decide +kernel
theorem dX9_comment_42 : decode cX9_comment 42 = .ok (.bipush 122, 2) := by decide +kernel
theorem dX9_comment_44 : decode cX9_comment 44 = .ok (.iaload, 1) := by decide +kernel
theorem dX9_comment_45 : decode cX9_comment 45 = .ok (.bipush 10, 2) := by decide +kernel
theorem dX9_comment_47 : decode cX9_comment 47 = .ok (.if_icmp .ne 7, 3) := by decide +kernel
theorem dX9_comment_50 : decode cX9_comment 50 = .ok (.sipush (-1004), 3) := by decide +kernel
theorem dX9_comment_53 : decode cX9_comment 53 = .ok (.ireturn, 1) := by decide +kernel
theorem dX9_comment_54 : decode cX9_comment 54 = .ok (.aload_n 0, 1) := by decide +kernel
theorem dX9_comment_55 : decode cX9_comment 55 = .ok (.invokevirtual 66, 3) := by decide +kernel
theorem dX9_comment_58 : decode cX9_comment 58 = .ok (.aload_n 0, 1) := by decide +kernel
theorem dX9_comment_59 : decode cX9_comment 59 = .ok (.getfield 7, 3) := by decide +kernel
theorem dX9_comment_62 : decode cX9_comment 62 = .ok (.bipush 122, 2) := by decide +kernel
theorem dX9_comment_64 : decode cX9_comment 64 = .ok (.iaload, 1) := by decide +kernel
theorem dX9_comment_65 : decode cX9_comment 65 = .ok (.istore_n 3, 1) := by decide +kernel
theorem dX9_comment_66 : decode cX9_comment 66 = .ok (.aload_n 0, 1) := by decide +kernel
theorem dX9_comment_67 : decode cX9_comment 67 = .ok (.getfield 7, 3) := by decide +kernel
theorem dX9_comment_70 : decode cX9_comment 70 = .ok (.bipush 122, 2) := by decide +kernel
theorem dX9_comment_72 : decode cX9_comment 72 = .ok (.dup2, 1) := by decide +kernel
theorem dX9_comment_73 : decode cX9_comment 73 = .ok (.iaload, 1) := by decide +kernel
theorem dX9_comment_74 : decode cX9_comment 74 = .ok (.iconst 1, 1) := by decide +kernel
theorem dX9_comment_75 : decode cX9_comment 75 = .ok (.iadd, 1) := by decide +kernel
theorem dX9_comment_76 : decode cX9_comment 76 = .ok (.iastore, 1) := by decide +kernel
theorem dX9_comment_77 : decode cX9_comment 77 = .ok (.aload_n 0, 1) := by decide +kernel
theorem dX9_comment_78 : decode cX9_comment 78 = .ok (.getfield 7, 3) := by decide +kernel
theorem dX9_comment_81 : decode cX9_comment 81 = .ok (.iload_n 3, 1) := by decide +kernel
theorem dX9_comment_82 : decode cX9_comment 82 = .ok (.iconst 0, 1) := by decide +kernel
theorem dX9_comment_83 : decode cX9_comment 83 = .ok (.invokestatic 48, 3) := by decide +kernel
theorem dX9_comment_86 : decode cX9_comment 86 = .ok (.aload_n 0, 1) := by decide +kernel
theorem dX9_comment_87 : decode cX9_comment 87 = .ok (.getfield 7, 3) := by decide +kernel
theorem dX9_comment_90 : decode cX9_comment 90 = .ok (.bipush 121, 2) := by decide +kernel
theorem dX9_comment_92 : decode cX9_comment 92 = .ok (.iaload, 1) := by decide +kernel
theorem dX9_comment_93 : decode cX9_comment 93 = .ok (.iastore, 1) := by decide +kernel
theorem dX9_comment_94 : decode cX9_comment 94 = .ok (.aload_n 0, 1) := by decide +kernel
theorem dX9_comment_95 : decode cX9_comment 95 = .ok (.getfield 7, 3) := by decide +kernel
theorem dX9_comment_98 : decode cX9_comment 98 = .ok (.iload_n 3, 1) := by decide +kernel
theorem dX9_comment_99 : decode cX9_comment 99 = .ok (.iconst 1, 1) := by decide +kernel
theorem dX9_comment_100 : decode cX9_comment 100 = .ok (.invokestatic 48, 3) := by decide +kernel
theorem dX9_comment_103 : decode cX9_comment 103 = .ok (.iconst 1, 1) := by decide +kernel
theorem dX9_comment_104 : decode cX9_comment 104 = .ok (.iastore, 1) := by decide +kernel
theorem dX9_comment_105 : decode cX9_comment 105 = .ok (.aload_n 0, 1) := by decide +kernel
theorem dX9_comment_106 : decode cX9_comment 106 = .ok (.getfield 7, 3) := by decide +kernel
theorem dX9_comment_109 : decode cX9_comment 109 = .ok (.iload_n 3, 1) := by decide +kernel
theorem dX9_comment_110 : decode cX9_comment 110 = .ok (.iconst 2, 1) := by decide +kernel
theorem dX9_comment_111 : decode cX9_comment 111 = .ok (.invokestatic 48, 3) := by decide +kernel
theorem dX9_comment_114 : decode cX9_comment 114 = .ok (.iload_n 1, 1) := by decide +kernel
theorem dX9_comment_115 : decode cX9_comment 115 = .ok (.iastore, 1) := by decide +kernel
theorem dX9_comment_116 : decode cX9_comment 116 = .ok (.aload_n 0, 1) := by decide +kernel
theorem dX9_comment_117 : decode cX9_comment 117 = .ok (.getfield 7, 3) := by decide +kernel
theorem dX9_comment_120 : decode cX9_comment 120 = .ok (.iload_n 3, 1) := by decide +kernel
theorem dX9_comment_121 : decode cX9_comment 121 = .ok (.iconst 3, 1) := by decide +kernel
theorem dX9_comment_122 : decode cX9_comment 122 = .ok (.invokestatic 48, 3) := by decide +kernel
theorem dX9_comment_125 : decode cX9_comment 125 = .ok (.iload_n 2, 1) := by decide +kernel
theorem dX9_comment_126 : decode cX9_comment 126 = .ok (.iastore, 1) := by decide +kernel
theorem dX9_comment_127 : decode cX9_comment 127 = .ok (.aload_n 0, 1) := by decide +kernel
theorem dX9_comment_128 : decode cX9_comment 128 = .ok (.getfield 7, 3) := by decide +kernel
theorem dX9_comment_131 : decode cX9_comment 131 = .ok (.iload_n 3, 1) := by decide +kernel
theorem dX9_comment_132 : decode cX9_comment 132 = .ok (.iconst 4, 1) := by decide +kernel
theorem dX9_comment_133 : decode cX9_comment 133 = .ok (.invokestatic 48, 3) := by decide +kernel
theorem dX9_comment_136 : decode cX9_comment 136 = .ok (.iconst 1, 1) := by decide +kernel
theorem dX9_comment_137 : decode cX9_comment 137 = .ok (.iastore, 1) := by decide +kernel
theorem dX9_comment_138 : decode cX9_comment 138 = .ok (.aload_n 0, 1) := by decide +kernel
theorem dX9_comment_139 : decode cX9_comment 139 = .ok (.iload_n 3, 1) := by decide +kernel
theorem dX9_comment_140 : decode cX9_comment 140 = .ok (.invokevirtual 88, 3) := by decide +kernel
theorem dX9_comment_143 : decode cX9_comment 143 = .ok (.aload_n 0, 1) := by decide +kernel
theorem dX9_comment_144 : decode cX9_comment 144 = .ok (.getfield 7, 3) := by decide +kernel
theorem dX9_comment_147 : decode cX9_comment 147 = .ok (.bipush 121, 2) := by decide +kernel
theorem dX9_comment_149 : decode cX9_comment 149 = .ok (.dup2, 1) := by decide +kernel
theorem dX9_comment_150 : decode cX9_comment 150 = .ok (.iaload, 1) := by decide +kernel
theorem dX9_comment_151 : decode cX9_comment 151 = .ok (.iconst 1, 1) := by decide +kernel
theorem dX9_comment_152 : decode cX9_comment 152 = .ok (.iadd, 1) := by decide +kernel
theorem dX9_comment_153 : decode cX9_comment 153 = .ok (.iastore, 1) := by decide +kernel
theorem dX9_comment_154 : decode cX9_comment 154 = .ok (.aload_n 0, 1) := by decide +kernel
theorem dX9_comment_155 : decode cX9_comment 155 = .ok (.aload_n 0, 1) := by decide +kernel
theorem dX9_comment_156 : decode cX9_comment 156 = .ok (.getfield 7, 3) := by decide +kernel
theorem dX9_comment_159 : decode cX9_comment 159 = .ok (.bipush 121, 2) := by decide +kernel
theorem dX9_comment_161 : decode cX9_comment 161 = .ok (.iaload, 1) := by decide +kernel
theorem dX9_comment_162 : decode cX9_comment 162 = .ok (.iconst 1, 1) := by decide +kernel
theorem dX9_comment_163 : decode cX9_comment 163 = .ok (.isub, 1) := by decide +kernel
theorem dX9_comment_164 : decode cX9_comment 164 = .ok (.invokevirtual 72, 3) := by decide +kernel
theorem dX9_comment_167 : decode cX9_comment 167 = .ok (.ireturn, 1) := by decide +kernel
theorem dX9_removes_0 : decode cX9_removes 0 = .ok (.aload_n 0, 1) := by decide +kernel
theorem dX9_removes_1 : decode cX9_removes 1 = .ok (.getfield 7, 3) := by decide +kernel
theorem dX9_removes_4 : decode cX9_removes 4 = .ok (.bipush 122, 2) := by decide +kernel
theorem dX9_removes_6 : decode cX9_removes 6 = .ok (.dup2, 1) := by decide +kernel
theorem dX9_removes_7 : decode cX9_removes 7 = .ok (.iaload, 1) := by decide +kernel
theorem dX9_removes_8 : decode cX9_removes 8 = .ok (.iconst 1, 1) := by decide +kernel
theorem dX9_removes_9 : decode cX9_removes 9 = .ok (.isub, 1) := by decide +kernel
theorem dX9_removes_10 : decode cX9_removes 10 = .ok (.iastore, 1) := by decide +kernel
theorem dX9_removes_11 : decode cX9_removes 11 = .ok (.iload_n 1, 1) := by decide +kernel
theorem dX9_removes_12 : decode cX9_removes 12 = .ok (.iconst 0, 1) := by decide +kernel
theorem dX9_removes_13 : decode cX9_removes 13 = .ok (.invokestatic 48, 3) := by decide +kernel
theorem dX9_removes_16 : decode cX9_removes 16 = .ok (.istore_n 2, 1) := by decide +kernel
theorem dX9_removes_17 : decode cX9_removes 17 = .ok (.iload_n 2, 1) := by decide +kernel
theorem dX9_removes_18 : decode cX9_removes 18 = .ok (.aload_n 0, 1) := by decide +kernel
theorem dX9_removes_19 : decode cX9_removes 19 = .ok (.getfield 7, 3) := by decide +kernel
theorem dX9_removes_22 : decode cX9_removes 22 = .ok (.bipush 122, 2) := by decide +kernel
theorem dX9_removes_24 : decode cX9_removes 24 = .ok (.iaload, 1) := by decide +kernel
theorem dX9_removes_25 : decode cX9_removes 25 = .ok (.iconst 0, 1) := by decide +kernel
theorem dX9_removes_26 : decode cX9_removes 26 = .ok (.invokestatic 48, 3) := by decide +kernel
theorem dX9_removes_29 : decode cX9_removes 29 = .ok (.if_icmp .ge 24, 3) := by decide +kernel
theorem dX9_removes_32 : decode cX9_removes 32 = .ok (.aload_n 0, 1) := by decide +kernel
theorem dX9_removes_33 : decode cX9_removes 33 = .ok (.getfield 7, 3) := by decide +kernel
theorem dX9_removes_36 : decode cX9_removes 36 = .ok (.iload_n 2, 1) := by decide +kernel
theorem dX9_removes_37 : decode cX9_removes 37 = .ok (.aload_n 0, 1) := by decide +kernel
theorem dX9_removes_38 : decode cX9_removes 38 = .ok (.getfield 7, 3) := by decide +kernel
theorem dX9_removes_41 : decode cX9_removes 41 = .ok (.iload_n 2, 1) := by decide +kernel
theorem dX9_removes_42 : decode cX9_removes 42 = .ok (.bipush 36, 2) := by decide +kernel
theorem dX9_removes_44 : decode cX9_removes 44 = .ok (.iadd, 1) := by decide +kernel
theorem dX9_removes_45 : decode cX9_removes 45 = .ok (.iaload, 1) := by decide +kernel
theorem dX9_removes_46 : decode cX9_removes 46 = .ok (.iastore, 1) := by decide +kernel
theorem dX9_removes_47 : decode cX9_removes 47 = .ok (.iinc 2 1, 3) := by decide +kernel
theorem dX9_removes_50 : decode cX9_removes 50 = .ok (.goto (-33), 3) := by decide +kernel
theorem dX9_removes_53 : decode cX9_removes 53 = .ok (.return_, 1) := by decide +kernel
theorem dX9_remove_0 : decode cX9_remove 0 = .ok (.aload_n 0, 1) := by decide +kernel
theorem dX9_remove_1 : decode cX9_remove 1 = .ok (.iload_n 1, 1) := by decide +kernel
theorem dX9_remove_2 : decode cX9_remove 2 = .ok (.invokevirtual 92, 3) := by decide +kernel
theorem dX9_remove_5 : decode cX9_remove 5 = .ok (.istore_n 2, 1) := by decide +kernel
theorem dX9_remove_6 : decode cX9_remove 6 = .ok (.iload_n 2, 1) := by decide +kernel
theorem dX9_remove_7 : decode cX9_remove 7 = .ok (.ifCond .ge 7, 3) := by decide +kernel
theorem dX9_remove_10 : decode cX9_remove 10 = .ok (.sipush (-1001), 3) := by decide +kernel
theorem dX9_remove_13 : decode cX9_remove 13 = .ok (.ireturn, 1) := by decide +kernel
theorem dX9_remove_14 : decode cX9_remove 14 = .ok (.aload_n 0, 1) := by decide +kernel
theorem dX9_remove_15 : decode cX9_remove 15 = .ok (.invokevirtual 66, 3) := by decide +kernel
theorem dX9_remove_18 : decode cX9_remove 18 = .ok (.aload_n 0, 1) := by decide +kernel
theorem dX9_remove_19 : decode cX9_remove 19 = .ok (.iload_n 2, 1) := by decide +kernel
theorem dX9_remove_20 : decode cX9_remove 20 = .ok (.invokevirtual 95, 3) := by decide +kernel
theorem dX9_remove_23 : decode cX9_remove 23 = .ok (.aload_n 0, 1) := by decide +kernel
theorem dX9_remove_24 : decode cX9_remove 24 = .ok (.aload_n 0, 1) := by decide +kernel
theorem dX9_remove_25 : decode cX9_remove 25 = .ok (.getfield 7, 3) := by decide +kernel
theorem dX9_remove_28 : decode cX9_remove 28 = .ok (.bipush 122, 2) := by decide +kernel
theorem dX9_remove_30 : decode cX9_remove 30 = .ok (.iaload, 1) := by decide +kernel
theorem dX9_remove_31 : decode cX9_remove 31 = .ok (.invokevirtual 72, 3) := by decide +kernel
theorem dX9_remove_34 : decode cX9_remove 34 = .ok (.ireturn, 1) := by decide +kernel
theorem dX9_quoteAnew_0 : decode cX9_quoteAnew 0 = .ok (.aload_n 0, 1) := by decide +kernel
theorem dX9_quoteAnew_1 : decode cX9_quoteAnew 1 = .ok (.iload_n 1, 1) := by decide +kernel
theorem dX9_quoteAnew_2 : decode cX9_quoteAnew 2 = .ok (.invokevirtual 92, 3) := by decide +kernel
theorem dX9_quoteAnew_5 : decode cX9_quoteAnew 5 = .ok (.istore_n 2, 1) := by decide +kernel
theorem dX9_quoteAnew_6 : decode cX9_quoteAnew 6 = .ok (.iload_n 2, 1) := by decide +kernel
theorem dX9_quoteAnew_7 : decode cX9_quoteAnew 7 = .ok (.ifCond .ge 7, 3) := by decide +kernel
theorem dX9_quoteAnew_10 : decode cX9_quoteAnew 10 = .ok (.sipush (-1001), 3) := by decide +kernel
theorem dX9_quoteAnew_13 : decode cX9_quoteAnew 13 = .ok (.ireturn, 1) := by decide +kernel
theorem dX9_quoteAnew_14 : decode cX9_quoteAnew 14 = .ok (.aload_n 0, 1) := by decide +kernel
theorem dX9_quoteAnew_15 : decode cX9_quoteAnew 15 = .ok (.getfield 7, 3) := by decide +kernel
theorem dX9_quoteAnew_18 : decode cX9_quoteAnew 18 = .ok (.iload_n 2, 1) := by decide +kernel
theorem dX9_quoteAnew_19 : decode cX9_quoteAnew 19 = .ok (.iconst 1, 1) := by decide +kernel
theorem dX9_quoteAnew_20 : decode cX9_quoteAnew 20 = .ok (.invokestatic 48, 3) := by decide +kernel
theorem dX9_quoteAnew_23 : decode cX9_quoteAnew 23 = .ok (.iaload, 1) := by decide +kernel
theorem dX9_quoteAnew_24 : decode cX9_quoteAnew 24 = .ok (.ifCond .eq 29, 3) := by decide +kernel
theorem dX9_quoteAnew_27 : decode cX9_quoteAnew 27 = .ok (.aload_n 0, 1) := by decide +kernel
theorem dX9_quoteAnew_28 : decode cX9_quoteAnew 28 = .ok (.getfield 7, 3) := by decide +kernel
theorem dX9_quoteAnew_31 : decode cX9_quoteAnew 31 = .ok (.iload_n 2, 1) := by decide +kernel
theorem dX9_quoteAnew_32 : decode cX9_quoteAnew 32 = .ok (.iconst 3, 1) := by decide +kernel
theorem dX9_quoteAnew_33 : decode cX9_quoteAnew 33 = .ok (.invokestatic 48, 3) := by decide +kernel
theorem dX9_quoteAnew_36 : decode cX9_quoteAnew 36 = .ok (.iaload, 1) := by decide +kernel
theorem dX9_quoteAnew_37 : decode cX9_quoteAnew 37 = .ok (.aload_n 0, 1) := by decide +kernel
theorem dX9_quoteAnew_38 : decode cX9_quoteAnew 38 = .ok (.getfield 7, 3) := by decide +kernel
theorem dX9_quoteAnew_41 : decode cX9_quoteAnew 41 = .ok (.iload_n 2, 1) := by decide +kernel
theorem dX9_quoteAnew_42 : decode cX9_quoteAnew 42 = .ok (.iconst 2, 1) := by decide +kernel
theorem dX9_quoteAnew_43 : decode cX9_quoteAnew 43 = .ok (.invokestatic 48, 3) := by decide +kernel
theorem dX9_quoteAnew_46 : decode cX9_quoteAnew 46 = .ok (.iaload, 1) := by decide +kernel
theorem dX9_quoteAnew_47 : decode cX9_quoteAnew 47 = .ok (.isub, 1) := by decide +kernel
theorem dX9_quoteAnew_48 : decode cX9_quoteAnew 48 = .ok (.bipush 16, 2) := by decide +kernel
theorem dX9_quoteAnew_50 : decode cX9_quoteAnew 50 = .ok (.if_icmp .le 7, 3) := by decide +kernel
theorem dX9_quoteAnew_53 : decode cX9_quoteAnew 53 = .ok (.sipush (-1003), 3) := by decide +kernel
theorem dX9_quoteAnew_56 : decode cX9_quoteAnew 56 = .ok (.ireturn, 1) := by decide +kernel
theorem dX9_quoteAnew_57 : decode cX9_quoteAnew 57 = .ok (.aload_n 0, 1) := by decide +kernel
theorem dX9_quoteAnew_58 : decode cX9_quoteAnew 58 = .ok (.invokevirtual 66, 3) := by decide +kernel
theorem dX9_quoteAnew_61 : decode cX9_quoteAnew 61 = .ok (.aload_n 0, 1) := by decide +kernel
theorem dX9_quoteAnew_62 : decode cX9_quoteAnew 62 = .ok (.iload_n 2, 1) := by decide +kernel
theorem dX9_quoteAnew_63 : decode cX9_quoteAnew 63 = .ok (.invokevirtual 88, 3) := by decide +kernel
theorem dX9_quoteAnew_66 : decode cX9_quoteAnew 66 = .ok (.aload_n 0, 1) := by decide +kernel
theorem dX9_quoteAnew_67 : decode cX9_quoteAnew 67 = .ok (.aload_n 0, 1) := by decide +kernel
theorem dX9_quoteAnew_68 : decode cX9_quoteAnew 68 = .ok (.getfield 7, 3) := by decide +kernel
theorem dX9_quoteAnew_71 : decode cX9_quoteAnew 71 = .ok (.iload_n 2, 1) := by decide +kernel
theorem dX9_quoteAnew_72 : decode cX9_quoteAnew 72 = .ok (.bipush 12, 2) := by decide +kernel
theorem dX9_quoteAnew_74 : decode cX9_quoteAnew 74 = .ok (.invokestatic 48, 3) := by decide +kernel
theorem dX9_quoteAnew_77 : decode cX9_quoteAnew 77 = .ok (.iaload, 1) := by decide +kernel
theorem dX9_quoteAnew_78 : decode cX9_quoteAnew 78 = .ok (.invokevirtual 72, 3) := by decide +kernel
theorem dX9_quoteAnew_81 : decode cX9_quoteAnew 81 = .ok (.ireturn, 1) := by decide +kernel
theorem dX9_startsLine_0 : decode cX9_startsLine 0 = .ok (.iconst 0, 1) := by decide +kernel
theorem dX9_startsLine_1 : decode cX9_startsLine 1 = .ok (.istore_n 2, 1) := by decide +kernel
theorem dX9_startsLine_2 : decode cX9_startsLine 2 = .ok (.iload_n 2, 1) := by decide +kernel
theorem dX9_startsLine_3 : decode cX9_startsLine 3 = .ok (.aload_n 0, 1) := by decide +kernel
theorem dX9_startsLine_4 : decode cX9_startsLine 4 = .ok (.getfield 7, 3) := by decide +kernel
theorem dX9_startsLine_7 : decode cX9_startsLine 7 = .ok (.iload_n 1, 1) := by decide +kernel
theorem dX9_startsLine_8 : decode cX9_startsLine 8 = .ok (.bipush 12, 2) := by decide +kernel
theorem dX9_startsLine_10 : decode cX9_startsLine 10 = .ok (.invokestatic 48, 3) := by decide +kernel
theorem dX9_startsLine_13 : decode cX9_startsLine 13 = .ok (.iaload, 1) := by decide +kernel
theorem dX9_startsLine_14 : decode cX9_startsLine 14 = .ok (.if_icmp .gt 16, 3) := by decide +kernel
theorem dX9_startsLine_17 : decode cX9_startsLine 17 = .ok (.aload_n 0, 1) := by decide +kernel
theorem dX9_startsLine_18 : decode cX9_startsLine 18 = .ok (.getfield 33, 3) := by decide +kernel
theorem dX9_startsLine_21 : decode cX9_startsLine 21 = .ok (.iload_n 2, 1) := by decide +kernel
theorem dX9_startsLine_22 : decode cX9_startsLine 22 = .ok (.iload_n 2, 1) := by decide +kernel
theorem dX9_startsLine_23 : decode cX9_startsLine 23 = .ok (.iastore, 1) := by decide +kernel
theorem dX9_startsLine_24 : decode cX9_startsLine 24 = .ok (.iinc 2 1, 3) := by decide +kernel
theorem dX9_startsLine_27 : decode cX9_startsLine 27 = .ok (.goto (-25), 3) := by decide +kernel
theorem dX9_startsLine_30 : decode cX9_startsLine 30 = .ok (.return_, 1) := by decide +kernel
theorem dX9_goesOn_0 : decode cX9_goesOn 0 = .ok (.aload_n 0, 1) := by decide +kernel
theorem dX9_goesOn_1 : decode cX9_goesOn 1 = .ok (.getfield 33, 3) := by decide +kernel
theorem dX9_goesOn_4 : decode cX9_goesOn 4 = .ok (.iconst 0, 1) := by decide +kernel
theorem dX9_goesOn_5 : decode cX9_goesOn 5 = .ok (.iaload, 1) := by decide +kernel
theorem dX9_goesOn_6 : decode cX9_goesOn 6 = .ok (.istore_n 3, 1) := by decide +kernel
theorem dX9_goesOn_7 : decode cX9_goesOn 7 = .ok (.aload_n 0, 1) := by decide +kernel
theorem dX9_goesOn_8 : decode cX9_goesOn 8 = .ok (.getfield 33, 3) := by decide +kernel
theorem dX9_goesOn_11 : decode cX9_goesOn 11 = .ok (.iconst 0, 1) := by decide +kernel
theorem dX9_goesOn_12 : decode cX9_goesOn 12 = .ok (.dup2, 1) := by decide +kernel
theorem dX9_goesOn_13 : decode cX9_goesOn 13 = .ok (.iaload, 1) := by decide +kernel
theorem dX9_goesOn_14 : decode cX9_goesOn 14 = .ok (.iconst 1, 1) := by decide +kernel
theorem dX9_goesOn_15 : decode cX9_goesOn 15 = .ok (.iadd, 1) := by decide +kernel
theorem dX9_goesOn_16 : decode cX9_goesOn 16 = .ok (.iastore, 1) := by decide +kernel
theorem dX9_goesOn_17 : decode cX9_goesOn 17 = .ok (.iconst 1, 1) := by decide +kernel
theorem dX9_goesOn_18 : decode cX9_goesOn 18 = .ok (.istore 4, 2) := by decide +kernel
theorem dX9_goesOn_20 : decode cX9_goesOn 20 = .ok (.iload 4, 2) := by decide +kernel
theorem dX9_goesOn_22 : decode cX9_goesOn 22 = .ok (.aload_n 0, 1) := by decide +kernel
theorem dX9_goesOn_23 : decode cX9_goesOn 23 = .ok (.getfield 7, 3) := by decide +kernel
theorem dX9_goesOn_26 : decode cX9_goesOn 26 = .ok (.iload_n 1, 1) := by decide +kernel
theorem dX9_goesOn_27 : decode cX9_goesOn 27 = .ok (.bipush 12, 2) := by decide +kernel
theorem dX9_goesOn_29 : decode cX9_goesOn 29 = .ok (.invokestatic 48, 3) := by decide +kernel
theorem dX9_goesOn_32 : decode cX9_goesOn 32 = .ok (.iaload, 1) := by decide +kernel
theorem dX9_goesOn_33 : decode cX9_goesOn 33 = .ok (.if_icmp .gt 77, 3) := by decide +kernel
theorem dX9_goesOn_36 : decode cX9_goesOn 36 = .ok (.iload_n 3, 1) := by decide +kernel
theorem dX9_goesOn_37 : decode cX9_goesOn 37 = .ok (.aload_n 0, 1) := by decide +kernel
theorem dX9_goesOn_38 : decode cX9_goesOn 38 = .ok (.getfield 7, 3) := by decide +kernel
theorem dX9_goesOn_41 : decode cX9_goesOn 41 = .ok (.iload_n 1, 1) := by decide +kernel
theorem dX9_goesOn_42 : decode cX9_goesOn 42 = .ok (.bipush 12, 2) := by decide +kernel
theorem dX9_goesOn_44 : decode cX9_goesOn 44 = .ok (.iload 4, 2) := by decide +kernel
theorem dX9_goesOn_46 : decode cX9_goesOn 46 = .ok (.iadd, 1) := by decide +kernel
theorem dX9_goesOn_47 : decode cX9_goesOn 47 = .ok (.invokestatic 48, 3) := by decide +kernel
theorem dX9_goesOn_50 : decode cX9_goesOn 50 = .ok (.iaload, 1) := by decide +kernel
theorem dX9_goesOn_51 : decode cX9_goesOn 51 = .ok (.iload_n 2, 1) := by decide +kernel
theorem dX9_goesOn_52 : decode cX9_goesOn 52 = .ok (.if_icmp .ne 7, 3) := by decide +kernel
theorem dX9_goesOn_55 : decode cX9_goesOn 55 = .ok (.iconst 0, 1) := by decide +kernel
theorem dX9_goesOn_56 : decode cX9_goesOn 56 = .ok (.goto 4, 3) := by decide +kernel
theorem dX9_goesOn_59 : decode cX9_goesOn 59 = .ok (.iconst 1, 1) := by decide +kernel
theorem dX9_goesOn_60 : decode cX9_goesOn 60 = .ok (.iadd, 1) := by decide +kernel
theorem dX9_goesOn_61 : decode cX9_goesOn 61 = .ok (.istore 5, 2) := by decide +kernel
theorem dX9_goesOn_63 : decode cX9_goesOn 63 = .ok (.aload_n 0, 1) := by decide +kernel
theorem dX9_goesOn_64 : decode cX9_goesOn 64 = .ok (.getfield 33, 3) := by decide +kernel
theorem dX9_goesOn_67 : decode cX9_goesOn 67 = .ok (.iload 4, 2) := by decide +kernel
theorem dX9_goesOn_69 : decode cX9_goesOn 69 = .ok (.iaload, 1) := by decide +kernel
theorem dX9_goesOn_70 : decode cX9_goesOn 70 = .ok (.istore_n 3, 1) := by decide +kernel
theorem dX9_goesOn_71 : decode cX9_goesOn 71 = .ok (.aload_n 0, 1) := by decide +kernel
theorem dX9_goesOn_72 : decode cX9_goesOn 72 = .ok (.getfield 33, 3) := by decide +kernel
theorem dX9_goesOn_75 : decode cX9_goesOn 75 = .ok (.iload 4, 2) := by decide +kernel
theorem dX9_goesOn_77 : decode cX9_goesOn 77 = .ok (.iload 5, 2) := by decide +kernel
theorem dX9_goesOn_79 : decode cX9_goesOn 79 = .ok (.iconst 1, 1) := by decide +kernel
theorem dX9_goesOn_80 : decode cX9_goesOn 80 = .ok (.aload_n 0, 1) := by decide +kernel
theorem dX9_goesOn_81 : decode cX9_goesOn 81 = .ok (.getfield 33, 3) := by decide +kernel
theorem dX9_goesOn_84 : decode cX9_goesOn 84 = .ok (.iload 4, 2) := by decide +kernel
theorem dX9_goesOn_86 : decode cX9_goesOn 86 = .ok (.iaload, 1) := by decide +kernel
theorem dX9_goesOn_87 : decode cX9_goesOn 87 = .ok (.aload_n 0, 1) := by decide +kernel
theorem dX9_goesOn_88 : decode cX9_goesOn 88 = .ok (.getfield 33, 3) := by decide +kernel
theorem dX9_goesOn_91 : decode cX9_goesOn 91 = .ok (.iload 4, 2) := by decide +kernel
theorem dX9_goesOn_93 : decode cX9_goesOn 93 = .ok (.iconst 1, 1) := by decide +kernel
theorem dX9_goesOn_94 : decode cX9_goesOn 94 = .ok (.isub, 1) := by decide +kernel
theorem dX9_goesOn_95 : decode cX9_goesOn 95 = .ok (.iaload, 1) := by decide +kernel
theorem dX9_goesOn_96 : decode cX9_goesOn 96 = .ok (.invokestatic 69, 3) := by decide +kernel
theorem dX9_goesOn_99 : decode cX9_goesOn 99 = .ok (.iadd, 1) := by decide +kernel
theorem dX9_goesOn_100 : decode cX9_goesOn 100 = .ok (.invokestatic 69, 3) := by decide +kernel
theorem dX9_goesOn_103 : decode cX9_goesOn 103 = .ok (.iastore, 1) := by decide +kernel
theorem dX9_goesOn_104 : decode cX9_goesOn 104 = .ok (.iinc 4 1, 3) := by decide +kernel
theorem dX9_goesOn_107 : decode cX9_goesOn 107 = .ok (.goto (-87), 3) := by decide +kernel
theorem dX9_goesOn_110 : decode cX9_goesOn 110 = .ok (.return_, 1) := by decide +kernel
theorem dX9_distanceOf_0 : decode cX9_distanceOf 0 = .ok (.aload_n 0, 1) := by decide +kernel
theorem dX9_distanceOf_1 : decode cX9_distanceOf 1 = .ok (.iload_n 1, 1) := by decide +kernel
theorem dX9_distanceOf_2 : decode cX9_distanceOf 2 = .ok (.invokevirtual 98, 3) := by decide +kernel
theorem dX9_distanceOf_5 : decode cX9_distanceOf 5 = .ok (.iload_n 2, 1) := by decide +kernel
theorem dX9_distanceOf_6 : decode cX9_distanceOf 6 = .ok (.istore 4, 2) := by decide +kernel
theorem dX9_distanceOf_8 : decode cX9_distanceOf 8 = .ok (.iload 4, 2) := by decide +kernel
theorem dX9_distanceOf_10 : decode cX9_distanceOf 10 = .ok (.iload_n 3, 1) := by decide +kernel
theorem dX9_distanceOf_11 : decode cX9_distanceOf 11 = .ok (.if_icmp .ge 23, 3) := by decide +kernel
theorem dX9_distanceOf_14 : decode cX9_distanceOf 14 = .ok (.aload_n 0, 1) := by decide +kernel
theorem dX9_distanceOf_15 : decode cX9_distanceOf 15 = .ok (.iload_n 1, 1) := by decide +kernel
theorem dX9_distanceOf_16 : decode cX9_distanceOf 16 = .ok (.aload_n 0, 1) := by decide +kernel
theorem dX9_distanceOf_17 : decode cX9_distanceOf 17 = .ok (.getfield 7, 3) := by decide +kernel
theorem dX9_distanceOf_20 : decode cX9_distanceOf 20 = .ok (.iconst 1, 1) := by decide +kernel
theorem dX9_distanceOf_21 : decode cX9_distanceOf 21 = .ok (.iload 4, 2) := by decide +kernel
theorem dX9_distanceOf_23 : decode cX9_distanceOf 23 = .ok (.iadd, 1) := by decide +kernel
theorem dX9_distanceOf_24 : decode cX9_distanceOf 24 = .ok (.iaload, 1) := by decide +kernel
theorem dX9_distanceOf_25 : decode cX9_distanceOf 25 = .ok (.invokevirtual 101, 3) := by decide +kernel
theorem dX9_distanceOf_28 : decode cX9_distanceOf 28 = .ok (.iinc 4 1, 3) := by decide +kernel
theorem dX9_distanceOf_31 : decode cX9_distanceOf 31 = .ok (.goto (-23), 3) := by decide +kernel
theorem dX9_distanceOf_34 : decode cX9_distanceOf 34 = .ok (.aload_n 0, 1) := by decide +kernel
theorem dX9_distanceOf_35 : decode cX9_distanceOf 35 = .ok (.getfield 33, 3) := by decide +kernel
theorem dX9_distanceOf_38 : decode cX9_distanceOf 38 = .ok (.aload_n 0, 1) := by decide +kernel
theorem dX9_distanceOf_39 : decode cX9_distanceOf 39 = .ok (.getfield 7, 3) := by decide +kernel
theorem dX9_distanceOf_42 : decode cX9_distanceOf 42 = .ok (.iload_n 1, 1) := by decide +kernel
theorem dX9_distanceOf_43 : decode cX9_distanceOf 43 = .ok (.bipush 12, 2) := by decide +kernel
theorem dX9_distanceOf_45 : decode cX9_distanceOf 45 = .ok (.invokestatic 48, 3) := by decide +kernel
theorem dX9_distanceOf_48 : decode cX9_distanceOf 48 = .ok (.iaload, 1) := by decide +kernel
theorem dX9_distanceOf_49 : decode cX9_distanceOf 49 = .ok (.iaload, 1) := by decide +kernel
theorem dX9_distanceOf_50 : decode cX9_distanceOf 50 = .ok (.ireturn, 1) := by decide +kernel
theorem dX9_before_0 : decode cX9_before 0 = .ok (.aload_n 0, 1) := by decide +kernel
theorem dX9_before_1 : decode cX9_before 1 = .ok (.getfield 7, 3) := by decide +kernel
theorem dX9_before_4 : decode cX9_before 4 = .ok (.iload_n 1, 1) := by decide +kernel
theorem dX9_before_5 : decode cX9_before 5 = .ok (.iconst 5, 1) := by decide +kernel
theorem dX9_before_6 : decode cX9_before 6 = .ok (.invokestatic 48, 3) := by decide +kernel
theorem dX9_before_9 : decode cX9_before 9 = .ok (.iaload, 1) := by decide +kernel
theorem dX9_before_10 : decode cX9_before 10 = .ok (.istore_n 3, 1) := by decide +kernel
theorem dX9_before_11 : decode cX9_before 11 = .ok (.iconst 0, 1) := by decide +kernel
theorem dX9_before_12 : decode cX9_before 12 = .ok (.istore 4, 2) := by decide +kernel
theorem dX9_before_14 : decode cX9_before 14 = .ok (.iload 4, 2) := by decide +kernel
theorem dX9_before_16 : decode cX9_before 16 = .ok (.iload_n 3, 1) := by decide +kernel
theorem dX9_before_17 : decode cX9_before 17 = .ok (.if_icmp .ge 46, 3) := by decide +kernel
theorem dX9_before_20 : decode cX9_before 20 = .ok (.iload 4, 2) := by decide +kernel
theorem dX9_before_22 : decode cX9_before 22 = .ok (.iload_n 2, 1) := by decide +kernel
theorem dX9_before_23 : decode cX9_before 23 = .ok (.if_icmp .ge 40, 3) := by decide +kernel
theorem dX9_before_26 : decode cX9_before 26 = .ok (.aload_n 0, 1) := by decide +kernel
theorem dX9_before_27 : decode cX9_before 27 = .ok (.getfield 7, 3) := by decide +kernel
theorem dX9_before_30 : decode cX9_before 30 = .ok (.iload_n 1, 1) := by decide +kernel
theorem dX9_before_31 : decode cX9_before 31 = .ok (.iconst 5, 1) := by decide +kernel
theorem dX9_before_32 : decode cX9_before 32 = .ok (.iload_n 3, 1) := by decide +kernel
theorem dX9_before_33 : decode cX9_before 33 = .ok (.iadd, 1) := by decide +kernel
theorem dX9_before_34 : decode cX9_before 34 = .ok (.iload 4, 2) := by decide +kernel
theorem dX9_before_36 : decode cX9_before 36 = .ok (.isub, 1) := by decide +kernel
theorem dX9_before_37 : decode cX9_before 37 = .ok (.invokestatic 48, 3) := by decide +kernel
theorem dX9_before_40 : decode cX9_before 40 = .ok (.iaload, 1) := by decide +kernel
theorem dX9_before_41 : decode cX9_before 41 = .ok (.aload_n 0, 1) := by decide +kernel
theorem dX9_before_42 : decode cX9_before 42 = .ok (.getfield 7, 3) := by decide +kernel
theorem dX9_before_45 : decode cX9_before 45 = .ok (.iconst 1, 1) := by decide +kernel
theorem dX9_before_46 : decode cX9_before 46 = .ok (.iload_n 2, 1) := by decide +kernel
theorem dX9_before_47 : decode cX9_before 47 = .ok (.iadd, 1) := by decide +kernel
theorem dX9_before_48 : decode cX9_before 48 = .ok (.iconst 1, 1) := by decide +kernel
theorem dX9_before_49 : decode cX9_before 49 = .ok (.isub, 1) := by decide +kernel
theorem dX9_before_50 : decode cX9_before 50 = .ok (.iload 4, 2) := by decide +kernel
theorem dX9_before_52 : decode cX9_before 52 = .ok (.isub, 1) := by decide +kernel
theorem dX9_before_53 : decode cX9_before 53 = .ok (.iaload, 1) := by decide +kernel
theorem dX9_before_54 : decode cX9_before 54 = .ok (.if_icmp .ne 9, 3) := by decide +kernel
theorem dX9_before_57 : decode cX9_before 57 = .ok (.iinc 4 1, 3) := by decide +kernel
theorem dX9_before_60 : decode cX9_before 60 = .ok (.goto (-46), 3) := by decide +kernel
theorem dX9_before_63 : decode cX9_before 63 = .ok (.iload 4, 2) := by decide +kernel
theorem dX9_before_65 : decode cX9_before 65 = .ok (.ireturn, 1) := by decide +kernel
theorem dX9_behind_0 : decode cX9_behind 0 = .ok (.iconst 0, 1) := by decide +kernel
theorem dX9_behind_1 : decode cX9_behind 1 = .ok (.istore_n 3, 1) := by decide +kernel
theorem dX9_behind_2 : decode cX9_behind 2 = .ok (.iload_n 3, 1) := by decide +kernel
theorem dX9_behind_3 : decode cX9_behind 3 = .ok (.aload_n 0, 1) := by decide +kernel
theorem dX9_behind_4 : decode cX9_behind 4 = .ok (.getfield 7, 3) := by decide +kernel
theorem dX9_behind_7 : decode cX9_behind 7 = .ok (.iload_n 1, 1) := by decide +kernel
theorem dX9_behind_8 : decode cX9_behind 8 = .ok (.bipush 29, 2) := by decide +kernel
theorem dX9_behind_10 : decode cX9_behind 10 = .ok (.invokestatic 48, 3) := by decide +kernel
theorem dX9_behind_13 : decode cX9_behind 13 = .ok (.iaload, 1) := by decide +kernel
theorem dX9_behind_14 : decode cX9_behind 14 = .ok (.if_icmp .ge 47, 3) := by decide +kernel
theorem dX9_behind_17 : decode cX9_behind 17 = .ok (.iload_n 2, 1) := by decide +kernel
theorem dX9_behind_18 : decode cX9_behind 18 = .ok (.iload_n 3, 1) := by decide +kernel
theorem dX9_behind_19 : decode cX9_behind 19 = .ok (.iadd, 1) := by decide +kernel
theorem dX9_behind_20 : decode cX9_behind 20 = .ok (.aload_n 0, 1) := by decide +kernel
theorem dX9_behind_21 : decode cX9_behind 21 = .ok (.getfield 7, 3) := by decide +kernel
theorem dX9_behind_24 : decode cX9_behind 24 = .ok (.iconst 0, 1) := by decide +kernel
theorem dX9_behind_25 : decode cX9_behind 25 = .ok (.iaload, 1) := by decide +kernel
theorem dX9_behind_26 : decode cX9_behind 26 = .ok (.if_icmp .ge 35, 3) := by decide +kernel
theorem dX9_behind_29 : decode cX9_behind 29 = .ok (.aload_n 0, 1) := by decide +kernel
theorem dX9_behind_30 : decode cX9_behind 30 = .ok (.getfield 7, 3) := by decide +kernel
theorem dX9_behind_33 : decode cX9_behind 33 = .ok (.iload_n 1, 1) := by decide +kernel
theorem dX9_behind_34 : decode cX9_behind 34 = .ok (.bipush 30, 2) := by decide +kernel
theorem dX9_behind_36 : decode cX9_behind 36 = .ok (.iload_n 3, 1) := by decide +kernel
theorem dX9_behind_37 : decode cX9_behind 37 = .ok (.iadd, 1) := by decide +kernel
theorem dX9_behind_38 : decode cX9_behind 38 = .ok (.invokestatic 48, 3) := by decide +kernel
theorem dX9_behind_41 : decode cX9_behind 41 = .ok (.iaload, 1) := by decide +kernel
theorem dX9_behind_42 : decode cX9_behind 42 = .ok (.aload_n 0, 1) := by decide +kernel
theorem dX9_behind_43 : decode cX9_behind 43 = .ok (.getfield 7, 3) := by decide +kernel
theorem dX9_behind_46 : decode cX9_behind 46 = .ok (.iconst 1, 1) := by decide +kernel
theorem dX9_behind_47 : decode cX9_behind 47 = .ok (.iload_n 2, 1) := by decide +kernel
theorem dX9_behind_48 : decode cX9_behind 48 = .ok (.iadd, 1) := by decide +kernel
theorem dX9_behind_49 : decode cX9_behind 49 = .ok (.iload_n 3, 1) := by decide +kernel
theorem dX9_behind_50 : decode cX9_behind 50 = .ok (.iadd, 1) := by decide +kernel
theorem dX9_behind_51 : decode cX9_behind 51 = .ok (.iaload, 1) := by decide +kernel
theorem dX9_behind_52 : decode cX9_behind 52 = .ok (.if_icmp .ne 9, 3) := by decide +kernel
theorem dX9_behind_55 : decode cX9_behind 55 = .ok (.iinc 3 1, 3) := by decide +kernel
theorem dX9_behind_58 : decode cX9_behind 58 = .ok (.goto (-56), 3) := by decide +kernel
theorem dX9_behind_61 : decode cX9_behind 61 = .ok (.iload_n 3, 1) := by decide +kernel
theorem dX9_behind_62 : decode cX9_behind 62 = .ok (.ireturn, 1) := by decide +kernel
theorem dX9_scored_0 : decode cX9_scored 0 = .ok (.iload_n 2, 1) := by decide +kernel
theorem dX9_scored_1 : decode cX9_scored 1 = .ok (.aload_n 0, 1) := by decide +kernel
theorem dX9_scored_2 : decode cX9_scored 2 = .ok (.getfield 7, 3) := by decide +kernel
theorem dX9_scored_5 : decode cX9_scored 5 = .ok (.iload_n 1, 1) := by decide +kernel
theorem dX9_scored_6 : decode cX9_scored 6 = .ok (.iconst 2, 1) := by decide +kernel
theorem dX9_scored_7 : decode cX9_scored 7 = .ok (.invokestatic 48, 3) := by decide +kernel
theorem dX9_scored_10 : decode cX9_scored 10 = .ok (.iaload, 1) := by decide +kernel
theorem dX9_scored_11 : decode cX9_scored 11 = .ok (.isub, 1) := by decide +kernel
theorem dX9_scored_12 : decode cX9_scored 12 = .ok (.istore 5, 2) := by decide +kernel
theorem dX9_scored_14 : decode cX9_scored 14 = .ok (.bipush 60, 2) := by decide +kernel
theorem dX9_scored_16 : decode cX9_scored 16 = .ok (.bipush 10, 2) := by decide +kernel
theorem dX9_scored_18 : decode cX9_scored 18 = .ok (.iload 4, 2) := by decide +kernel
theorem dX9_scored_20 : decode cX9_scored 20 = .ok (.imul, 1) := by decide +kernel
theorem dX9_scored_21 : decode cX9_scored 21 = .ok (.isub, 1) := by decide +kernel
theorem dX9_scored_22 : decode cX9_scored 22 = .ok (.iconst 4, 1) := by decide +kernel
theorem dX9_scored_23 : decode cX9_scored 23 = .ok (.aload_n 0, 1) := by decide +kernel
theorem dX9_scored_24 : decode cX9_scored 24 = .ok (.iload_n 1, 1) := by decide +kernel
theorem dX9_scored_25 : decode cX9_scored 25 = .ok (.iload_n 2, 1) := by decide +kernel
theorem dX9_scored_26 : decode cX9_scored 26 = .ok (.invokevirtual 105, 3) := by decide +kernel
theorem dX9_scored_29 : decode cX9_scored 29 = .ok (.imul, 1) := by decide +kernel
theorem dX9_scored_30 : decode cX9_scored 30 = .ok (.iadd, 1) := by decide +kernel
theorem dX9_scored_31 : decode cX9_scored 31 = .ok (.iconst 4, 1) := by decide +kernel
theorem dX9_scored_32 : decode cX9_scored 32 = .ok (.aload_n 0, 1) := by decide +kernel
theorem dX9_scored_33 : decode cX9_scored 33 = .ok (.iload_n 1, 1) := by decide +kernel
theorem dX9_scored_34 : decode cX9_scored 34 = .ok (.iload_n 3, 1) := by decide +kernel
theorem dX9_scored_35 : decode cX9_scored 35 = .ok (.invokevirtual 108, 3) := by decide +kernel
theorem dX9_scored_38 : decode cX9_scored 38 = .ok (.imul, 1) := by decide +kernel
theorem dX9_scored_39 : decode cX9_scored 39 = .ok (.iadd, 1) := by decide +kernel
theorem dX9_scored_40 : decode cX9_scored 40 = .ok (.iload 5, 2) := by decide +kernel
theorem dX9_scored_42 : decode cX9_scored 42 = .ok (.ifCond .ge 9, 3) := by decide +kernel
theorem dX9_scored_45 : decode cX9_scored 45 = .ok (.iload 5, 2) := by decide +kernel
theorem dX9_scored_47 : decode cX9_scored 47 = .ok (.ineg, 1) := by decide +kernel
theorem dX9_scored_48 : decode cX9_scored 48 = .ok (.goto 5, 3) := by decide +kernel
theorem dX9_scored_51 : decode cX9_scored 51 = .ok (.iload 5, 2) := by decide +kernel
theorem dX9_scored_53 : decode cX9_scored 53 = .ok (.iconst 5, 1) := by decide +kernel
theorem dX9_scored_54 : decode cX9_scored 54 = .ok (.idiv, 1) := by decide +kernel
theorem dX9_scored_55 : decode cX9_scored 55 = .ok (.isub, 1) := by decide +kernel
theorem dX9_scored_56 : decode cX9_scored 56 = .ok (.ireturn, 1) := by decide +kernel
theorem dX9_bestAt_0 : decode cX9_bestAt 0 = .ok (.aload_n 0, 1) := by decide +kernel
theorem dX9_bestAt_1 : decode cX9_bestAt 1 = .ok (.getfield 7, 3) := by decide +kernel
theorem dX9_bestAt_4 : decode cX9_bestAt 4 = .ok (.iload_n 1, 1) := by decide +kernel
theorem dX9_bestAt_5 : decode cX9_bestAt 5 = .ok (.bipush 12, 2) := by decide +kernel
theorem dX9_bestAt_7 : decode cX9_bestAt 7 = .ok (.invokestatic 48, 3) := by decide +kernel
theorem dX9_bestAt_10 : decode cX9_bestAt 10 = .ok (.iaload, 1) := by decide +kernel
theorem dX9_bestAt_11 : decode cX9_bestAt 11 = .ok (.istore_n 3, 1) := by decide +kernel
theorem dX9_bestAt_12 : decode cX9_bestAt 12 = .ok (.iconst 0, 1) := by decide +kernel
theorem dX9_bestAt_13 : decode cX9_bestAt 13 = .ok (.istore 4, 2) := by decide +kernel
theorem dX9_bestAt_15 : decode cX9_bestAt 15 = .ok (.aload_n 0, 1) := by decide +kernel
theorem dX9_bestAt_16 : decode cX9_bestAt 16 = .ok (.iload_n 1, 1) := by decide +kernel
theorem dX9_bestAt_17 : decode cX9_bestAt 17 = .ok (.invokevirtual 98, 3) := by decide +kernel
theorem dX9_bestAt_20 : decode cX9_bestAt 20 = .ok (.iconst 1, 1) := by decide +kernel
theorem dX9_bestAt_21 : decode cX9_bestAt 21 = .ok (.istore 5, 2) := by decide +kernel
theorem dX9_bestAt_23 : decode cX9_bestAt 23 = .ok (.iload 5, 2) := by decide +kernel
theorem dX9_bestAt_25 : decode cX9_bestAt 25 = .ok (.iload_n 3, 1) := by decide +kernel
theorem dX9_bestAt_26 : decode cX9_bestAt 26 = .ok (.iconst 3, 1) := by decide +kernel
theorem dX9_bestAt_27 : decode cX9_bestAt 27 = .ok (.iadd, 1) := by decide +kernel
theorem dX9_bestAt_28 : decode cX9_bestAt 28 = .ok (.if_icmp .gt 95, 3) := by decide +kernel
theorem dX9_bestAt_31 : decode cX9_bestAt 31 = .ok (.iload_n 2, 1) := by decide +kernel
theorem dX9_bestAt_32 : decode cX9_bestAt 32 = .ok (.iload 5, 2) := by decide +kernel
theorem dX9_bestAt_34 : decode cX9_bestAt 34 = .ok (.iadd, 1) := by decide +kernel
theorem dX9_bestAt_35 : decode cX9_bestAt 35 = .ok (.aload_n 0, 1) := by decide +kernel
theorem dX9_bestAt_36 : decode cX9_bestAt 36 = .ok (.getfield 7, 3) := by decide +kernel
theorem dX9_bestAt_39 : decode cX9_bestAt 39 = .ok (.iconst 0, 1) := by decide +kernel
theorem dX9_bestAt_40 : decode cX9_bestAt 40 = .ok (.iaload, 1) := by decide +kernel
theorem dX9_bestAt_41 : decode cX9_bestAt 41 = .ok (.if_icmp .gt 82, 3) := by decide +kernel
theorem dX9_bestAt_44 : decode cX9_bestAt 44 = .ok (.aload_n 0, 1) := by decide +kernel
theorem dX9_bestAt_45 : decode cX9_bestAt 45 = .ok (.iload_n 1, 1) := by decide +kernel
theorem dX9_bestAt_46 : decode cX9_bestAt 46 = .ok (.aload_n 0, 1) := by decide +kernel
theorem dX9_bestAt_47 : decode cX9_bestAt 47 = .ok (.getfield 7, 3) := by decide +kernel
theorem dX9_bestAt_50 : decode cX9_bestAt 50 = .ok (.iconst 1, 1) := by decide +kernel
theorem dX9_bestAt_51 : decode cX9_bestAt 51 = .ok (.iload_n 2, 1) := by decide +kernel
theorem dX9_bestAt_52 : decode cX9_bestAt 52 = .ok (.iadd, 1) := by decide +kernel
theorem dX9_bestAt_53 : decode cX9_bestAt 53 = .ok (.iload 5, 2) := by decide +kernel
theorem dX9_bestAt_55 : decode cX9_bestAt 55 = .ok (.iadd, 1) := by decide +kernel
theorem dX9_bestAt_56 : decode cX9_bestAt 56 = .ok (.iconst 1, 1) := by decide +kernel
theorem dX9_bestAt_57 : decode cX9_bestAt 57 = .ok (.isub, 1) := by decide +kernel
theorem dX9_bestAt_58 : decode cX9_bestAt 58 = .ok (.iaload, 1) := by decide +kernel
theorem dX9_bestAt_59 : decode cX9_bestAt 59 = .ok (.invokevirtual 101, 3) := by decide +kernel
theorem dX9_bestAt_62 : decode cX9_bestAt 62 = .ok (.aload_n 0, 1) := by decide +kernel
theorem dX9_bestAt_63 : decode cX9_bestAt 63 = .ok (.iload_n 1, 1) := by decide +kernel
theorem dX9_bestAt_64 : decode cX9_bestAt 64 = .ok (.iload_n 2, 1) := by decide +kernel
theorem dX9_bestAt_65 : decode cX9_bestAt 65 = .ok (.iload_n 2, 1) := by decide +kernel
theorem dX9_bestAt_66 : decode cX9_bestAt 66 = .ok (.iload 5, 2) := by decide +kernel
theorem dX9_bestAt_68 : decode cX9_bestAt 68 = .ok (.iadd, 1) := by decide +kernel
theorem dX9_bestAt_69 : decode cX9_bestAt 69 = .ok (.aload_n 0, 1) := by decide +kernel
theorem dX9_bestAt_70 : decode cX9_bestAt 70 = .ok (.getfield 33, 3) := by decide +kernel
theorem dX9_bestAt_73 : decode cX9_bestAt 73 = .ok (.iload_n 3, 1) := by decide +kernel
theorem dX9_bestAt_74 : decode cX9_bestAt 74 = .ok (.iaload, 1) := by decide +kernel
theorem dX9_bestAt_75 : decode cX9_bestAt 75 = .ok (.invokevirtual 111, 3) := by decide +kernel
theorem dX9_bestAt_78 : decode cX9_bestAt 78 = .ok (.istore 6, 2) := by decide +kernel
theorem dX9_bestAt_80 : decode cX9_bestAt 80 = .ok (.iload 5, 2) := by decide +kernel
theorem dX9_bestAt_82 : decode cX9_bestAt 82 = .ok (.iload_n 3, 1) := by decide +kernel
theorem dX9_bestAt_83 : decode cX9_bestAt 83 = .ok (.iconst 3, 1) := by decide +kernel
theorem dX9_bestAt_84 : decode cX9_bestAt 84 = .ok (.isub, 1) := by decide +kernel
theorem dX9_bestAt_85 : decode cX9_bestAt 85 = .ok (.if_icmp .lt 32, 3) := by decide +kernel
theorem dX9_bestAt_88 : decode cX9_bestAt 88 = .ok (.iload 4, 2) := by decide +kernel
theorem dX9_bestAt_90 : decode cX9_bestAt 90 = .ok (.ifCond .eq 12, 3) := by decide +kernel
theorem dX9_bestAt_93 : decode cX9_bestAt 93 = .ok (.iload 6, 2) := by decide +kernel
theorem dX9_bestAt_95 : decode cX9_bestAt 95 = .ok (.aload_n 0, 1) := by decide +kernel
theorem dX9_bestAt_96 : decode cX9_bestAt 96 = .ok (.getfield 115, 3) := by decide +kernel
theorem dX9_bestAt_99 : decode cX9_bestAt 99 = .ok (.if_icmp .le 18, 3) := by decide +kernel
theorem dX9_bestAt_102 : decode cX9_bestAt 102 = .ok (.aload_n 0, 1) := by decide +kernel
theorem dX9_bestAt_103 : decode cX9_bestAt 103 = .ok (.iload 6, 2) := by decide +kernel
theorem dX9_bestAt_105 : decode cX9_bestAt 105 = .ok (.putfield 115, 3) := by decide +kernel
theorem dX9_bestAt_108 : decode cX9_bestAt 108 = .ok (.aload_n 0, 1) := by decide +kernel
theorem dX9_bestAt_109 : decode cX9_bestAt 109 = .ok (.iload 5, 2) := by decide +kernel
theorem dX9_bestAt_111 : decode cX9_bestAt 111 = .ok (.putfield 118, 3) := by decide +kernel
theorem dX9_bestAt_114 : decode cX9_bestAt 114 = .ok (.iconst 1, 1) := by decide +kernel
theorem dX9_bestAt_115 : decode cX9_bestAt 115 = .ok (.istore 4, 2) := by decide +kernel
theorem dX9_bestAt_117 : decode cX9_bestAt 117 = .ok (.iinc 5 1, 3) := by decide +kernel
theorem dX9_bestAt_120 : decode cX9_bestAt 120 = .ok (.goto (-97), 3) := by decide +kernel
theorem dX9_bestAt_123 : decode cX9_bestAt 123 = .ok (.iload 4, 2) := by decide +kernel
theorem dX9_bestAt_125 : decode cX9_bestAt 125 = .ok (.ireturn, 1) := by decide +kernel
theorem dX9_findBest_0 : decode cX9_findBest 0 = .ok (.iconst 0, 1) := by decide +kernel
theorem dX9_findBest_1 : decode cX9_findBest 1 = .ok (.istore_n 2, 1) := by decide +kernel
theorem dX9_findBest_2 : decode cX9_findBest 2 = .ok (.iconst 0, 1) := by decide +kernel
theorem dX9_findBest_3 : decode cX9_findBest 3 = .ok (.istore_n 3, 1) := by decide +kernel
theorem dX9_findBest_4 : decode cX9_findBest 4 = .ok (.iload_n 3, 1) := by decide +kernel
theorem dX9_findBest_5 : decode cX9_findBest 5 = .ok (.aload_n 0, 1) := by decide +kernel
theorem dX9_findBest_6 : decode cX9_findBest 6 = .ok (.getfield 7, 3) := by decide +kernel
theorem dX9_findBest_9 : decode cX9_findBest 9 = .ok (.iconst 0, 1) := by decide +kernel
theorem dX9_findBest_10 : decode cX9_findBest 10 = .ok (.iaload, 1) := by decide +kernel
theorem dX9_findBest_11 : decode cX9_findBest 11 = .ok (.if_icmp .ge 56, 3) := by decide +kernel
theorem dX9_findBest_14 : decode cX9_findBest 14 = .ok (.aload_n 0, 1) := by decide +kernel
theorem dX9_findBest_15 : decode cX9_findBest 15 = .ok (.iload_n 1, 1) := by decide +kernel
theorem dX9_findBest_16 : decode cX9_findBest 16 = .ok (.iload_n 3, 1) := by decide +kernel
theorem dX9_findBest_17 : decode cX9_findBest 17 = .ok (.invokevirtual 121, 3) := by decide +kernel
theorem dX9_findBest_20 : decode cX9_findBest 20 = .ok (.ifCond .eq 41, 3) := by decide +kernel
theorem dX9_findBest_23 : decode cX9_findBest 23 = .ok (.iload_n 2, 1) := by decide +kernel
theorem dX9_findBest_24 : decode cX9_findBest 24 = .ok (.ifCond .eq 14, 3) := by decide +kernel
theorem dX9_findBest_27 : decode cX9_findBest 27 = .ok (.aload_n 0, 1) := by decide +kernel
theorem dX9_findBest_28 : decode cX9_findBest 28 = .ok (.getfield 115, 3) := by decide +kernel
theorem dX9_findBest_31 : decode cX9_findBest 31 = .ok (.aload_n 0, 1) := by decide +kernel
theorem dX9_findBest_32 : decode cX9_findBest 32 = .ok (.getfield 125, 3) := by decide +kernel
theorem dX9_findBest_35 : decode cX9_findBest 35 = .ok (.if_icmp .le 26, 3) := by decide +kernel
theorem dX9_findBest_38 : decode cX9_findBest 38 = .ok (.aload_n 0, 1) := by decide +kernel
theorem dX9_findBest_39 : decode cX9_findBest 39 = .ok (.aload_n 0, 1) := by decide +kernel
theorem dX9_findBest_40 : decode cX9_findBest 40 = .ok (.getfield 115, 3) := by decide +kernel
theorem dX9_findBest_43 : decode cX9_findBest 43 = .ok (.putfield 125, 3) := by decide +kernel
theorem dX9_findBest_46 : decode cX9_findBest 46 = .ok (.aload_n 0, 1) := by decide +kernel
theorem dX9_findBest_47 : decode cX9_findBest 47 = .ok (.iload_n 3, 1) := by decide +kernel
theorem dX9_findBest_48 : decode cX9_findBest 48 = .ok (.putfield 128, 3) := by decide +kernel
theorem dX9_findBest_51 : decode cX9_findBest 51 = .ok (.aload_n 0, 1) := by decide +kernel
theorem dX9_findBest_52 : decode cX9_findBest 52 = .ok (.aload_n 0, 1) := by decide +kernel
theorem dX9_findBest_53 : decode cX9_findBest 53 = .ok (.getfield 118, 3) := by decide +kernel
theorem dX9_findBest_56 : decode cX9_findBest 56 = .ok (.putfield 131, 3) := by decide +kernel
theorem dX9_findBest_59 : decode cX9_findBest 59 = .ok (.iconst 1, 1) := by decide +kernel
theorem dX9_findBest_60 : decode cX9_findBest 60 = .ok (.istore_n 2, 1) := by decide +kernel
theorem dX9_findBest_61 : decode cX9_findBest 61 = .ok (.iinc 3 1, 3) := by decide +kernel
theorem dX9_findBest_64 : decode cX9_findBest 64 = .ok (.goto (-60), 3) := by decide +kernel
theorem dX9_findBest_67 : decode cX9_findBest 67 = .ok (.iload_n 2, 1) := by decide +kernel
theorem dX9_findBest_68 : decode cX9_findBest 68 = .ok (.ireturn, 1) := by decide +kernel
theorem dX9_attaches_0 : decode cX9_attaches 0 = .ok (.aload_n 0, 1) := by decide +kernel
theorem dX9_attaches_1 : decode cX9_attaches 1 = .ok (.getfield 7, 3) := by decide +kernel
theorem dX9_attaches_4 : decode cX9_attaches 4 = .ok (.iload_n 1, 1) := by decide +kernel
theorem dX9_attaches_5 : decode cX9_attaches 5 = .ok (.iconst 1, 1) := by decide +kernel
theorem dX9_attaches_6 : decode cX9_attaches 6 = .ok (.invokestatic 48, 3) := by decide +kernel
theorem dX9_attaches_9 : decode cX9_attaches 9 = .ok (.iconst 1, 1) := by decide +kernel
theorem dX9_attaches_10 : decode cX9_attaches 10 = .ok (.iastore, 1) := by decide +kernel
theorem dX9_attaches_11 : decode cX9_attaches 11 = .ok (.aload_n 0, 1) := by decide +kernel
theorem dX9_attaches_12 : decode cX9_attaches 12 = .ok (.getfield 7, 3) := by decide +kernel
theorem dX9_attaches_15 : decode cX9_attaches 15 = .ok (.iload_n 1, 1) := by decide +kernel
theorem dX9_attaches_16 : decode cX9_attaches 16 = .ok (.iconst 2, 1) := by decide +kernel
theorem dX9_attaches_17 : decode cX9_attaches 17 = .ok (.invokestatic 48, 3) := by decide +kernel
theorem dX9_attaches_20 : decode cX9_attaches 20 = .ok (.iload_n 2, 1) := by decide +kernel
theorem dX9_attaches_21 : decode cX9_attaches 21 = .ok (.iastore, 1) := by decide +kernel
theorem dX9_attaches_22 : decode cX9_attaches 22 = .ok (.aload_n 0, 1) := by decide +kernel
theorem dX9_attaches_23 : decode cX9_attaches 23 = .ok (.getfield 7, 3) := by decide +kernel
theorem dX9_attaches_26 : decode cX9_attaches 26 = .ok (.iload_n 1, 1) := by decide +kernel
theorem dX9_attaches_27 : decode cX9_attaches 27 = .ok (.iconst 3, 1) := by decide +kernel
theorem dX9_attaches_28 : decode cX9_attaches 28 = .ok (.invokestatic 48, 3) := by decide +kernel
theorem dX9_attaches_31 : decode cX9_attaches 31 = .ok (.iload_n 2, 1) := by decide +kernel
theorem dX9_attaches_32 : decode cX9_attaches 32 = .ok (.iload_n 3, 1) := by decide +kernel
theorem dX9_attaches_33 : decode cX9_attaches 33 = .ok (.iadd, 1) := by decide +kernel
theorem dX9_attaches_34 : decode cX9_attaches 34 = .ok (.iastore, 1) := by decide +kernel
theorem dX9_attaches_35 : decode cX9_attaches 35 = .ok (.return_, 1) := by decide +kernel
theorem dX9_attach_0 : decode cX9_attach 0 = .ok (.aload_n 0, 1) := by decide +kernel
theorem dX9_attach_1 : decode cX9_attach 1 = .ok (.iload_n 1, 1) := by decide +kernel
theorem dX9_attach_2 : decode cX9_attach 2 = .ok (.invokevirtual 92, 3) := by decide +kernel
theorem dX9_attach_5 : decode cX9_attach 5 = .ok (.istore_n 2, 1) := by decide +kernel
theorem dX9_attach_6 : decode cX9_attach 6 = .ok (.iload_n 2, 1) := by decide +kernel
theorem dX9_attach_7 : decode cX9_attach 7 = .ok (.ifCond .ge 7, 3) := by decide +kernel
theorem dX9_attach_10 : decode cX9_attach 10 = .ok (.sipush (-1001), 3) := by decide +kernel
theorem dX9_attach_13 : decode cX9_attach 13 = .ok (.ireturn, 1) := by decide +kernel
theorem dX9_attach_14 : decode cX9_attach 14 = .ok (.aload_n 0, 1) := by decide +kernel
theorem dX9_attach_15 : decode cX9_attach 15 = .ok (.getfield 7, 3) := by decide +kernel
theorem dX9_attach_18 : decode cX9_attach 18 = .ok (.iload_n 2, 1) := by decide +kernel
theorem dX9_attach_19 : decode cX9_attach 19 = .ok (.iconst 1, 1) := by decide +kernel
theorem dX9_attach_20 : decode cX9_attach 20 = .ok (.invokestatic 48, 3) := by decide +kernel
theorem dX9_attach_23 : decode cX9_attach 23 = .ok (.iaload, 1) := by decide +kernel
theorem dX9_attach_24 : decode cX9_attach 24 = .ok (.iconst 1, 1) := by decide +kernel
theorem dX9_attach_25 : decode cX9_attach 25 = .ok (.if_icmp .ne 7, 3) := by decide +kernel
theorem dX9_attach_28 : decode cX9_attach 28 = .ok (.sipush (-1003), 3) := by decide +kernel
theorem dX9_attach_31 : decode cX9_attach 31 = .ok (.ireturn, 1) := by decide +kernel
theorem dX9_attach_32 : decode cX9_attach 32 = .ok (.aload_n 0, 1) := by decide +kernel
theorem dX9_attach_33 : decode cX9_attach 33 = .ok (.iload_n 2, 1) := by decide +kernel
theorem dX9_attach_34 : decode cX9_attach 34 = .ok (.invokevirtual 134, 3) := by decide +kernel
theorem dX9_attach_37 : decode cX9_attach 37 = .ok (.ifCond .eq 14, 3) := by decide +kernel
theorem dX9_attach_40 : decode cX9_attach 40 = .ok (.aload_n 0, 1) := by decide +kernel
theorem dX9_attach_41 : decode cX9_attach 41 = .ok (.getfield 125, 3) := by decide +kernel
theorem dX9_attach_44 : decode cX9_attach 44 = .ok (.aload_n 0, 1) := by decide +kernel
theorem dX9_attach_45 : decode cX9_attach 45 = .ok (.getfield 26, 3) := by decide +kernel
theorem dX9_attach_48 : decode cX9_attach 48 = .ok (.if_icmp .ge 7, 3) := by decide +kernel
theorem dX9_attach_51 : decode cX9_attach 51 = .ok (.sipush (-1005), 3) := by decide +kernel
theorem dX9_attach_54 : decode cX9_attach 54 = .ok (.ireturn, 1) := by decide +kernel
theorem dX9_attach_55 : decode cX9_attach 55 = .ok (.aload_n 0, 1) := by decide +kernel
theorem dX9_attach_56 : decode cX9_attach 56 = .ok (.invokevirtual 66, 3) := by decide +kernel
theorem dX9_attach_59 : decode cX9_attach 59 = .ok (.aload_n 0, 1) := by decide +kernel
theorem dX9_attach_60 : decode cX9_attach 60 = .ok (.iload_n 2, 1) := by decide +kernel
theorem dX9_attach_61 : decode cX9_attach 61 = .ok (.aload_n 0, 1) := by decide +kernel
theorem dX9_attach_62 : decode cX9_attach 62 = .ok (.getfield 128, 3) := by decide +kernel
theorem dX9_attach_65 : decode cX9_attach 65 = .ok (.aload_n 0, 1) := by decide +kernel
theorem dX9_attach_66 : decode cX9_attach 66 = .ok (.getfield 131, 3) := by decide +kernel
theorem dX9_attach_69 : decode cX9_attach 69 = .ok (.invokevirtual 137, 3) := by decide +kernel
theorem dX9_attach_72 : decode cX9_attach 72 = .ok (.aload_n 0, 1) := by decide +kernel
theorem dX9_attach_73 : decode cX9_attach 73 = .ok (.aload_n 0, 1) := by decide +kernel
theorem dX9_attach_74 : decode cX9_attach 74 = .ok (.getfield 128, 3) := by decide +kernel
theorem dX9_attach_77 : decode cX9_attach 77 = .ok (.invokevirtual 72, 3) := by decide +kernel
theorem dX9_attach_80 : decode cX9_attach 80 = .ok (.ireturn, 1) := by decide +kernel
theorem dX9_findOrder_0 : decode cX9_findOrder 0 = .ok (.aload_n 0, 1) := by decide +kernel
theorem dX9_findOrder_1 : decode cX9_findOrder 1 = .ok (.iconst 0, 1) := by decide +kernel
theorem dX9_findOrder_2 : decode cX9_findOrder 2 = .ok (.putfield 141, 3) := by decide +kernel
theorem dX9_findOrder_5 : decode cX9_findOrder 5 = .ok (.iconst 0, 1) := by decide +kernel
theorem dX9_findOrder_6 : decode cX9_findOrder 6 = .ok (.istore_n 1, 1) := by decide +kernel
theorem dX9_findOrder_7 : decode cX9_findOrder 7 = .ok (.iload_n 1, 1) := by decide +kernel
theorem dX9_findOrder_8 : decode cX9_findOrder 8 = .ok (.aload_n 0, 1) := by decide +kernel
theorem dX9_findOrder_9 : decode cX9_findOrder 9 = .ok (.getfield 7, 3) := by decide +kernel
theorem dX9_findOrder_12 : decode cX9_findOrder 12 = .ok (.bipush 122, 2) := by decide +kernel
theorem dX9_findOrder_14 : decode cX9_findOrder 14 = .ok (.iaload, 1) := by decide +kernel
theorem dX9_findOrder_15 : decode cX9_findOrder 15 = .ok (.if_icmp .ge 98, 3) := by decide +kernel
theorem dX9_findOrder_18 : decode cX9_findOrder 18 = .ok (.aload_n 0, 1) := by decide +kernel
theorem dX9_findOrder_19 : decode cX9_findOrder 19 = .ok (.getfield 7, 3) := by decide +kernel
theorem dX9_findOrder_22 : decode cX9_findOrder 22 = .ok (.iload_n 1, 1) := by decide +kernel
theorem dX9_findOrder_23 : decode cX9_findOrder 23 = .ok (.iconst 1, 1) := by decide +kernel
theorem dX9_findOrder_24 : decode cX9_findOrder 24 = .ok (.invokestatic 48, 3) := by decide +kernel
theorem dX9_findOrder_27 : decode cX9_findOrder 27 = .ok (.iaload, 1) := by decide +kernel
theorem dX9_findOrder_28 : decode cX9_findOrder 28 = .ok (.ifCond .ne 79, 3) := by decide +kernel
theorem dX9_findOrder_31 : decode cX9_findOrder 31 = .ok (.aload_n 0, 1) := by decide +kernel
theorem dX9_findOrder_32 : decode cX9_findOrder 32 = .ok (.getfield 141, 3) := by decide +kernel
theorem dX9_findOrder_35 : decode cX9_findOrder 35 = .ok (.istore_n 2, 1) := by decide +kernel
theorem dX9_findOrder_36 : decode cX9_findOrder 36 = .ok (.iload_n 2, 1) := by decide +kernel
theorem dX9_findOrder_37 : decode cX9_findOrder 37 = .ok (.ifCond .le 53, 3) := by decide +kernel
theorem dX9_findOrder_40 : decode cX9_findOrder 40 = .ok (.aload_n 0, 1) := by decide +kernel
theorem dX9_findOrder_41 : decode cX9_findOrder 41 = .ok (.getfield 7, 3) := by decide +kernel
theorem dX9_findOrder_44 : decode cX9_findOrder 44 = .ok (.aload_n 0, 1) := by decide +kernel
theorem dX9_findOrder_45 : decode cX9_findOrder 45 = .ok (.getfield 36, 3) := by decide +kernel
theorem dX9_findOrder_48 : decode cX9_findOrder 48 = .ok (.iload_n 2, 1) := by decide +kernel
theorem dX9_findOrder_49 : decode cX9_findOrder 49 = .ok (.iconst 1, 1) := by decide +kernel
theorem dX9_findOrder_50 : decode cX9_findOrder 50 = .ok (.isub, 1) := by decide +kernel
theorem dX9_findOrder_51 : decode cX9_findOrder 51 = .ok (.iaload, 1) := by decide +kernel
theorem dX9_findOrder_52 : decode cX9_findOrder 52 = .ok (.iconst 2, 1) := by decide +kernel
theorem dX9_findOrder_53 : decode cX9_findOrder 53 = .ok (.invokestatic 48, 3) := by decide +kernel
theorem dX9_findOrder_56 : decode cX9_findOrder 56 = .ok (.iaload, 1) := by decide +kernel
theorem dX9_findOrder_57 : decode cX9_findOrder 57 = .ok (.aload_n 0, 1) := by decide +kernel
theorem dX9_findOrder_58 : decode cX9_findOrder 58 = .ok (.getfield 7, 3) := by decide +kernel
theorem dX9_findOrder_61 : decode cX9_findOrder 61 = .ok (.iload_n 1, 1) := by decide +kernel
theorem dX9_findOrder_62 : decode cX9_findOrder 62 = .ok (.iconst 2, 1) := by decide +kernel
theorem dX9_findOrder_63 : decode cX9_findOrder 63 = .ok (.invokestatic 48, 3) := by decide +kernel
theorem dX9_findOrder_66 : decode cX9_findOrder 66 = .ok (.iaload, 1) := by decide +kernel
theorem dX9_findOrder_67 : decode cX9_findOrder 67 = .ok (.if_icmp .le 23, 3) := by decide +kernel
theorem dX9_findOrder_70 : decode cX9_findOrder 70 = .ok (.aload_n 0, 1) := by decide +kernel
theorem dX9_findOrder_71 : decode cX9_findOrder 71 = .ok (.getfield 36, 3) := by decide +kernel
theorem dX9_findOrder_74 : decode cX9_findOrder 74 = .ok (.iload_n 2, 1) := by decide +kernel
theorem dX9_findOrder_75 : decode cX9_findOrder 75 = .ok (.aload_n 0, 1) := by decide +kernel
theorem dX9_findOrder_76 : decode cX9_findOrder 76 = .ok (.getfield 36, 3) := by decide +kernel
theorem dX9_findOrder_79 : decode cX9_findOrder 79 = .ok (.iload_n 2, 1) := by decide +kernel
theorem dX9_findOrder_80 : decode cX9_findOrder 80 = .ok (.iconst 1, 1) := by decide +kernel
theorem dX9_findOrder_81 : decode cX9_findOrder 81 = .ok (.isub, 1) := by decide +kernel
theorem dX9_findOrder_82 : decode cX9_findOrder 82 = .ok (.iaload, 1) := by decide +kernel
theorem dX9_findOrder_83 : decode cX9_findOrder 83 = .ok (.iastore, 1) := by decide +kernel
theorem dX9_findOrder_84 : decode cX9_findOrder 84 = .ok (.iinc 2 (-1), 3) := by decide +kernel
theorem dX9_findOrder_87 : decode cX9_findOrder 87 = .ok (.goto (-51), 3) := by decide +kernel
theorem dX9_findOrder_90 : decode cX9_findOrder 90 = .ok (.aload_n 0, 1) := by decide +kernel
theorem dX9_findOrder_91 : decode cX9_findOrder 91 = .ok (.getfield 36, 3) := by decide +kernel
theorem dX9_findOrder_94 : decode cX9_findOrder 94 = .ok (.iload_n 2, 1) := by decide +kernel
theorem dX9_findOrder_95 : decode cX9_findOrder 95 = .ok (.iload_n 1, 1) := by decide +kernel
theorem dX9_findOrder_96 : decode cX9_findOrder 96 = .ok (.iastore, 1) := by decide +kernel
theorem dX9_findOrder_97 : decode cX9_findOrder 97 = .ok (.aload_n 0, 1) := by decide +kernel
theorem dX9_findOrder_98 : decode cX9_findOrder 98 = .ok (.dup, 1) := by decide +kernel
theorem dX9_findOrder_99 : decode cX9_findOrder 99 = .ok (.getfield 141, 3) := by decide +kernel
theorem dX9_findOrder_102 : decode cX9_findOrder 102 = .ok (.iconst 1, 1) := by decide +kernel
theorem dX9_findOrder_103 : decode cX9_findOrder 103 = .ok (.iadd, 1) := by decide +kernel
theorem dX9_findOrder_104 : decode cX9_findOrder 104 = .ok (.putfield 141, 3) := by decide +kernel
theorem dX9_findOrder_107 : decode cX9_findOrder 107 = .ok (.iinc 1 1, 3) := by decide +kernel
theorem dX9_findOrder_110 : decode cX9_findOrder 110 = .ok (.goto (-103), 3) := by decide +kernel
theorem dX9_findOrder_113 : decode cX9_findOrder 113 = .ok (.return_, 1) := by decide +kernel
theorem dX9_findScores_0 : decode cX9_findScores 0 = .ok (.iconst 0, 1) := by decide +kernel
theorem dX9_findScores_1 : decode cX9_findScores 1 = .ok (.istore_n 1, 1) := by decide +kernel
theorem dX9_findScores_2 : decode cX9_findScores 2 = .ok (.iload_n 1, 1) := by decide +kernel
theorem dX9_findScores_3 : decode cX9_findScores 3 = .ok (.aload_n 0, 1) := by decide +kernel
theorem dX9_findScores_4 : decode cX9_findScores 4 = .ok (.getfield 141, 3) := by decide +kernel
theorem dX9_findScores_7 : decode cX9_findScores 7 = .ok (.if_icmp .ge 96, 3) := by decide +kernel
theorem dX9_findScores_10 : decode cX9_findScores 10 = .ok (.iconst 0, 1) := by decide +kernel
theorem dX9_findScores_11 : decode cX9_findScores 11 = .ok (.istore_n 2, 1) := by decide +kernel
theorem dX9_findScores_12 : decode cX9_findScores 12 = .ok (.iload_n 2, 1) := by decide +kernel
theorem dX9_findScores_13 : decode cX9_findScores 13 = .ok (.aload_n 0, 1) := by decide +kernel
theorem dX9_findScores_14 : decode cX9_findScores 14 = .ok (.getfield 7, 3) := by decide +kernel
theorem dX9_findScores_17 : decode cX9_findScores 17 = .ok (.iconst 0, 1) := by decide +kernel
theorem dX9_findScores_18 : decode cX9_findScores 18 = .ok (.iaload, 1) := by decide +kernel
theorem dX9_findScores_19 : decode cX9_findScores 19 = .ok (.if_icmp .ge 78, 3) := by decide +kernel
theorem dX9_findScores_22 : decode cX9_findScores 22 = .ok (.aload_n 0, 1) := by decide +kernel
theorem dX9_findScores_23 : decode cX9_findScores 23 = .ok (.aload_n 0, 1) := by decide +kernel
theorem dX9_findScores_24 : decode cX9_findScores 24 = .ok (.getfield 36, 3) := by decide +kernel
theorem dX9_findScores_27 : decode cX9_findScores 27 = .ok (.iload_n 1, 1) := by decide +kernel
theorem dX9_findScores_28 : decode cX9_findScores 28 = .ok (.iaload, 1) := by decide +kernel
theorem dX9_findScores_29 : decode cX9_findScores 29 = .ok (.iload_n 2, 1) := by decide +kernel
theorem dX9_findScores_30 : decode cX9_findScores 30 = .ok (.invokevirtual 121, 3) := by decide +kernel
theorem dX9_findScores_33 : decode cX9_findScores 33 = .ok (.ifCond .eq 18, 3) := by decide +kernel
theorem dX9_findScores_36 : decode cX9_findScores 36 = .ok (.aload_n 0, 1) := by decide +kernel
theorem dX9_findScores_37 : decode cX9_findScores 37 = .ok (.getfield 115, 3) := by decide +kernel
theorem dX9_findScores_40 : decode cX9_findScores 40 = .ok (.aload_n 0, 1) := by decide +kernel
theorem dX9_findScores_41 : decode cX9_findScores 41 = .ok (.getfield 26, 3) := by decide +kernel
theorem dX9_findScores_44 : decode cX9_findScores 44 = .ok (.if_icmp .lt 7, 3) := by decide +kernel
theorem dX9_findScores_47 : decode cX9_findScores 47 = .ok (.iconst 1, 1) := by decide +kernel
theorem dX9_findScores_48 : decode cX9_findScores 48 = .ok (.goto 4, 3) := by decide +kernel
theorem dX9_findScores_51 : decode cX9_findScores 51 = .ok (.iconst 0, 1) := by decide +kernel
theorem dX9_findScores_52 : decode cX9_findScores 52 = .ok (.istore_n 3, 1) := by decide +kernel
theorem dX9_findScores_53 : decode cX9_findScores 53 = .ok (.aload_n 0, 1) := by decide +kernel
theorem dX9_findScores_54 : decode cX9_findScores 54 = .ok (.getfield 39, 3) := by decide +kernel
theorem dX9_findScores_57 : decode cX9_findScores 57 = .ok (.bipush 121, 2) := by decide +kernel
theorem dX9_findScores_59 : decode cX9_findScores 59 = .ok (.iload_n 1, 1) := by decide +kernel
theorem dX9_findScores_60 : decode cX9_findScores 60 = .ok (.imul, 1) := by decide +kernel
theorem dX9_findScores_61 : decode cX9_findScores 61 = .ok (.iload_n 2, 1) := by decide +kernel
theorem dX9_findScores_62 : decode cX9_findScores 62 = .ok (.iadd, 1) := by decide +kernel
theorem dX9_findScores_63 : decode cX9_findScores 63 = .ok (.iload_n 3, 1) := by decide +kernel
theorem dX9_findScores_64 : decode cX9_findScores 64 = .ok (.ifCond .eq 10, 3) := by decide +kernel
theorem dX9_findScores_67 : decode cX9_findScores 67 = .ok (.aload_n 0, 1) := by decide +kernel
theorem dX9_findScores_68 : decode cX9_findScores 68 = .ok (.getfield 115, 3) := by decide +kernel
theorem dX9_findScores_71 : decode cX9_findScores 71 = .ok (.goto 4, 3) := by decide +kernel
theorem dX9_findScores_74 : decode cX9_findScores 74 = .ok (.iconst (-1), 1) := by decide +kernel
theorem dX9_findScores_75 : decode cX9_findScores 75 = .ok (.iastore, 1) := by decide +kernel
theorem dX9_findScores_76 : decode cX9_findScores 76 = .ok (.aload_n 0, 1) := by decide +kernel
theorem dX9_findScores_77 : decode cX9_findScores 77 = .ok (.getfield 42, 3) := by decide +kernel
theorem dX9_findScores_80 : decode cX9_findScores 80 = .ok (.bipush 121, 2) := by decide +kernel
theorem dX9_findScores_82 : decode cX9_findScores 82 = .ok (.iload_n 1, 1) := by decide +kernel
theorem dX9_findScores_83 : decode cX9_findScores 83 = .ok (.imul, 1) := by decide +kernel
theorem dX9_findScores_84 : decode cX9_findScores 84 = .ok (.iload_n 2, 1) := by decide +kernel
theorem dX9_findScores_85 : decode cX9_findScores 85 = .ok (.iadd, 1) := by decide +kernel
theorem dX9_findScores_86 : decode cX9_findScores 86 = .ok (.aload_n 0, 1) := by decide +kernel
theorem dX9_findScores_87 : decode cX9_findScores 87 = .ok (.getfield 118, 3) := by decide +kernel
theorem dX9_findScores_90 : decode cX9_findScores 90 = .ok (.iastore, 1) := by decide +kernel
theorem dX9_findScores_91 : decode cX9_findScores 91 = .ok (.iinc 2 1, 3) := by decide +kernel
theorem dX9_findScores_94 : decode cX9_findScores 94 = .ok (.goto (-82), 3) := by decide +kernel
theorem dX9_findScores_97 : decode cX9_findScores 97 = .ok (.iinc 1 1, 3) := by decide +kernel
theorem dX9_findScores_100 : decode cX9_findScores 100 = .ok (.goto (-98), 3) := by decide +kernel
theorem dX9_findScores_103 : decode cX9_findScores 103 = .ok (.return_, 1) := by decide +kernel
theorem dX9_worth_0 : decode cX9_worth 0 = .ok (.aload_n 0, 1) := by decide +kernel
theorem dX9_worth_1 : decode cX9_worth 1 = .ok (.getfield 39, 3) := by decide +kernel
theorem dX9_worth_4 : decode cX9_worth 4 = .ok (.bipush 121, 2) := by decide +kernel
theorem dX9_worth_6 : decode cX9_worth 6 = .ok (.iload_n 1, 1) := by decide +kernel
theorem dX9_worth_7 : decode cX9_worth 7 = .ok (.imul, 1) := by decide +kernel
theorem dX9_worth_8 : decode cX9_worth 8 = .ok (.iload_n 2, 1) := by decide +kernel
theorem dX9_worth_9 : decode cX9_worth 9 = .ok (.iadd, 1) := by decide +kernel
theorem dX9_worth_10 : decode cX9_worth 10 = .ok (.iaload, 1) := by decide +kernel
theorem dX9_worth_11 : decode cX9_worth 11 = .ok (.istore_n 3, 1) := by decide +kernel
theorem dX9_worth_12 : decode cX9_worth 12 = .ok (.iload_n 3, 1) := by decide +kernel
theorem dX9_worth_13 : decode cX9_worth 13 = .ok (.ifCond .ge 7, 3) := by decide +kernel
theorem dX9_worth_16 : decode cX9_worth 16 = .ok (.iconst (-1), 1) := by decide +kernel
theorem dX9_worth_17 : decode cX9_worth 17 = .ok (.goto 18, 3) := by decide +kernel
theorem dX9_worth_20 : decode cX9_worth 20 = .ok (.iload_n 3, 1) := by decide +kernel
theorem dX9_worth_21 : decode cX9_worth 21 = .ok (.aload_n 0, 1) := by decide +kernel
theorem dX9_worth_22 : decode cX9_worth 22 = .ok (.getfield 45, 3) := by decide +kernel
theorem dX9_worth_25 : decode cX9_worth 25 = .ok (.bipush 121, 2) := by decide +kernel
theorem dX9_worth_27 : decode cX9_worth 27 = .ok (.iload_n 1, 1) := by decide +kernel
theorem dX9_worth_28 : decode cX9_worth 28 = .ok (.iconst 1, 1) := by decide +kernel
theorem dX9_worth_29 : decode cX9_worth 29 = .ok (.iadd, 1) := by decide +kernel
theorem dX9_worth_30 : decode cX9_worth 30 = .ok (.imul, 1) := by decide +kernel
theorem dX9_worth_31 : decode cX9_worth 31 = .ok (.iload_n 2, 1) := by decide +kernel
theorem dX9_worth_32 : decode cX9_worth 32 = .ok (.iadd, 1) := by decide +kernel
theorem dX9_worth_33 : decode cX9_worth 33 = .ok (.iaload, 1) := by decide +kernel
theorem dX9_worth_34 : decode cX9_worth 34 = .ok (.iadd, 1) := by decide +kernel
theorem dX9_worth_35 : decode cX9_worth 35 = .ok (.ireturn, 1) := by decide +kernel
theorem dX9_findSums_0 : decode cX9_findSums 0 = .ok (.iconst 0, 1) := by decide +kernel
theorem dX9_findSums_1 : decode cX9_findSums 1 = .ok (.istore_n 1, 1) := by decide +kernel
theorem dX9_findSums_2 : decode cX9_findSums 2 = .ok (.iload_n 1, 1) := by decide +kernel
theorem dX9_findSums_3 : decode cX9_findSums 3 = .ok (.aload_n 0, 1) := by decide +kernel
theorem dX9_findSums_4 : decode cX9_findSums 4 = .ok (.getfield 7, 3) := by decide +kernel
theorem dX9_findSums_7 : decode cX9_findSums 7 = .ok (.iconst 0, 1) := by decide +kernel
theorem dX9_findSums_8 : decode cX9_findSums 8 = .ok (.iaload, 1) := by decide +kernel
theorem dX9_findSums_9 : decode cX9_findSums 9 = .ok (.if_icmp .gt 24, 3) := by decide +kernel
theorem dX9_findSums_12 : decode cX9_findSums 12 = .ok (.aload_n 0, 1) := by decide +kernel
theorem dX9_findSums_13 : decode cX9_findSums 13 = .ok (.getfield 45, 3) := by decide +kernel
theorem dX9_findSums_16 : decode cX9_findSums 16 = .ok (.bipush 121, 2) := by decide +kernel
theorem dX9_findSums_18 : decode cX9_findSums 18 = .ok (.aload_n 0, 1) := by decide +kernel
theorem dX9_findSums_19 : decode cX9_findSums 19 = .ok (.getfield 141, 3) := by decide +kernel
theorem dX9_findSums_22 : decode cX9_findSums 22 = .ok (.imul, 1) := by decide +kernel
theorem dX9_findSums_23 : decode cX9_findSums 23 = .ok (.iload_n 1, 1) := by decide +kernel
theorem dX9_findSums_24 : decode cX9_findSums 24 = .ok (.iadd, 1) := by decide +kernel
theorem dX9_findSums_25 : decode cX9_findSums 25 = .ok (.iconst 0, 1) := by decide +kernel
theorem dX9_findSums_26 : decode cX9_findSums 26 = .ok (.iastore, 1) := by decide +kernel
theorem dX9_findSums_27 : decode cX9_findSums 27 = .ok (.iinc 1 1, 3) := by decide +kernel
theorem dX9_findSums_30 : decode cX9_findSums 30 = .ok (.goto (-28), 3) := by decide +kernel
theorem dX9_findSums_33 : decode cX9_findSums 33 = .ok (.aload_n 0, 1) := by decide +kernel
theorem dX9_findSums_34 : decode cX9_findSums 34 = .ok (.getfield 141, 3) := by decide +kernel
theorem dX9_findSums_37 : decode cX9_findSums 37 = .ok (.iconst 1, 1) := by decide +kernel
theorem dX9_findSums_38 : decode cX9_findSums 38 = .ok (.isub, 1) := by decide +kernel
theorem dX9_findSums_39 : decode cX9_findSums 39 = .ok (.istore_n 1, 1) := by decide +kernel
theorem dX9_findSums_40 : decode cX9_findSums 40 = .ok (.iload_n 1, 1) := by decide +kernel
theorem dX9_findSums_41 : decode cX9_findSums 41 = .ok (.ifCond .lt 94, 3) := by decide +kernel
theorem dX9_findSums_44 : decode cX9_findSums 44 = .ok (.aload_n 0, 1) := by decide +kernel
theorem dX9_findSums_45 : decode cX9_findSums 45 = .ok (.getfield 7, 3) := by decide +kernel
theorem dX9_findSums_48 : decode cX9_findSums 48 = .ok (.iconst 0, 1) := by decide +kernel
theorem dX9_findSums_49 : decode cX9_findSums 49 = .ok (.iaload, 1) := by decide +kernel
theorem dX9_findSums_50 : decode cX9_findSums 50 = .ok (.istore_n 2, 1) := by decide +kernel
theorem dX9_findSums_51 : decode cX9_findSums 51 = .ok (.iload_n 2, 1) := by decide +kernel
theorem dX9_findSums_52 : decode cX9_findSums 52 = .ok (.ifCond .lt 77, 3) := by decide +kernel
theorem dX9_findSums_55 : decode cX9_findSums 55 = .ok (.aload_n 0, 1) := by decide +kernel
theorem dX9_findSums_56 : decode cX9_findSums 56 = .ok (.getfield 45, 3) := by decide +kernel
theorem dX9_findSums_59 : decode cX9_findSums 59 = .ok (.bipush 121, 2) := by decide +kernel
theorem dX9_findSums_61 : decode cX9_findSums 61 = .ok (.iload_n 1, 1) := by decide +kernel
theorem dX9_findSums_62 : decode cX9_findSums 62 = .ok (.iconst 1, 1) := by decide +kernel
theorem dX9_findSums_63 : decode cX9_findSums 63 = .ok (.iadd, 1) := by decide +kernel
theorem dX9_findSums_64 : decode cX9_findSums 64 = .ok (.imul, 1) := by decide +kernel
theorem dX9_findSums_65 : decode cX9_findSums 65 = .ok (.iload_n 2, 1) := by decide +kernel
theorem dX9_findSums_66 : decode cX9_findSums 66 = .ok (.iadd, 1) := by decide +kernel
theorem dX9_findSums_67 : decode cX9_findSums 67 = .ok (.iaload, 1) := by decide +kernel
theorem dX9_findSums_68 : decode cX9_findSums 68 = .ok (.istore_n 3, 1) := by decide +kernel
theorem dX9_findSums_69 : decode cX9_findSums 69 = .ok (.iload_n 2, 1) := by decide +kernel
theorem dX9_findSums_70 : decode cX9_findSums 70 = .ok (.istore 4, 2) := by decide +kernel
theorem dX9_findSums_72 : decode cX9_findSums 72 = .ok (.iload 4, 2) := by decide +kernel
theorem dX9_findSums_74 : decode cX9_findSums 74 = .ok (.aload_n 0, 1) := by decide +kernel
theorem dX9_findSums_75 : decode cX9_findSums 75 = .ok (.getfield 7, 3) := by decide +kernel
theorem dX9_findSums_78 : decode cX9_findSums 78 = .ok (.iconst 0, 1) := by decide +kernel
theorem dX9_findSums_79 : decode cX9_findSums 79 = .ok (.iaload, 1) := by decide +kernel
theorem dX9_findSums_80 : decode cX9_findSums 80 = .ok (.if_icmp .ge 31, 3) := by decide +kernel
theorem dX9_findSums_83 : decode cX9_findSums 83 = .ok (.aload_n 0, 1) := by decide +kernel
theorem dX9_findSums_84 : decode cX9_findSums 84 = .ok (.iload_n 1, 1) := by decide +kernel
theorem dX9_findSums_85 : decode cX9_findSums 85 = .ok (.iload 4, 2) := by decide +kernel
theorem dX9_findSums_87 : decode cX9_findSums 87 = .ok (.invokevirtual 144, 3) := by decide +kernel
theorem dX9_findSums_90 : decode cX9_findSums 90 = .ok (.istore 5, 2) := by decide +kernel
theorem dX9_findSums_92 : decode cX9_findSums 92 = .ok (.iload 5, 2) := by decide +kernel
theorem dX9_findSums_94 : decode cX9_findSums 94 = .ok (.iload_n 3, 1) := by decide +kernel
theorem dX9_findSums_95 : decode cX9_findSums 95 = .ok (.if_icmp .le 8, 3) := by decide +kernel
theorem dX9_findSums_98 : decode cX9_findSums 98 = .ok (.iload 5, 2) := by decide +kernel
theorem dX9_findSums_100 : decode cX9_findSums 100 = .ok (.goto 4, 3) := by decide +kernel
theorem dX9_findSums_103 : decode cX9_findSums 103 = .ok (.iload_n 3, 1) := by decide +kernel
theorem dX9_findSums_104 : decode cX9_findSums 104 = .ok (.istore_n 3, 1) := by decide +kernel
theorem dX9_findSums_105 : decode cX9_findSums 105 = .ok (.iinc 4 1, 3) := by decide +kernel
theorem dX9_findSums_108 : decode cX9_findSums 108 = .ok (.goto (-36), 3) := by decide +kernel
theorem dX9_findSums_111 : decode cX9_findSums 111 = .ok (.aload_n 0, 1) := by decide +kernel
theorem dX9_findSums_112 : decode cX9_findSums 112 = .ok (.getfield 45, 3) := by decide +kernel
theorem dX9_findSums_115 : decode cX9_findSums 115 = .ok (.bipush 121, 2) := by decide +kernel
theorem dX9_findSums_117 : decode cX9_findSums 117 = .ok (.iload_n 1, 1) := by decide +kernel
theorem dX9_findSums_118 : decode cX9_findSums 118 = .ok (.imul, 1) := by decide +kernel
theorem dX9_findSums_119 : decode cX9_findSums 119 = .ok (.iload_n 2, 1) := by decide +kernel
theorem dX9_findSums_120 : decode cX9_findSums 120 = .ok (.iadd, 1) := by decide +kernel
theorem dX9_findSums_121 : decode cX9_findSums 121 = .ok (.iload_n 3, 1) := by decide +kernel
theorem dX9_findSums_122 : decode cX9_findSums 122 = .ok (.iastore, 1) := by decide +kernel
theorem dX9_findSums_123 : decode cX9_findSums 123 = .ok (.iinc 2 (-1), 3) := by decide +kernel
theorem dX9_findSums_126 : decode cX9_findSums 126 = .ok (.goto (-75), 3) := by decide +kernel
theorem dX9_findSums_129 : decode cX9_findSums 129 = .ok (.iinc 1 (-1), 3) := by decide +kernel
theorem dX9_findSums_132 : decode cX9_findSums 132 = .ok (.goto (-92), 3) := by decide +kernel
theorem dX9_findSums_135 : decode cX9_findSums 135 = .ok (.return_, 1) := by decide +kernel
theorem dX9_chosen_0 : decode cX9_chosen 0 = .ok (.iconst (-1), 1) := by decide +kernel
theorem dX9_chosen_1 : decode cX9_chosen 1 = .ok (.istore_n 3, 1) := by decide +kernel
theorem dX9_chosen_2 : decode cX9_chosen 2 = .ok (.iload_n 2, 1) := by decide +kernel
theorem dX9_chosen_3 : decode cX9_chosen 3 = .ok (.istore 4, 2) := by decide +kernel
theorem dX9_chosen_5 : decode cX9_chosen 5 = .ok (.iload 4, 2) := by decide +kernel
theorem dX9_chosen_7 : decode cX9_chosen 7 = .ok (.aload_n 0, 1) := by decide +kernel
theorem dX9_chosen_8 : decode cX9_chosen 8 = .ok (.getfield 7, 3) := by decide +kernel
theorem dX9_chosen_11 : decode cX9_chosen 11 = .ok (.iconst 0, 1) := by decide +kernel
theorem dX9_chosen_12 : decode cX9_chosen 12 = .ok (.iaload, 1) := by decide +kernel
theorem dX9_chosen_13 : decode cX9_chosen 13 = .ok (.if_icmp .ge 75, 3) := by decide +kernel
theorem dX9_chosen_16 : decode cX9_chosen 16 = .ok (.aload_n 0, 1) := by decide +kernel
theorem dX9_chosen_17 : decode cX9_chosen 17 = .ok (.iload_n 1, 1) := by decide +kernel
theorem dX9_chosen_18 : decode cX9_chosen 18 = .ok (.iload 4, 2) := by decide +kernel
theorem dX9_chosen_20 : decode cX9_chosen 20 = .ok (.invokevirtual 144, 3) := by decide +kernel
theorem dX9_chosen_23 : decode cX9_chosen 23 = .ok (.aload_n 0, 1) := by decide +kernel
theorem dX9_chosen_24 : decode cX9_chosen 24 = .ok (.getfield 45, 3) := by decide +kernel
theorem dX9_chosen_27 : decode cX9_chosen 27 = .ok (.bipush 121, 2) := by decide +kernel
theorem dX9_chosen_29 : decode cX9_chosen 29 = .ok (.iload_n 1, 1) := by decide +kernel
theorem dX9_chosen_30 : decode cX9_chosen 30 = .ok (.imul, 1) := by decide +kernel
theorem dX9_chosen_31 : decode cX9_chosen 31 = .ok (.iload_n 2, 1) := by decide +kernel
theorem dX9_chosen_32 : decode cX9_chosen 32 = .ok (.iadd, 1) := by decide +kernel
theorem dX9_chosen_33 : decode cX9_chosen 33 = .ok (.iaload, 1) := by decide +kernel
theorem dX9_chosen_34 : decode cX9_chosen 34 = .ok (.if_icmp .ne 7, 3) := by decide +kernel
theorem dX9_chosen_37 : decode cX9_chosen 37 = .ok (.iconst 1, 1) := by decide +kernel
theorem dX9_chosen_38 : decode cX9_chosen 38 = .ok (.goto 4, 3) := by decide +kernel
theorem dX9_chosen_41 : decode cX9_chosen 41 = .ok (.iconst 0, 1) := by decide +kernel
theorem dX9_chosen_42 : decode cX9_chosen 42 = .ok (.istore 5, 2) := by decide +kernel
theorem dX9_chosen_44 : decode cX9_chosen 44 = .ok (.iload 5, 2) := by decide +kernel
theorem dX9_chosen_46 : decode cX9_chosen 46 = .ok (.ifCond .eq 36, 3) := by decide +kernel
theorem dX9_chosen_49 : decode cX9_chosen 49 = .ok (.iload_n 3, 1) := by decide +kernel
theorem dX9_chosen_50 : decode cX9_chosen 50 = .ok (.ifCond .lt 29, 3) := by decide +kernel
theorem dX9_chosen_53 : decode cX9_chosen 53 = .ok (.aload_n 0, 1) := by decide +kernel
theorem dX9_chosen_54 : decode cX9_chosen 54 = .ok (.getfield 39, 3) := by decide +kernel
theorem dX9_chosen_57 : decode cX9_chosen 57 = .ok (.bipush 121, 2) := by decide +kernel
theorem dX9_chosen_59 : decode cX9_chosen 59 = .ok (.iload_n 1, 1) := by decide +kernel
theorem dX9_chosen_60 : decode cX9_chosen 60 = .ok (.imul, 1) := by decide +kernel
theorem dX9_chosen_61 : decode cX9_chosen 61 = .ok (.iload 4, 2) := by decide +kernel
theorem dX9_chosen_63 : decode cX9_chosen 63 = .ok (.iadd, 1) := by decide +kernel
theorem dX9_chosen_64 : decode cX9_chosen 64 = .ok (.iaload, 1) := by decide +kernel
theorem dX9_chosen_65 : decode cX9_chosen 65 = .ok (.aload_n 0, 1) := by decide +kernel
theorem dX9_chosen_66 : decode cX9_chosen 66 = .ok (.getfield 39, 3) := by decide +kernel
theorem dX9_chosen_69 : decode cX9_chosen 69 = .ok (.bipush 121, 2) := by decide +kernel
theorem dX9_chosen_71 : decode cX9_chosen 71 = .ok (.iload_n 1, 1) := by decide +kernel
theorem dX9_chosen_72 : decode cX9_chosen 72 = .ok (.imul, 1) := by decide +kernel
theorem dX9_chosen_73 : decode cX9_chosen 73 = .ok (.iload_n 3, 1) := by decide +kernel
theorem dX9_chosen_74 : decode cX9_chosen 74 = .ok (.iadd, 1) := by decide +kernel
theorem dX9_chosen_75 : decode cX9_chosen 75 = .ok (.iaload, 1) := by decide +kernel
theorem dX9_chosen_76 : decode cX9_chosen 76 = .ok (.if_icmp .le 6, 3) := by decide +kernel
theorem dX9_chosen_79 : decode cX9_chosen 79 = .ok (.iload 4, 2) := by decide +kernel
theorem dX9_chosen_81 : decode cX9_chosen 81 = .ok (.istore_n 3, 1) := by decide +kernel
theorem dX9_chosen_82 : decode cX9_chosen 82 = .ok (.iinc 4 1, 3) := by decide +kernel
theorem dX9_chosen_85 : decode cX9_chosen 85 = .ok (.goto (-80), 3) := by decide +kernel
theorem dX9_chosen_88 : decode cX9_chosen 88 = .ok (.iload_n 3, 1) := by decide +kernel
theorem dX9_chosen_89 : decode cX9_chosen 89 = .ok (.ireturn, 1) := by decide +kernel
theorem dX9_attachAll_0 : decode cX9_attachAll 0 = .ok (.aload_n 0, 1) := by decide +kernel
theorem dX9_attachAll_1 : decode cX9_attachAll 1 = .ok (.invokevirtual 147, 3) := by decide +kernel
theorem dX9_attachAll_4 : decode cX9_attachAll 4 = .ok (.aload_n 0, 1) := by decide +kernel
theorem dX9_attachAll_5 : decode cX9_attachAll 5 = .ok (.invokevirtual 150, 3) := by decide +kernel
theorem dX9_attachAll_8 : decode cX9_attachAll 8 = .ok (.aload_n 0, 1) := by decide +kernel
theorem dX9_attachAll_9 : decode cX9_attachAll 9 = .ok (.invokevirtual 153, 3) := by decide +kernel
theorem dX9_attachAll_12 : decode cX9_attachAll 12 = .ok (.aload_n 0, 1) := by decide +kernel
theorem dX9_attachAll_13 : decode cX9_attachAll 13 = .ok (.invokevirtual 66, 3) := by decide +kernel
theorem dX9_attachAll_16 : decode cX9_attachAll 16 = .ok (.iconst 0, 1) := by decide +kernel
theorem dX9_attachAll_17 : decode cX9_attachAll 17 = .ok (.istore_n 1, 1) := by decide +kernel
theorem dX9_attachAll_18 : decode cX9_attachAll 18 = .ok (.iconst 0, 1) := by decide +kernel
theorem dX9_attachAll_19 : decode cX9_attachAll 19 = .ok (.istore_n 2, 1) := by decide +kernel
theorem dX9_attachAll_20 : decode cX9_attachAll 20 = .ok (.iconst 0, 1) := by decide +kernel
theorem dX9_attachAll_21 : decode cX9_attachAll 21 = .ok (.istore_n 3, 1) := by decide +kernel
theorem dX9_attachAll_22 : decode cX9_attachAll 22 = .ok (.iload_n 3, 1) := by decide +kernel
theorem dX9_attachAll_23 : decode cX9_attachAll 23 = .ok (.aload_n 0, 1) := by decide +kernel
theorem dX9_attachAll_24 : decode cX9_attachAll 24 = .ok (.getfield 141, 3) := by decide +kernel
theorem dX9_attachAll_27 : decode cX9_attachAll 27 = .ok (.if_icmp .ge 52, 3) := by decide +kernel
theorem dX9_attachAll_30 : decode cX9_attachAll 30 = .ok (.aload_n 0, 1) := by decide +kernel
theorem dX9_attachAll_31 : decode cX9_attachAll 31 = .ok (.iload_n 3, 1) := by decide +kernel
theorem dX9_attachAll_32 : decode cX9_attachAll 32 = .ok (.iload_n 2, 1) := by decide +kernel
theorem dX9_attachAll_33 : decode cX9_attachAll 33 = .ok (.invokevirtual 156, 3) := by decide +kernel
theorem dX9_attachAll_36 : decode cX9_attachAll 36 = .ok (.istore 4, 2) := by decide +kernel
theorem dX9_attachAll_38 : decode cX9_attachAll 38 = .ok (.iload 4, 2) := by decide +kernel
theorem dX9_attachAll_40 : decode cX9_attachAll 40 = .ok (.ifCond .lt 33, 3) := by decide +kernel
theorem dX9_attachAll_43 : decode cX9_attachAll 43 = .ok (.aload_n 0, 1) := by decide +kernel
end
section
theorem dX9_attachAll_44 : decode cX9_attachAll 44 = .ok (.aload_n 0, 1) := by decide +kernel
theorem dX9_attachAll_45 : decode cX9_attachAll 45 = .ok (.getfield 36, 3) := by decide +kernel
theorem dX9_attachAll_48 : decode cX9_attachAll 48 = .ok (.iload_n 3, 1) := by decide +kernel
theorem dX9_attachAll_49 : decode cX9_attachAll 49 = .ok (.iaload, 1) := by decide +kernel
theorem dX9_attachAll_50 : decode cX9_attachAll 50 = .ok (.iload 4, 2) := by decide +kernel
theorem dX9_attachAll_52 : decode cX9_attachAll 52 = .ok (.aload_n 0, 1) := by decide +kernel
theorem dX9_attachAll_53 : decode cX9_attachAll 53 = .ok (.getfield 42, 3) := by decide +kernel
theorem dX9_attachAll_56 : decode cX9_attachAll 56 = .ok (.bipush 121, 2) := by decide +kernel
theorem dX9_attachAll_58 : decode cX9_attachAll 58 = .ok (.iload_n 3, 1) := by decide +kernel
theorem dX9_attachAll_59 : decode cX9_attachAll 59 = .ok (.imul, 1) := by decide +kernel
theorem dX9_attachAll_60 : decode cX9_attachAll 60 = .ok (.iload 4, 2) := by decide +kernel
theorem dX9_attachAll_62 : decode cX9_attachAll 62 = .ok (.iadd, 1) := by decide +kernel
theorem dX9_attachAll_63 : decode cX9_attachAll 63 = .ok (.iaload, 1) := by decide +kernel
theorem dX9_attachAll_64 : decode cX9_attachAll 64 = .ok (.invokevirtual 137, 3) := by decide +kernel
theorem dX9_attachAll_67 : decode cX9_attachAll 67 = .ok (.iload 4, 2) := by decide +kernel
theorem dX9_attachAll_69 : decode cX9_attachAll 69 = .ok (.istore_n 2, 1) := by decide +kernel
theorem dX9_attachAll_70 : decode cX9_attachAll 70 = .ok (.iinc 1 1, 3) := by decide +kernel
theorem dX9_attachAll_73 : decode cX9_attachAll 73 = .ok (.iinc 3 1, 3) := by decide +kernel
theorem dX9_attachAll_76 : decode cX9_attachAll 76 = .ok (.goto (-54), 3) := by decide +kernel
theorem dX9_attachAll_79 : decode cX9_attachAll 79 = .ok (.aload_n 0, 1) := by decide +kernel
theorem dX9_attachAll_80 : decode cX9_attachAll 80 = .ok (.getfield 141, 3) := by decide +kernel
theorem dX9_attachAll_83 : decode cX9_attachAll 83 = .ok (.ifCond .ne 9, 3) := by decide +kernel
theorem dX9_attachAll_86 : decode cX9_attachAll 86 = .ok (.sipush (-1005), 3) := by decide +kernel
theorem dX9_attachAll_89 : decode cX9_attachAll 89 = .ok (.goto 8, 3) := by decide +kernel
theorem dX9_attachAll_92 : decode cX9_attachAll 92 = .ok (.aload_n 0, 1) := by decide +kernel
theorem dX9_attachAll_93 : decode cX9_attachAll 93 = .ok (.iload_n 1, 1) := by decide +kernel
theorem dX9_attachAll_94 : decode cX9_attachAll 94 = .ok (.invokevirtual 72, 3) := by decide +kernel
theorem dX9_attachAll_97 : decode cX9_attachAll 97 = .ok (.ireturn, 1) := by decide +kernel
theorem dX9_isLike_0 : decode cX9_isLike 0 = .ok (.aload_n 0, 1) := by decide +kernel
theorem dX9_isLike_1 : decode cX9_isLike 1 = .ok (.getfield 7, 3) := by decide +kernel
theorem dX9_isLike_4 : decode cX9_isLike 4 = .ok (.iload_n 1, 1) := by decide +kernel
theorem dX9_isLike_5 : decode cX9_isLike 5 = .ok (.iconst 1, 1) := by decide +kernel
theorem dX9_isLike_6 : decode cX9_isLike 6 = .ok (.invokestatic 48, 3) := by decide +kernel
theorem dX9_isLike_9 : decode cX9_isLike 9 = .ok (.iaload, 1) := by decide +kernel
theorem dX9_isLike_10 : decode cX9_isLike 10 = .ok (.iconst 1, 1) := by decide +kernel
theorem dX9_isLike_11 : decode cX9_isLike 11 = .ok (.if_icmp .ne 21, 3) := by decide +kernel
theorem dX9_isLike_14 : decode cX9_isLike 14 = .ok (.aload_n 0, 1) := by decide +kernel
theorem dX9_isLike_15 : decode cX9_isLike 15 = .ok (.getfield 7, 3) := by decide +kernel
theorem dX9_isLike_18 : decode cX9_isLike 18 = .ok (.iload_n 2, 1) := by decide +kernel
theorem dX9_isLike_19 : decode cX9_isLike 19 = .ok (.iconst 1, 1) := by decide +kernel
theorem dX9_isLike_20 : decode cX9_isLike 20 = .ok (.invokestatic 48, 3) := by decide +kernel
theorem dX9_isLike_23 : decode cX9_isLike 23 = .ok (.iaload, 1) := by decide +kernel
theorem dX9_isLike_24 : decode cX9_isLike 24 = .ok (.iconst 1, 1) := by decide +kernel
theorem dX9_isLike_25 : decode cX9_isLike 25 = .ok (.if_icmp .ne 7, 3) := by decide +kernel
theorem dX9_isLike_28 : decode cX9_isLike 28 = .ok (.iconst 1, 1) := by decide +kernel
theorem dX9_isLike_29 : decode cX9_isLike 29 = .ok (.goto 4, 3) := by decide +kernel
theorem dX9_isLike_32 : decode cX9_isLike 32 = .ok (.iconst 0, 1) := by decide +kernel
theorem dX9_isLike_33 : decode cX9_isLike 33 = .ok (.istore_n 3, 1) := by decide +kernel
theorem dX9_isLike_34 : decode cX9_isLike 34 = .ok (.iload_n 3, 1) := by decide +kernel
theorem dX9_isLike_35 : decode cX9_isLike 35 = .ok (.ifCond .eq 53, 3) := by decide +kernel
theorem dX9_isLike_38 : decode cX9_isLike 38 = .ok (.aload_n 0, 1) := by decide +kernel
theorem dX9_isLike_39 : decode cX9_isLike 39 = .ok (.getfield 7, 3) := by decide +kernel
theorem dX9_isLike_42 : decode cX9_isLike 42 = .ok (.iload_n 1, 1) := by decide +kernel
theorem dX9_isLike_43 : decode cX9_isLike 43 = .ok (.iconst 2, 1) := by decide +kernel
theorem dX9_isLike_44 : decode cX9_isLike 44 = .ok (.invokestatic 48, 3) := by decide +kernel
theorem dX9_isLike_47 : decode cX9_isLike 47 = .ok (.iaload, 1) := by decide +kernel
theorem dX9_isLike_48 : decode cX9_isLike 48 = .ok (.aload_n 0, 1) := by decide +kernel
theorem dX9_isLike_49 : decode cX9_isLike 49 = .ok (.getfield 7, 3) := by decide +kernel
theorem dX9_isLike_52 : decode cX9_isLike 52 = .ok (.iload_n 2, 1) := by decide +kernel
theorem dX9_isLike_53 : decode cX9_isLike 53 = .ok (.iconst 2, 1) := by decide +kernel
theorem dX9_isLike_54 : decode cX9_isLike 54 = .ok (.invokestatic 48, 3) := by decide +kernel
theorem dX9_isLike_57 : decode cX9_isLike 57 = .ok (.iaload, 1) := by decide +kernel
theorem dX9_isLike_58 : decode cX9_isLike 58 = .ok (.if_icmp .ne 30, 3) := by decide +kernel
theorem dX9_isLike_61 : decode cX9_isLike 61 = .ok (.aload_n 0, 1) := by decide +kernel
theorem dX9_isLike_62 : decode cX9_isLike 62 = .ok (.getfield 7, 3) := by decide +kernel
theorem dX9_isLike_65 : decode cX9_isLike 65 = .ok (.iload_n 1, 1) := by decide +kernel
theorem dX9_isLike_66 : decode cX9_isLike 66 = .ok (.iconst 3, 1) := by decide +kernel
theorem dX9_isLike_67 : decode cX9_isLike 67 = .ok (.invokestatic 48, 3) := by decide +kernel
theorem dX9_isLike_70 : decode cX9_isLike 70 = .ok (.iaload, 1) := by decide +kernel
theorem dX9_isLike_71 : decode cX9_isLike 71 = .ok (.aload_n 0, 1) := by decide +kernel
theorem dX9_isLike_72 : decode cX9_isLike 72 = .ok (.getfield 7, 3) := by decide +kernel
theorem dX9_isLike_75 : decode cX9_isLike 75 = .ok (.iload_n 2, 1) := by decide +kernel
theorem dX9_isLike_76 : decode cX9_isLike 76 = .ok (.iconst 3, 1) := by decide +kernel
theorem dX9_isLike_77 : decode cX9_isLike 77 = .ok (.invokestatic 48, 3) := by decide +kernel
theorem dX9_isLike_80 : decode cX9_isLike 80 = .ok (.iaload, 1) := by decide +kernel
theorem dX9_isLike_81 : decode cX9_isLike 81 = .ok (.if_icmp .ne 7, 3) := by decide +kernel
theorem dX9_isLike_84 : decode cX9_isLike 84 = .ok (.iconst 1, 1) := by decide +kernel
theorem dX9_isLike_85 : decode cX9_isLike 85 = .ok (.goto 4, 3) := by decide +kernel
theorem dX9_isLike_88 : decode cX9_isLike 88 = .ok (.iconst 0, 1) := by decide +kernel
theorem dX9_isLike_89 : decode cX9_isLike 89 = .ok (.ireturn, 1) := by decide +kernel
theorem dX9_merge_0 : decode cX9_merge 0 = .ok (.aload_n 0, 1) := by decide +kernel
theorem dX9_merge_1 : decode cX9_merge 1 = .ok (.invokevirtual 66, 3) := by decide +kernel
theorem dX9_merge_4 : decode cX9_merge 4 = .ok (.iconst 0, 1) := by decide +kernel
theorem dX9_merge_5 : decode cX9_merge 5 = .ok (.istore_n 1, 1) := by decide +kernel
theorem dX9_merge_6 : decode cX9_merge 6 = .ok (.iconst 0, 1) := by decide +kernel
theorem dX9_merge_7 : decode cX9_merge 7 = .ok (.istore_n 2, 1) := by decide +kernel
theorem dX9_merge_8 : decode cX9_merge 8 = .ok (.iload_n 2, 1) := by decide +kernel
theorem dX9_merge_9 : decode cX9_merge 9 = .ok (.aload_n 0, 1) := by decide +kernel
theorem dX9_merge_10 : decode cX9_merge 10 = .ok (.getfield 7, 3) := by decide +kernel
theorem dX9_merge_13 : decode cX9_merge 13 = .ok (.bipush 122, 2) := by decide +kernel
theorem dX9_merge_15 : decode cX9_merge 15 = .ok (.iaload, 1) := by decide +kernel
theorem dX9_merge_16 : decode cX9_merge 16 = .ok (.if_icmp .ge 70, 3) := by decide +kernel
theorem dX9_merge_19 : decode cX9_merge 19 = .ok (.aload_n 0, 1) := by decide +kernel
theorem dX9_merge_20 : decode cX9_merge 20 = .ok (.getfield 7, 3) := by decide +kernel
theorem dX9_merge_23 : decode cX9_merge 23 = .ok (.bipush 122, 2) := by decide +kernel
theorem dX9_merge_25 : decode cX9_merge 25 = .ok (.iaload, 1) := by decide +kernel
theorem dX9_merge_26 : decode cX9_merge 26 = .ok (.iconst 1, 1) := by decide +kernel
theorem dX9_merge_27 : decode cX9_merge 27 = .ok (.isub, 1) := by decide +kernel
theorem dX9_merge_28 : decode cX9_merge 28 = .ok (.istore_n 3, 1) := by decide +kernel
theorem dX9_merge_29 : decode cX9_merge 29 = .ok (.iload_n 3, 1) := by decide +kernel
theorem dX9_merge_30 : decode cX9_merge 30 = .ok (.iload_n 2, 1) := by decide +kernel
theorem dX9_merge_31 : decode cX9_merge 31 = .ok (.if_icmp .le 49, 3) := by decide +kernel
theorem dX9_merge_34 : decode cX9_merge 34 = .ok (.aload_n 0, 1) := by decide +kernel
theorem dX9_merge_35 : decode cX9_merge 35 = .ok (.iload_n 2, 1) := by decide +kernel
theorem dX9_merge_36 : decode cX9_merge 36 = .ok (.iload_n 3, 1) := by decide +kernel
theorem dX9_merge_37 : decode cX9_merge 37 = .ok (.invokevirtual 159, 3) := by decide +kernel
theorem dX9_merge_40 : decode cX9_merge 40 = .ok (.ifCond .eq 34, 3) := by decide +kernel
theorem dX9_merge_43 : decode cX9_merge 43 = .ok (.aload_n 0, 1) := by decide +kernel
theorem dX9_merge_44 : decode cX9_merge 44 = .ok (.getfield 7, 3) := by decide +kernel
theorem dX9_merge_47 : decode cX9_merge 47 = .ok (.iload_n 2, 1) := by decide +kernel
theorem dX9_merge_48 : decode cX9_merge 48 = .ok (.iconst 4, 1) := by decide +kernel
theorem dX9_merge_49 : decode cX9_merge 49 = .ok (.invokestatic 48, 3) := by decide +kernel
theorem dX9_merge_52 : decode cX9_merge 52 = .ok (.dup2, 1) := by decide +kernel
theorem dX9_merge_53 : decode cX9_merge 53 = .ok (.iaload, 1) := by decide +kernel
theorem dX9_merge_54 : decode cX9_merge 54 = .ok (.aload_n 0, 1) := by decide +kernel
theorem dX9_merge_55 : decode cX9_merge 55 = .ok (.getfield 7, 3) := by decide +kernel
theorem dX9_merge_58 : decode cX9_merge 58 = .ok (.iload_n 3, 1) := by decide +kernel
theorem dX9_merge_59 : decode cX9_merge 59 = .ok (.iconst 4, 1) := by decide +kernel
theorem dX9_merge_60 : decode cX9_merge 60 = .ok (.invokestatic 48, 3) := by decide +kernel
theorem dX9_merge_63 : decode cX9_merge 63 = .ok (.iaload, 1) := by decide +kernel
theorem dX9_merge_64 : decode cX9_merge 64 = .ok (.iadd, 1) := by decide +kernel
theorem dX9_merge_65 : decode cX9_merge 65 = .ok (.iastore, 1) := by decide +kernel
theorem dX9_merge_66 : decode cX9_merge 66 = .ok (.aload_n 0, 1) := by decide +kernel
theorem dX9_merge_67 : decode cX9_merge 67 = .ok (.iload_n 3, 1) := by decide +kernel
theorem dX9_merge_68 : decode cX9_merge 68 = .ok (.invokevirtual 95, 3) := by decide +kernel
theorem dX9_merge_71 : decode cX9_merge 71 = .ok (.iinc 1 1, 3) := by decide +kernel
theorem dX9_merge_74 : decode cX9_merge 74 = .ok (.iinc 3 (-1), 3) := by decide +kernel
theorem dX9_merge_77 : decode cX9_merge 77 = .ok (.goto (-48), 3) := by decide +kernel
theorem dX9_merge_80 : decode cX9_merge 80 = .ok (.iinc 2 1, 3) := by decide +kernel
theorem dX9_merge_83 : decode cX9_merge 83 = .ok (.goto (-75), 3) := by decide +kernel
theorem dX9_merge_86 : decode cX9_merge 86 = .ok (.iload_n 1, 1) := by decide +kernel
theorem dX9_merge_87 : decode cX9_merge 87 = .ok (.ifCond .ne 9, 3) := by decide +kernel
theorem dX9_merge_90 : decode cX9_merge 90 = .ok (.sipush (-1005), 3) := by decide +kernel
theorem dX9_merge_93 : decode cX9_merge 93 = .ok (.goto 8, 3) := by decide +kernel
theorem dX9_merge_96 : decode cX9_merge 96 = .ok (.aload_n 0, 1) := by decide +kernel
theorem dX9_merge_97 : decode cX9_merge 97 = .ok (.iload_n 1, 1) := by decide +kernel
theorem dX9_merge_98 : decode cX9_merge 98 = .ok (.invokevirtual 72, 3) := by decide +kernel
theorem dX9_merge_101 : decode cX9_merge 101 = .ok (.ireturn, 1) := by decide +kernel
theorem dX9_undo_0 : decode cX9_undo 0 = .ok (.aload_n 0, 1) := by decide +kernel
theorem dX9_undo_1 : decode cX9_undo 1 = .ok (.getfield 60, 3) := by decide +kernel
theorem dX9_undo_4 : decode cX9_undo 4 = .ok (.ifCond .ne 7, 3) := by decide +kernel
theorem dX9_undo_7 : decode cX9_undo 7 = .ok (.sipush (-1003), 3) := by decide +kernel
theorem dX9_undo_10 : decode cX9_undo 10 = .ok (.ireturn, 1) := by decide +kernel
theorem dX9_undo_11 : decode cX9_undo 11 = .ok (.aload_n 0, 1) := by decide +kernel
theorem dX9_undo_12 : decode cX9_undo 12 = .ok (.dup, 1) := by decide +kernel
theorem dX9_undo_13 : decode cX9_undo 13 = .ok (.getfield 60, 3) := by decide +kernel
theorem dX9_undo_16 : decode cX9_undo 16 = .ok (.iconst 1, 1) := by decide +kernel
theorem dX9_undo_17 : decode cX9_undo 17 = .ok (.isub, 1) := by decide +kernel
theorem dX9_undo_18 : decode cX9_undo 18 = .ok (.putfield 60, 3) := by decide +kernel
theorem dX9_undo_21 : decode cX9_undo 21 = .ok (.aload_n 0, 1) := by decide +kernel
theorem dX9_undo_22 : decode cX9_undo 22 = .ok (.getfield 16, 3) := by decide +kernel
theorem dX9_undo_25 : decode cX9_undo 25 = .ok (.sipush 483, 3) := by decide +kernel
theorem dX9_undo_28 : decode cX9_undo 28 = .ok (.aload_n 0, 1) := by decide +kernel
theorem dX9_undo_29 : decode cX9_undo 29 = .ok (.getfield 60, 3) := by decide +kernel
theorem dX9_undo_32 : decode cX9_undo 32 = .ok (.imul, 1) := by decide +kernel
theorem dX9_undo_33 : decode cX9_undo 33 = .ok (.aload_n 0, 1) := by decide +kernel
theorem dX9_undo_34 : decode cX9_undo 34 = .ok (.getfield 7, 3) := by decide +kernel
theorem dX9_undo_37 : decode cX9_undo 37 = .ok (.iconst 0, 1) := by decide +kernel
theorem dX9_undo_38 : decode cX9_undo 38 = .ok (.invokestatic 56, 3) := by decide +kernel
theorem dX9_undo_41 : decode cX9_undo 41 = .ok (.aload_n 0, 1) := by decide +kernel
theorem dX9_undo_42 : decode cX9_undo 42 = .ok (.getfield 60, 3) := by decide +kernel
theorem dX9_undo_45 : decode cX9_undo 45 = .ok (.ireturn, 1) := by decide +kernel
theorem dX9_length_0 : decode cX9_length 0 = .ok (.aload_n 0, 1) := by decide +kernel
theorem dX9_length_1 : decode cX9_length 1 = .ok (.getfield 7, 3) := by decide +kernel
theorem dX9_length_4 : decode cX9_length 4 = .ok (.iconst 0, 1) := by decide +kernel
theorem dX9_length_5 : decode cX9_length 5 = .ok (.iaload, 1) := by decide +kernel
theorem dX9_length_6 : decode cX9_length 6 = .ok (.ireturn, 1) := by decide +kernel
theorem dX9_isLetter_0 : decode cX9_isLetter 0 = .ok (.iload_n 1, 1) := by decide +kernel
theorem dX9_isLetter_1 : decode cX9_isLetter 1 = .ok (.iconst 0, 1) := by decide +kernel
theorem dX9_isLetter_2 : decode cX9_isLetter 2 = .ok (.aload_n 0, 1) := by decide +kernel
theorem dX9_isLetter_3 : decode cX9_isLetter 3 = .ok (.getfield 7, 3) := by decide +kernel
theorem dX9_isLetter_6 : decode cX9_isLetter 6 = .ok (.iconst 0, 1) := by decide +kernel
theorem dX9_isLetter_7 : decode cX9_isLetter 7 = .ok (.iaload, 1) := by decide +kernel
theorem dX9_isLetter_8 : decode cX9_isLetter 8 = .ok (.iconst 1, 1) := by decide +kernel
theorem dX9_isLetter_9 : decode cX9_isLetter 9 = .ok (.isub, 1) := by decide +kernel
theorem dX9_isLetter_10 : decode cX9_isLetter 10 = .ok (.invokestatic 52, 3) := by decide +kernel
theorem dX9_isLetter_13 : decode cX9_isLetter 13 = .ok (.ireturn, 1) := by decide +kernel
theorem dX9_letter_0 : decode cX9_letter 0 = .ok (.aload_n 0, 1) := by decide +kernel
theorem dX9_letter_1 : decode cX9_letter 1 = .ok (.iload_n 1, 1) := by decide +kernel
theorem dX9_letter_2 : decode cX9_letter 2 = .ok (.invokevirtual 162, 3) := by decide +kernel
theorem dX9_letter_5 : decode cX9_letter 5 = .ok (.ifCond .eq 14, 3) := by decide +kernel
theorem dX9_letter_8 : decode cX9_letter 8 = .ok (.aload_n 0, 1) := by decide +kernel
theorem dX9_letter_9 : decode cX9_letter 9 = .ok (.getfield 7, 3) := by decide +kernel
theorem dX9_letter_12 : decode cX9_letter 12 = .ok (.iconst 1, 1) := by decide +kernel
theorem dX9_letter_13 : decode cX9_letter 13 = .ok (.iload_n 1, 1) := by decide +kernel
theorem dX9_letter_14 : decode cX9_letter 14 = .ok (.iadd, 1) := by decide +kernel
theorem dX9_letter_15 : decode cX9_letter 15 = .ok (.iaload, 1) := by decide +kernel
theorem dX9_letter_16 : decode cX9_letter 16 = .ok (.goto 6, 3) := by decide +kernel
theorem dX9_letter_19 : decode cX9_letter 19 = .ok (.sipush (-1001), 3) := by decide +kernel
theorem dX9_letter_22 : decode cX9_letter 22 = .ok (.ireturn, 1) := by decide +kernel
theorem dX9_comments_0 : decode cX9_comments 0 = .ok (.aload_n 0, 1) := by decide +kernel
theorem dX9_comments_1 : decode cX9_comments 1 = .ok (.getfield 7, 3) := by decide +kernel
theorem dX9_comments_4 : decode cX9_comments 4 = .ok (.bipush 122, 2) := by decide +kernel
theorem dX9_comments_6 : decode cX9_comments 6 = .ok (.iaload, 1) := by decide +kernel
theorem dX9_comments_7 : decode cX9_comments 7 = .ok (.ireturn, 1) := by decide +kernel
theorem dX9_commentAt_0 : decode cX9_commentAt 0 = .ok (.iload_n 1, 1) := by decide +kernel
theorem dX9_commentAt_1 : decode cX9_commentAt 1 = .ok (.iconst 0, 1) := by decide +kernel
theorem dX9_commentAt_2 : decode cX9_commentAt 2 = .ok (.aload_n 0, 1) := by decide +kernel
theorem dX9_commentAt_3 : decode cX9_commentAt 3 = .ok (.getfield 7, 3) := by decide +kernel
theorem dX9_commentAt_6 : decode cX9_commentAt 6 = .ok (.bipush 122, 2) := by decide +kernel
theorem dX9_commentAt_8 : decode cX9_commentAt 8 = .ok (.iaload, 1) := by decide +kernel
theorem dX9_commentAt_9 : decode cX9_commentAt 9 = .ok (.iconst 1, 1) := by decide +kernel
theorem dX9_commentAt_10 : decode cX9_commentAt 10 = .ok (.isub, 1) := by decide +kernel
theorem dX9_commentAt_11 : decode cX9_commentAt 11 = .ok (.invokestatic 52, 3) := by decide +kernel
theorem dX9_commentAt_14 : decode cX9_commentAt 14 = .ok (.ifCond .eq 16, 3) := by decide +kernel
theorem dX9_commentAt_17 : decode cX9_commentAt 17 = .ok (.aload_n 0, 1) := by decide +kernel
theorem dX9_commentAt_18 : decode cX9_commentAt 18 = .ok (.getfield 7, 3) := by decide +kernel
theorem dX9_commentAt_21 : decode cX9_commentAt 21 = .ok (.iload_n 1, 1) := by decide +kernel
theorem dX9_commentAt_22 : decode cX9_commentAt 22 = .ok (.iconst 0, 1) := by decide +kernel
theorem dX9_commentAt_23 : decode cX9_commentAt 23 = .ok (.invokestatic 48, 3) := by decide +kernel
theorem dX9_commentAt_26 : decode cX9_commentAt 26 = .ok (.iaload, 1) := by decide +kernel
theorem dX9_commentAt_27 : decode cX9_commentAt 27 = .ok (.goto 6, 3) := by decide +kernel
theorem dX9_commentAt_30 : decode cX9_commentAt 30 = .ok (.sipush (-1001), 3) := by decide +kernel
theorem dX9_commentAt_33 : decode cX9_commentAt 33 = .ok (.ireturn, 1) := by decide +kernel
theorem dX9_of_0 : decode cX9_of 0 = .ok (.aload_n 0, 1) := by decide +kernel
theorem dX9_of_1 : decode cX9_of 1 = .ok (.iload_n 1, 1) := by decide +kernel
theorem dX9_of_2 : decode cX9_of 2 = .ok (.invokevirtual 92, 3) := by decide +kernel
theorem dX9_of_5 : decode cX9_of 5 = .ok (.istore_n 3, 1) := by decide +kernel
theorem dX9_of_6 : decode cX9_of 6 = .ok (.iload_n 3, 1) := by decide +kernel
theorem dX9_of_7 : decode cX9_of 7 = .ok (.ifCond .ge 9, 3) := by decide +kernel
theorem dX9_of_10 : decode cX9_of 10 = .ok (.sipush (-1001), 3) := by decide +kernel
theorem dX9_of_13 : decode cX9_of 13 = .ok (.goto 13, 3) := by decide +kernel
theorem dX9_of_16 : decode cX9_of 16 = .ok (.aload_n 0, 1) := by decide +kernel
theorem dX9_of_17 : decode cX9_of 17 = .ok (.getfield 7, 3) := by decide +kernel
theorem dX9_of_20 : decode cX9_of 20 = .ok (.iload_n 3, 1) := by decide +kernel
theorem dX9_of_21 : decode cX9_of 21 = .ok (.iload_n 2, 1) := by decide +kernel
theorem dX9_of_22 : decode cX9_of 22 = .ok (.invokestatic 48, 3) := by decide +kernel
theorem dX9_of_25 : decode cX9_of 25 = .ok (.iaload, 1) := by decide +kernel
theorem dX9_of_26 : decode cX9_of 26 = .ok (.ireturn, 1) := by decide +kernel
theorem dX9_state_0 : decode cX9_state 0 = .ok (.aload_n 0, 1) := by decide +kernel
theorem dX9_state_1 : decode cX9_state 1 = .ok (.iload_n 1, 1) := by decide +kernel
theorem dX9_state_2 : decode cX9_state 2 = .ok (.iconst 1, 1) := by decide +kernel
theorem dX9_state_3 : decode cX9_state 3 = .ok (.invokevirtual 165, 3) := by decide +kernel
theorem dX9_state_6 : decode cX9_state 6 = .ok (.ireturn, 1) := by decide +kernel
theorem dX9_range_0 : decode cX9_range 0 = .ok (.aload_n 0, 1) := by decide +kernel
theorem dX9_range_1 : decode cX9_range 1 = .ok (.iload_n 1, 1) := by decide +kernel
theorem dX9_range_2 : decode cX9_range 2 = .ok (.iload_n 2, 1) := by decide +kernel
theorem dX9_range_3 : decode cX9_range 3 = .ok (.ifCond .eq 7, 3) := by decide +kernel
theorem dX9_range_6 : decode cX9_range 6 = .ok (.iconst 3, 1) := by decide +kernel
theorem dX9_range_7 : decode cX9_range 7 = .ok (.goto 4, 3) := by decide +kernel
theorem dX9_range_10 : decode cX9_range 10 = .ok (.iconst 2, 1) := by decide +kernel
theorem dX9_range_11 : decode cX9_range 11 = .ok (.invokevirtual 165, 3) := by decide +kernel
theorem dX9_range_14 : decode cX9_range 14 = .ok (.ireturn, 1) := by decide +kernel
theorem dX9_weight_0 : decode cX9_weight 0 = .ok (.aload_n 0, 1) := by decide +kernel
theorem dX9_weight_1 : decode cX9_weight 1 = .ok (.iload_n 1, 1) := by decide +kernel
theorem dX9_weight_2 : decode cX9_weight 2 = .ok (.iconst 4, 1) := by decide +kernel
theorem dX9_weight_3 : decode cX9_weight 3 = .ok (.invokevirtual 165, 3) := by decide +kernel
theorem dX9_weight_6 : decode cX9_weight 6 = .ok (.ireturn, 1) := by decide +kernel
theorem dX9_quoted_0 : decode cX9_quoted 0 = .ok (.aload_n 0, 1) := by decide +kernel
theorem dX9_quoted_1 : decode cX9_quoted 1 = .ok (.iload_n 1, 1) := by decide +kernel
theorem dX9_quoted_2 : decode cX9_quoted 2 = .ok (.invokevirtual 92, 3) := by decide +kernel
theorem dX9_quoted_5 : decode cX9_quoted 5 = .ok (.istore 4, 2) := by decide +kernel
theorem dX9_quoted_7 : decode cX9_quoted 7 = .ok (.iload 4, 2) := by decide +kernel
theorem dX9_quoted_9 : decode cX9_quoted 9 = .ok (.ifCond .ge 7, 3) := by decide +kernel
theorem dX9_quoted_12 : decode cX9_quoted 12 = .ok (.sipush (-1001), 3) := by decide +kernel
theorem dX9_quoted_15 : decode cX9_quoted 15 = .ok (.ireturn, 1) := by decide +kernel
theorem dX9_quoted_16 : decode cX9_quoted 16 = .ok (.iload_n 2, 1) := by decide +kernel
theorem dX9_quoted_17 : decode cX9_quoted 17 = .ok (.iconst 0, 1) := by decide +kernel
theorem dX9_quoted_18 : decode cX9_quoted 18 = .ok (.iconst 2, 1) := by decide +kernel
theorem dX9_quoted_19 : decode cX9_quoted 19 = .ok (.invokestatic 52, 3) := by decide +kernel
theorem dX9_quoted_22 : decode cX9_quoted 22 = .ok (.ifCond .ne 7, 3) := by decide +kernel
theorem dX9_quoted_25 : decode cX9_quoted 25 = .ok (.sipush (-1002), 3) := by decide +kernel
theorem dX9_quoted_28 : decode cX9_quoted 28 = .ok (.ireturn, 1) := by decide +kernel
theorem dX9_quoted_29 : decode cX9_quoted 29 = .ok (.iload_n 2, 1) := by decide +kernel
theorem dX9_quoted_30 : decode cX9_quoted 30 = .ok (.ifCond .ne 7, 3) := by decide +kernel
theorem dX9_quoted_33 : decode cX9_quoted 33 = .ok (.iconst 5, 1) := by decide +kernel
theorem dX9_quoted_34 : decode cX9_quoted 34 = .ok (.goto 15, 3) := by decide +kernel
theorem dX9_quoted_37 : decode cX9_quoted 37 = .ok (.iload_n 2, 1) := by decide +kernel
theorem dX9_quoted_38 : decode cX9_quoted 38 = .ok (.iconst 1, 1) := by decide +kernel
theorem dX9_quoted_39 : decode cX9_quoted 39 = .ok (.if_icmp .ne 8, 3) := by decide +kernel
theorem dX9_quoted_42 : decode cX9_quoted 42 = .ok (.bipush 12, 2) := by decide +kernel
theorem dX9_quoted_44 : decode cX9_quoted 44 = .ok (.goto 5, 3) := by decide +kernel
theorem dX9_quoted_47 : decode cX9_quoted 47 = .ok (.bipush 29, 2) := by decide +kernel
theorem dX9_quoted_49 : decode cX9_quoted 49 = .ok (.istore 5, 2) := by decide +kernel
theorem dX9_quoted_51 : decode cX9_quoted 51 = .ok (.iload_n 3, 1) := by decide +kernel
theorem dX9_quoted_52 : decode cX9_quoted 52 = .ok (.iconst 0, 1) := by decide +kernel
theorem dX9_quoted_53 : decode cX9_quoted 53 = .ok (.aload_n 0, 1) := by decide +kernel
theorem dX9_quoted_54 : decode cX9_quoted 54 = .ok (.getfield 7, 3) := by decide +kernel
theorem dX9_quoted_57 : decode cX9_quoted 57 = .ok (.iload 4, 2) := by decide +kernel
theorem dX9_quoted_59 : decode cX9_quoted 59 = .ok (.iload 5, 2) := by decide +kernel
theorem dX9_quoted_61 : decode cX9_quoted 61 = .ok (.invokestatic 48, 3) := by decide +kernel
theorem dX9_quoted_64 : decode cX9_quoted 64 = .ok (.iaload, 1) := by decide +kernel
theorem dX9_quoted_65 : decode cX9_quoted 65 = .ok (.iconst 1, 1) := by decide +kernel
theorem dX9_quoted_66 : decode cX9_quoted 66 = .ok (.isub, 1) := by decide +kernel
theorem dX9_quoted_67 : decode cX9_quoted 67 = .ok (.invokestatic 52, 3) := by decide +kernel
theorem dX9_quoted_70 : decode cX9_quoted 70 = .ok (.ifCond .eq 22, 3) := by decide +kernel
theorem dX9_quoted_73 : decode cX9_quoted 73 = .ok (.aload_n 0, 1) := by decide +kernel
theorem dX9_quoted_74 : decode cX9_quoted 74 = .ok (.getfield 7, 3) := by decide +kernel
theorem dX9_quoted_77 : decode cX9_quoted 77 = .ok (.iload 4, 2) := by decide +kernel
theorem dX9_quoted_79 : decode cX9_quoted 79 = .ok (.iload 5, 2) := by decide +kernel
theorem dX9_quoted_81 : decode cX9_quoted 81 = .ok (.iconst 1, 1) := by decide +kernel
theorem dX9_quoted_82 : decode cX9_quoted 82 = .ok (.iadd, 1) := by decide +kernel
theorem dX9_quoted_83 : decode cX9_quoted 83 = .ok (.iload_n 3, 1) := by decide +kernel
theorem dX9_quoted_84 : decode cX9_quoted 84 = .ok (.iadd, 1) := by decide +kernel
theorem dX9_quoted_85 : decode cX9_quoted 85 = .ok (.invokestatic 48, 3) := by decide +kernel
theorem dX9_quoted_88 : decode cX9_quoted 88 = .ok (.iaload, 1) := by decide +kernel
theorem dX9_quoted_89 : decode cX9_quoted 89 = .ok (.goto 6, 3) := by decide +kernel
theorem dX9_quoted_92 : decode cX9_quoted 92 = .ok (.sipush (-1005), 3) := by decide +kernel
theorem dX9_quoted_95 : decode cX9_quoted 95 = .ok (.ireturn, 1) := by decide +kernel
theorem dX9_distance_0 : decode cX9_distance 0 = .ok (.aload_n 0, 1) := by decide +kernel
theorem dX9_distance_1 : decode cX9_distance 1 = .ok (.iload_n 1, 1) := by decide +kernel
theorem dX9_distance_2 : decode cX9_distance 2 = .ok (.invokevirtual 92, 3) := by decide +kernel
theorem dX9_distance_5 : decode cX9_distance 5 = .ok (.istore_n 2, 1) := by decide +kernel
theorem dX9_distance_6 : decode cX9_distance 6 = .ok (.iload_n 2, 1) := by decide +kernel
theorem dX9_distance_7 : decode cX9_distance 7 = .ok (.ifCond .ge 7, 3) := by decide +kernel
theorem dX9_distance_10 : decode cX9_distance 10 = .ok (.sipush (-1001), 3) := by decide +kernel
theorem dX9_distance_13 : decode cX9_distance 13 = .ok (.ireturn, 1) := by decide +kernel
theorem dX9_distance_14 : decode cX9_distance 14 = .ok (.aload_n 0, 1) := by decide +kernel
theorem dX9_distance_15 : decode cX9_distance 15 = .ok (.getfield 7, 3) := by decide +kernel
theorem dX9_distance_18 : decode cX9_distance 18 = .ok (.iload_n 2, 1) := by decide +kernel
theorem dX9_distance_19 : decode cX9_distance 19 = .ok (.iconst 1, 1) := by decide +kernel
theorem dX9_distance_20 : decode cX9_distance 20 = .ok (.invokestatic 48, 3) := by decide +kernel
theorem dX9_distance_23 : decode cX9_distance 23 = .ok (.iaload, 1) := by decide +kernel
theorem dX9_distance_24 : decode cX9_distance 24 = .ok (.ifCond .ne 9, 3) := by decide +kernel
theorem dX9_distance_27 : decode cX9_distance 27 = .ok (.sipush (-1003), 3) := by decide +kernel
theorem dX9_distance_30 : decode cX9_distance 30 = .ok (.goto 28, 3) := by decide +kernel
theorem dX9_distance_33 : decode cX9_distance 33 = .ok (.aload_n 0, 1) := by decide +kernel
theorem dX9_distance_34 : decode cX9_distance 34 = .ok (.iload_n 2, 1) := by decide +kernel
theorem dX9_distance_35 : decode cX9_distance 35 = .ok (.aload_n 0, 1) := by decide +kernel
theorem dX9_distance_36 : decode cX9_distance 36 = .ok (.getfield 7, 3) := by decide +kernel
theorem dX9_distance_39 : decode cX9_distance 39 = .ok (.iload_n 2, 1) := by decide +kernel
theorem dX9_distance_40 : decode cX9_distance 40 = .ok (.iconst 2, 1) := by decide +kernel
theorem dX9_distance_41 : decode cX9_distance 41 = .ok (.invokestatic 48, 3) := by decide +kernel
theorem dX9_distance_44 : decode cX9_distance 44 = .ok (.iaload, 1) := by decide +kernel
theorem dX9_distance_45 : decode cX9_distance 45 = .ok (.aload_n 0, 1) := by decide +kernel
theorem dX9_distance_46 : decode cX9_distance 46 = .ok (.getfield 7, 3) := by decide +kernel
theorem dX9_distance_49 : decode cX9_distance 49 = .ok (.iload_n 2, 1) := by decide +kernel
theorem dX9_distance_50 : decode cX9_distance 50 = .ok (.iconst 3, 1) := by decide +kernel
theorem dX9_distance_51 : decode cX9_distance 51 = .ok (.invokestatic 48, 3) := by decide +kernel
theorem dX9_distance_54 : decode cX9_distance 54 = .ok (.iaload, 1) := by decide +kernel
theorem dX9_distance_55 : decode cX9_distance 55 = .ok (.invokevirtual 168, 3) := by decide +kernel
theorem dX9_distance_58 : decode cX9_distance 58 = .ok (.ireturn, 1) := by decide +kernel
theorem dX9_score_0 : decode cX9_score 0 = .ok (.aload_n 0, 1) := by decide +kernel
theorem dX9_score_1 : decode cX9_score 1 = .ok (.iload_n 1, 1) := by decide +kernel
theorem dX9_score_2 : decode cX9_score 2 = .ok (.invokevirtual 92, 3) := by decide +kernel
theorem dX9_score_5 : decode cX9_score 5 = .ok (.istore 4, 2) := by decide +kernel
theorem dX9_score_7 : decode cX9_score 7 = .ok (.iload 4, 2) := by decide +kernel
theorem dX9_score_9 : decode cX9_score 9 = .ok (.ifCond .lt 11, 3) := by decide +kernel
theorem dX9_score_12 : decode cX9_score 12 = .ok (.aload_n 0, 1) := by decide +kernel
theorem dX9_score_13 : decode cX9_score 13 = .ok (.iload_n 2, 1) := by decide +kernel
theorem dX9_score_14 : decode cX9_score 14 = .ok (.invokevirtual 76, 3) := by decide +kernel
theorem dX9_score_17 : decode cX9_score 17 = .ok (.ifCond .ne 7, 3) := by decide +kernel
theorem dX9_score_20 : decode cX9_score 20 = .ok (.sipush (-1001), 3) := by decide +kernel
theorem dX9_score_23 : decode cX9_score 23 = .ok (.ireturn, 1) := by decide +kernel
theorem dX9_score_24 : decode cX9_score 24 = .ok (.iload_n 3, 1) := by decide +kernel
theorem dX9_score_25 : decode cX9_score 25 = .ok (.iload_n 2, 1) := by decide +kernel
theorem dX9_score_26 : decode cX9_score 26 = .ok (.iconst 1, 1) := by decide +kernel
theorem dX9_score_27 : decode cX9_score 27 = .ok (.iadd, 1) := by decide +kernel
theorem dX9_score_28 : decode cX9_score 28 = .ok (.iload_n 2, 1) := by decide +kernel
theorem dX9_score_29 : decode cX9_score 29 = .ok (.bipush 30, 2) := by decide +kernel
theorem dX9_score_31 : decode cX9_score 31 = .ok (.iadd, 1) := by decide +kernel
theorem dX9_score_32 : decode cX9_score 32 = .ok (.invokestatic 52, 3) := by decide +kernel
theorem dX9_score_35 : decode cX9_score 35 = .ok (.ifCond .eq 11, 3) := by decide +kernel
theorem dX9_score_38 : decode cX9_score 38 = .ok (.aload_n 0, 1) := by decide +kernel
theorem dX9_score_39 : decode cX9_score 39 = .ok (.iload_n 3, 1) := by decide +kernel
theorem dX9_score_40 : decode cX9_score 40 = .ok (.invokevirtual 76, 3) := by decide +kernel
theorem dX9_score_43 : decode cX9_score 43 = .ok (.ifCond .ne 7, 3) := by decide +kernel
theorem dX9_score_46 : decode cX9_score 46 = .ok (.sipush (-1002), 3) := by decide +kernel
theorem dX9_score_49 : decode cX9_score 49 = .ok (.ireturn, 1) := by decide +kernel
theorem dX9_score_50 : decode cX9_score 50 = .ok (.aload_n 0, 1) := by decide +kernel
theorem dX9_score_51 : decode cX9_score 51 = .ok (.iload 4, 2) := by decide +kernel
theorem dX9_score_53 : decode cX9_score 53 = .ok (.iload_n 2, 1) := by decide +kernel
theorem dX9_score_54 : decode cX9_score 54 = .ok (.iload_n 3, 1) := by decide +kernel
theorem dX9_score_55 : decode cX9_score 55 = .ok (.aload_n 0, 1) := by decide +kernel
theorem dX9_score_56 : decode cX9_score 56 = .ok (.iload 4, 2) := by decide +kernel
theorem dX9_score_58 : decode cX9_score 58 = .ok (.iload_n 2, 1) := by decide +kernel
theorem dX9_score_59 : decode cX9_score 59 = .ok (.iload_n 3, 1) := by decide +kernel
theorem dX9_score_60 : decode cX9_score 60 = .ok (.invokevirtual 168, 3) := by decide +kernel
theorem dX9_score_63 : decode cX9_score 63 = .ok (.invokevirtual 111, 3) := by decide +kernel
theorem dX9_score_66 : decode cX9_score 66 = .ok (.ireturn, 1) := by decide +kernel
theorem dX9_best_0 : decode cX9_best 0 = .ok (.aload_n 0, 1) := by decide +kernel
theorem dX9_best_1 : decode cX9_best 1 = .ok (.iload_n 1, 1) := by decide +kernel
theorem dX9_best_2 : decode cX9_best 2 = .ok (.invokevirtual 92, 3) := by decide +kernel
theorem dX9_best_5 : decode cX9_best 5 = .ok (.istore_n 3, 1) := by decide +kernel
theorem dX9_best_6 : decode cX9_best 6 = .ok (.iload_n 3, 1) := by decide +kernel
theorem dX9_best_7 : decode cX9_best 7 = .ok (.ifCond .ge 7, 3) := by decide +kernel
theorem dX9_best_10 : decode cX9_best 10 = .ok (.sipush (-1001), 3) := by decide +kernel
theorem dX9_best_13 : decode cX9_best 13 = .ok (.ireturn, 1) := by decide +kernel
theorem dX9_best_14 : decode cX9_best 14 = .ok (.iload_n 2, 1) := by decide +kernel
theorem dX9_best_15 : decode cX9_best 15 = .ok (.iconst 0, 1) := by decide +kernel
theorem dX9_best_16 : decode cX9_best 16 = .ok (.iconst 2, 1) := by decide +kernel
theorem dX9_best_17 : decode cX9_best 17 = .ok (.invokestatic 52, 3) := by decide +kernel
theorem dX9_best_20 : decode cX9_best 20 = .ok (.ifCond .ne 7, 3) := by decide +kernel
theorem dX9_best_23 : decode cX9_best 23 = .ok (.sipush (-1002), 3) := by decide +kernel
theorem dX9_best_26 : decode cX9_best 26 = .ok (.ireturn, 1) := by decide +kernel
theorem dX9_best_27 : decode cX9_best 27 = .ok (.aload_n 0, 1) := by decide +kernel
theorem dX9_best_28 : decode cX9_best 28 = .ok (.iload_n 3, 1) := by decide +kernel
theorem dX9_best_29 : decode cX9_best 29 = .ok (.invokevirtual 134, 3) := by decide +kernel
theorem dX9_best_32 : decode cX9_best 32 = .ok (.ifCond .ne 7, 3) := by decide +kernel
theorem dX9_best_35 : decode cX9_best 35 = .ok (.sipush (-1005), 3) := by decide +kernel
theorem dX9_best_38 : decode cX9_best 38 = .ok (.ireturn, 1) := by decide +kernel
theorem dX9_best_39 : decode cX9_best 39 = .ok (.iload_n 2, 1) := by decide +kernel
theorem dX9_best_40 : decode cX9_best 40 = .ok (.ifCond .ne 10, 3) := by decide +kernel
theorem dX9_best_43 : decode cX9_best 43 = .ok (.aload_n 0, 1) := by decide +kernel
theorem dX9_best_44 : decode cX9_best 44 = .ok (.getfield 125, 3) := by decide +kernel
theorem dX9_best_47 : decode cX9_best 47 = .ok (.goto 24, 3) := by decide +kernel
theorem dX9_best_50 : decode cX9_best 50 = .ok (.iload_n 2, 1) := by decide +kernel
theorem dX9_best_51 : decode cX9_best 51 = .ok (.iconst 1, 1) := by decide +kernel
theorem dX9_best_52 : decode cX9_best 52 = .ok (.if_icmp .ne 10, 3) := by decide +kernel
theorem dX9_best_55 : decode cX9_best 55 = .ok (.aload_n 0, 1) := by decide +kernel
theorem dX9_best_56 : decode cX9_best 56 = .ok (.getfield 128, 3) := by decide +kernel
theorem dX9_best_59 : decode cX9_best 59 = .ok (.goto 12, 3) := by decide +kernel
theorem dX9_best_62 : decode cX9_best 62 = .ok (.aload_n 0, 1) := by decide +kernel
theorem dX9_best_63 : decode cX9_best 63 = .ok (.getfield 128, 3) := by decide +kernel
theorem dX9_best_66 : decode cX9_best 66 = .ok (.aload_n 0, 1) := by decide +kernel
theorem dX9_best_67 : decode cX9_best 67 = .ok (.getfield 131, 3) := by decide +kernel
theorem dX9_best_70 : decode cX9_best 70 = .ok (.iadd, 1) := by decide +kernel
theorem dX9_best_71 : decode cX9_best 71 = .ok (.ireturn, 1) := by decide +kernel
theorem dX9_overlap_0 : decode cX9_overlap 0 = .ok (.aload_n 0, 1) := by decide +kernel
theorem dX9_overlap_1 : decode cX9_overlap 1 = .ok (.iload_n 1, 1) := by decide +kernel
theorem dX9_overlap_2 : decode cX9_overlap 2 = .ok (.invokevirtual 92, 3) := by decide +kernel
theorem dX9_overlap_5 : decode cX9_overlap 5 = .ok (.istore_n 3, 1) := by decide +kernel
theorem dX9_overlap_6 : decode cX9_overlap 6 = .ok (.aload_n 0, 1) := by decide +kernel
theorem dX9_overlap_7 : decode cX9_overlap 7 = .ok (.iload_n 2, 1) := by decide +kernel
theorem dX9_overlap_8 : decode cX9_overlap 8 = .ok (.invokevirtual 92, 3) := by decide +kernel
theorem dX9_overlap_11 : decode cX9_overlap 11 = .ok (.istore 4, 2) := by decide +kernel
theorem dX9_overlap_13 : decode cX9_overlap 13 = .ok (.iload_n 3, 1) := by decide +kernel
theorem dX9_overlap_14 : decode cX9_overlap 14 = .ok (.ifCond .lt 8, 3) := by decide +kernel
theorem dX9_overlap_17 : decode cX9_overlap 17 = .ok (.iload 4, 2) := by decide +kernel
theorem dX9_overlap_19 : decode cX9_overlap 19 = .ok (.ifCond .ge 7, 3) := by decide +kernel
theorem dX9_overlap_22 : decode cX9_overlap 22 = .ok (.sipush (-1001), 3) := by decide +kernel
theorem dX9_overlap_25 : decode cX9_overlap 25 = .ok (.ireturn, 1) := by decide +kernel
theorem dX9_overlap_26 : decode cX9_overlap 26 = .ok (.aload_n 0, 1) := by decide +kernel
theorem dX9_overlap_27 : decode cX9_overlap 27 = .ok (.getfield 7, 3) := by decide +kernel
theorem dX9_overlap_30 : decode cX9_overlap 30 = .ok (.iload_n 3, 1) := by decide +kernel
theorem dX9_overlap_31 : decode cX9_overlap 31 = .ok (.iconst 2, 1) := by decide +kernel
theorem dX9_overlap_32 : decode cX9_overlap 32 = .ok (.invokestatic 48, 3) := by decide +kernel
theorem dX9_overlap_35 : decode cX9_overlap 35 = .ok (.iaload, 1) := by decide +kernel
theorem dX9_overlap_36 : decode cX9_overlap 36 = .ok (.ineg, 1) := by decide +kernel
theorem dX9_overlap_37 : decode cX9_overlap 37 = .ok (.aload_n 0, 1) := by decide +kernel
theorem dX9_overlap_38 : decode cX9_overlap 38 = .ok (.getfield 7, 3) := by decide +kernel
theorem dX9_overlap_41 : decode cX9_overlap 41 = .ok (.iload 4, 2) := by decide +kernel
theorem dX9_overlap_43 : decode cX9_overlap 43 = .ok (.iconst 2, 1) := by decide +kernel
theorem dX9_overlap_44 : decode cX9_overlap 44 = .ok (.invokestatic 48, 3) := by decide +kernel
theorem dX9_overlap_47 : decode cX9_overlap 47 = .ok (.iaload, 1) := by decide +kernel
theorem dX9_overlap_48 : decode cX9_overlap 48 = .ok (.ineg, 1) := by decide +kernel
theorem dX9_overlap_49 : decode cX9_overlap 49 = .ok (.invokestatic 69, 3) := by decide +kernel
theorem dX9_overlap_52 : decode cX9_overlap 52 = .ok (.ineg, 1) := by decide +kernel
theorem dX9_overlap_53 : decode cX9_overlap 53 = .ok (.istore 5, 2) := by decide +kernel
theorem dX9_overlap_55 : decode cX9_overlap 55 = .ok (.aload_n 0, 1) := by decide +kernel
theorem dX9_overlap_56 : decode cX9_overlap 56 = .ok (.getfield 7, 3) := by decide +kernel
theorem dX9_overlap_59 : decode cX9_overlap 59 = .ok (.iload_n 3, 1) := by decide +kernel
theorem dX9_overlap_60 : decode cX9_overlap 60 = .ok (.iconst 3, 1) := by decide +kernel
theorem dX9_overlap_61 : decode cX9_overlap 61 = .ok (.invokestatic 48, 3) := by decide +kernel
theorem dX9_overlap_64 : decode cX9_overlap 64 = .ok (.iaload, 1) := by decide +kernel
theorem dX9_overlap_65 : decode cX9_overlap 65 = .ok (.aload_n 0, 1) := by decide +kernel
theorem dX9_overlap_66 : decode cX9_overlap 66 = .ok (.getfield 7, 3) := by decide +kernel
theorem dX9_overlap_69 : decode cX9_overlap 69 = .ok (.iload 4, 2) := by decide +kernel
theorem dX9_overlap_71 : decode cX9_overlap 71 = .ok (.iconst 3, 1) := by decide +kernel
theorem dX9_overlap_72 : decode cX9_overlap 72 = .ok (.invokestatic 48, 3) := by decide +kernel
theorem dX9_overlap_75 : decode cX9_overlap 75 = .ok (.iaload, 1) := by decide +kernel
theorem dX9_overlap_76 : decode cX9_overlap 76 = .ok (.invokestatic 69, 3) := by decide +kernel
theorem dX9_overlap_79 : decode cX9_overlap 79 = .ok (.istore 6, 2) := by decide +kernel
theorem dX9_overlap_81 : decode cX9_overlap 81 = .ok (.iload 6, 2) := by decide +kernel
theorem dX9_overlap_83 : decode cX9_overlap 83 = .ok (.iload 5, 2) := by decide +kernel
theorem dX9_overlap_85 : decode cX9_overlap 85 = .ok (.if_icmp .le 11, 3) := by decide +kernel
theorem dX9_overlap_88 : decode cX9_overlap 88 = .ok (.iload 6, 2) := by decide +kernel
theorem dX9_overlap_90 : decode cX9_overlap 90 = .ok (.iload 5, 2) := by decide +kernel
theorem dX9_overlap_92 : decode cX9_overlap 92 = .ok (.isub, 1) := by decide +kernel
theorem dX9_overlap_93 : decode cX9_overlap 93 = .ok (.goto 4, 3) := by decide +kernel
theorem dX9_overlap_96 : decode cX9_overlap 96 = .ok (.iconst 0, 1) := by decide +kernel
theorem dX9_overlap_97 : decode cX9_overlap 97 = .ok (.ireturn, 1) := by decide +kernel
theorem dX9_isBefore_0 : decode cX9_isBefore 0 = .ok (.aload_n 0, 1) := by decide +kernel
theorem dX9_isBefore_1 : decode cX9_isBefore 1 = .ok (.getfield 7, 3) := by decide +kernel
theorem dX9_isBefore_4 : decode cX9_isBefore 4 = .ok (.iload_n 1, 1) := by decide +kernel
theorem dX9_isBefore_5 : decode cX9_isBefore 5 = .ok (.iconst 2, 1) := by decide +kernel
theorem dX9_isBefore_6 : decode cX9_isBefore 6 = .ok (.invokestatic 48, 3) := by decide +kernel
theorem dX9_isBefore_9 : decode cX9_isBefore 9 = .ok (.iaload, 1) := by decide +kernel
theorem dX9_isBefore_10 : decode cX9_isBefore 10 = .ok (.aload_n 0, 1) := by decide +kernel
theorem dX9_isBefore_11 : decode cX9_isBefore 11 = .ok (.getfield 7, 3) := by decide +kernel
theorem dX9_isBefore_14 : decode cX9_isBefore 14 = .ok (.iload_n 2, 1) := by decide +kernel
theorem dX9_isBefore_15 : decode cX9_isBefore 15 = .ok (.iconst 2, 1) := by decide +kernel
theorem dX9_isBefore_16 : decode cX9_isBefore 16 = .ok (.invokestatic 48, 3) := by decide +kernel
theorem dX9_isBefore_19 : decode cX9_isBefore 19 = .ok (.iaload, 1) := by decide +kernel
theorem dX9_isBefore_20 : decode cX9_isBefore 20 = .ok (.if_icmp .eq 32, 3) := by decide +kernel
theorem dX9_isBefore_23 : decode cX9_isBefore 23 = .ok (.aload_n 0, 1) := by decide +kernel
theorem dX9_isBefore_24 : decode cX9_isBefore 24 = .ok (.getfield 7, 3) := by decide +kernel
theorem dX9_isBefore_27 : decode cX9_isBefore 27 = .ok (.iload_n 1, 1) := by decide +kernel
theorem dX9_isBefore_28 : decode cX9_isBefore 28 = .ok (.iconst 2, 1) := by decide +kernel
theorem dX9_isBefore_29 : decode cX9_isBefore 29 = .ok (.invokestatic 48, 3) := by decide +kernel
theorem dX9_isBefore_32 : decode cX9_isBefore 32 = .ok (.iaload, 1) := by decide +kernel
theorem dX9_isBefore_33 : decode cX9_isBefore 33 = .ok (.aload_n 0, 1) := by decide +kernel
theorem dX9_isBefore_34 : decode cX9_isBefore 34 = .ok (.getfield 7, 3) := by decide +kernel
theorem dX9_isBefore_37 : decode cX9_isBefore 37 = .ok (.iload_n 2, 1) := by decide +kernel
theorem dX9_isBefore_38 : decode cX9_isBefore 38 = .ok (.iconst 2, 1) := by decide +kernel
theorem dX9_isBefore_39 : decode cX9_isBefore 39 = .ok (.invokestatic 48, 3) := by decide +kernel
theorem dX9_isBefore_42 : decode cX9_isBefore 42 = .ok (.iaload, 1) := by decide +kernel
theorem dX9_isBefore_43 : decode cX9_isBefore 43 = .ok (.if_icmp .ge 7, 3) := by decide +kernel
theorem dX9_isBefore_46 : decode cX9_isBefore 46 = .ok (.iconst 1, 1) := by decide +kernel
theorem dX9_isBefore_47 : decode cX9_isBefore 47 = .ok (.goto 4, 3) := by decide +kernel
theorem dX9_isBefore_50 : decode cX9_isBefore 50 = .ok (.iconst 0, 1) := by decide +kernel
theorem dX9_isBefore_51 : decode cX9_isBefore 51 = .ok (.ireturn, 1) := by decide +kernel
theorem dX9_isBefore_52 : decode cX9_isBefore 52 = .ok (.aload_n 0, 1) := by decide +kernel
theorem dX9_isBefore_53 : decode cX9_isBefore 53 = .ok (.getfield 7, 3) := by decide +kernel
theorem dX9_isBefore_56 : decode cX9_isBefore 56 = .ok (.iload_n 1, 1) := by decide +kernel
theorem dX9_isBefore_57 : decode cX9_isBefore 57 = .ok (.iconst 3, 1) := by decide +kernel
theorem dX9_isBefore_58 : decode cX9_isBefore 58 = .ok (.invokestatic 48, 3) := by decide +kernel
theorem dX9_isBefore_61 : decode cX9_isBefore 61 = .ok (.iaload, 1) := by decide +kernel
theorem dX9_isBefore_62 : decode cX9_isBefore 62 = .ok (.aload_n 0, 1) := by decide +kernel
theorem dX9_isBefore_63 : decode cX9_isBefore 63 = .ok (.getfield 7, 3) := by decide +kernel
theorem dX9_isBefore_66 : decode cX9_isBefore 66 = .ok (.iload_n 2, 1) := by decide +kernel
theorem dX9_isBefore_67 : decode cX9_isBefore 67 = .ok (.iconst 3, 1) := by decide +kernel
theorem dX9_isBefore_68 : decode cX9_isBefore 68 = .ok (.invokestatic 48, 3) := by decide +kernel
theorem dX9_isBefore_71 : decode cX9_isBefore 71 = .ok (.iaload, 1) := by decide +kernel
theorem dX9_isBefore_72 : decode cX9_isBefore 72 = .ok (.if_icmp .gt 31, 3) := by decide +kernel
theorem dX9_isBefore_75 : decode cX9_isBefore 75 = .ok (.aload_n 0, 1) := by decide +kernel
theorem dX9_isBefore_76 : decode cX9_isBefore 76 = .ok (.getfield 7, 3) := by decide +kernel
theorem dX9_isBefore_79 : decode cX9_isBefore 79 = .ok (.iload_n 1, 1) := by decide +kernel
theorem dX9_isBefore_80 : decode cX9_isBefore 80 = .ok (.iconst 3, 1) := by decide +kernel
theorem dX9_isBefore_81 : decode cX9_isBefore 81 = .ok (.invokestatic 48, 3) := by decide +kernel
theorem dX9_isBefore_84 : decode cX9_isBefore 84 = .ok (.iaload, 1) := by decide +kernel
theorem dX9_isBefore_85 : decode cX9_isBefore 85 = .ok (.aload_n 0, 1) := by decide +kernel
theorem dX9_isBefore_86 : decode cX9_isBefore 86 = .ok (.getfield 7, 3) := by decide +kernel
theorem dX9_isBefore_89 : decode cX9_isBefore 89 = .ok (.iload_n 2, 1) := by decide +kernel
theorem dX9_isBefore_90 : decode cX9_isBefore 90 = .ok (.iconst 3, 1) := by decide +kernel
theorem dX9_isBefore_91 : decode cX9_isBefore 91 = .ok (.invokestatic 48, 3) := by decide +kernel
theorem dX9_isBefore_94 : decode cX9_isBefore 94 = .ok (.iaload, 1) := by decide +kernel
theorem dX9_isBefore_95 : decode cX9_isBefore 95 = .ok (.if_icmp .ne 12, 3) := by decide +kernel
theorem dX9_isBefore_98 : decode cX9_isBefore 98 = .ok (.iload_n 1, 1) := by decide +kernel
theorem dX9_isBefore_99 : decode cX9_isBefore 99 = .ok (.iload_n 2, 1) := by decide +kernel
theorem dX9_isBefore_100 : decode cX9_isBefore 100 = .ok (.if_icmp .ge 7, 3) := by decide +kernel
theorem dX9_isBefore_103 : decode cX9_isBefore 103 = .ok (.iconst 1, 1) := by decide +kernel
theorem dX9_isBefore_104 : decode cX9_isBefore 104 = .ok (.goto 4, 3) := by decide +kernel
theorem dX9_isBefore_107 : decode cX9_isBefore 107 = .ok (.iconst 0, 1) := by decide +kernel
theorem dX9_isBefore_108 : decode cX9_isBefore 108 = .ok (.ireturn, 1) := by decide +kernel
theorem dX9_covers_0 : decode cX9_covers 0 = .ok (.aload_n 0, 1) := by decide +kernel
theorem dX9_covers_1 : decode cX9_covers 1 = .ok (.getfield 7, 3) := by decide +kernel
theorem dX9_covers_4 : decode cX9_covers 4 = .ok (.iload_n 1, 1) := by decide +kernel
theorem dX9_covers_5 : decode cX9_covers 5 = .ok (.iconst 1, 1) := by decide +kernel
theorem dX9_covers_6 : decode cX9_covers 6 = .ok (.invokestatic 48, 3) := by decide +kernel
theorem dX9_covers_9 : decode cX9_covers 9 = .ok (.iaload, 1) := by decide +kernel
theorem dX9_covers_10 : decode cX9_covers 10 = .ok (.iconst 1, 1) := by decide +kernel
theorem dX9_covers_11 : decode cX9_covers 11 = .ok (.if_icmp .ne 35, 3) := by decide +kernel
theorem dX9_covers_14 : decode cX9_covers 14 = .ok (.aload_n 0, 1) := by decide +kernel
theorem dX9_covers_15 : decode cX9_covers 15 = .ok (.getfield 7, 3) := by decide +kernel
theorem dX9_covers_18 : decode cX9_covers 18 = .ok (.iload_n 1, 1) := by decide +kernel
theorem dX9_covers_19 : decode cX9_covers 19 = .ok (.iconst 2, 1) := by decide +kernel
theorem dX9_covers_20 : decode cX9_covers 20 = .ok (.invokestatic 48, 3) := by decide +kernel
theorem dX9_covers_23 : decode cX9_covers 23 = .ok (.iaload, 1) := by decide +kernel
theorem dX9_covers_24 : decode cX9_covers 24 = .ok (.iload_n 2, 1) := by decide +kernel
theorem dX9_covers_25 : decode cX9_covers 25 = .ok (.if_icmp .gt 21, 3) := by decide +kernel
theorem dX9_covers_28 : decode cX9_covers 28 = .ok (.iload_n 2, 1) := by decide +kernel
theorem dX9_covers_29 : decode cX9_covers 29 = .ok (.aload_n 0, 1) := by decide +kernel
theorem dX9_covers_30 : decode cX9_covers 30 = .ok (.getfield 7, 3) := by decide +kernel
theorem dX9_covers_33 : decode cX9_covers 33 = .ok (.iload_n 1, 1) := by decide +kernel
theorem dX9_covers_34 : decode cX9_covers 34 = .ok (.iconst 3, 1) := by decide +kernel
theorem dX9_covers_35 : decode cX9_covers 35 = .ok (.invokestatic 48, 3) := by decide +kernel
theorem dX9_covers_38 : decode cX9_covers 38 = .ok (.iaload, 1) := by decide +kernel
theorem dX9_covers_39 : decode cX9_covers 39 = .ok (.if_icmp .ge 7, 3) := by decide +kernel
theorem dX9_covers_42 : decode cX9_covers 42 = .ok (.iconst 1, 1) := by decide +kernel
theorem dX9_covers_43 : decode cX9_covers 43 = .ok (.goto 4, 3) := by decide +kernel
theorem dX9_covers_46 : decode cX9_covers 46 = .ok (.iconst 0, 1) := by decide +kernel
theorem dX9_covers_47 : decode cX9_covers 47 = .ok (.ireturn, 1) := by decide +kernel
theorem dX9_covering_0 : decode cX9_covering 0 = .ok (.aload_n 0, 1) := by decide +kernel
theorem dX9_covering_1 : decode cX9_covering 1 = .ok (.iload_n 1, 1) := by decide +kernel
theorem dX9_covering_2 : decode cX9_covering 2 = .ok (.invokevirtual 162, 3) := by decide +kernel
theorem dX9_covering_5 : decode cX9_covering 5 = .ok (.ifCond .eq 7, 3) := by decide +kernel
theorem dX9_covering_8 : decode cX9_covering 8 = .ok (.iload_n 2, 1) := by decide +kernel
theorem dX9_covering_9 : decode cX9_covering 9 = .ok (.ifCond .ge 7, 3) := by decide +kernel
theorem dX9_covering_12 : decode cX9_covering 12 = .ok (.sipush (-1001), 3) := by decide +kernel
theorem dX9_covering_15 : decode cX9_covering 15 = .ok (.ireturn, 1) := by decide +kernel
theorem dX9_covering_16 : decode cX9_covering 16 = .ok (.iconst 0, 1) := by decide +kernel
theorem dX9_covering_17 : decode cX9_covering 17 = .ok (.istore_n 3, 1) := by decide +kernel
theorem dX9_covering_18 : decode cX9_covering 18 = .ok (.iload_n 3, 1) := by decide +kernel
theorem dX9_covering_19 : decode cX9_covering 19 = .ok (.aload_n 0, 1) := by decide +kernel
theorem dX9_covering_20 : decode cX9_covering 20 = .ok (.getfield 7, 3) := by decide +kernel
theorem dX9_covering_23 : decode cX9_covering 23 = .ok (.bipush 122, 2) := by decide +kernel
theorem dX9_covering_25 : decode cX9_covering 25 = .ok (.iaload, 1) := by decide +kernel
theorem dX9_covering_26 : decode cX9_covering 26 = .ok (.if_icmp .ge 89, 3) := by decide +kernel
theorem dX9_covering_29 : decode cX9_covering 29 = .ok (.iconst 0, 1) := by decide +kernel
theorem dX9_covering_30 : decode cX9_covering 30 = .ok (.istore 4, 2) := by decide +kernel
theorem dX9_covering_32 : decode cX9_covering 32 = .ok (.iconst 0, 1) := by decide +kernel
theorem dX9_covering_33 : decode cX9_covering 33 = .ok (.istore 5, 2) := by decide +kernel
theorem dX9_covering_35 : decode cX9_covering 35 = .ok (.iload 5, 2) := by decide +kernel
theorem dX9_covering_37 : decode cX9_covering 37 = .ok (.aload_n 0, 1) := by decide +kernel
theorem dX9_covering_38 : decode cX9_covering 38 = .ok (.getfield 7, 3) := by decide +kernel
theorem dX9_covering_41 : decode cX9_covering 41 = .ok (.bipush 122, 2) := by decide +kernel
theorem dX9_covering_43 : decode cX9_covering 43 = .ok (.iaload, 1) := by decide +kernel
theorem dX9_covering_44 : decode cX9_covering 44 = .ok (.if_icmp .ge 39, 3) := by decide +kernel
theorem dX9_covering_47 : decode cX9_covering 47 = .ok (.iload 4, 2) := by decide +kernel
theorem dX9_covering_49 : decode cX9_covering 49 = .ok (.aload_n 0, 1) := by decide +kernel
theorem dX9_covering_50 : decode cX9_covering 50 = .ok (.iload 5, 2) := by decide +kernel
theorem dX9_covering_52 : decode cX9_covering 52 = .ok (.iload_n 1, 1) := by decide +kernel
theorem dX9_covering_53 : decode cX9_covering 53 = .ok (.invokevirtual 171, 3) := by decide +kernel
theorem dX9_covering_56 : decode cX9_covering 56 = .ok (.ifCond .eq 17, 3) := by decide +kernel
theorem dX9_covering_59 : decode cX9_covering 59 = .ok (.aload_n 0, 1) := by decide +kernel
theorem dX9_covering_60 : decode cX9_covering 60 = .ok (.iload 5, 2) := by decide +kernel
theorem dX9_covering_62 : decode cX9_covering 62 = .ok (.iload_n 3, 1) := by decide +kernel
theorem dX9_covering_63 : decode cX9_covering 63 = .ok (.invokevirtual 174, 3) := by decide +kernel
theorem dX9_covering_66 : decode cX9_covering 66 = .ok (.ifCond .eq 7, 3) := by decide +kernel
theorem dX9_covering_69 : decode cX9_covering 69 = .ok (.iconst 1, 1) := by decide +kernel
theorem dX9_covering_70 : decode cX9_covering 70 = .ok (.goto 4, 3) := by decide +kernel
theorem dX9_covering_73 : decode cX9_covering 73 = .ok (.iconst 0, 1) := by decide +kernel
theorem dX9_covering_74 : decode cX9_covering 74 = .ok (.iadd, 1) := by decide +kernel
theorem dX9_covering_75 : decode cX9_covering 75 = .ok (.istore 4, 2) := by decide +kernel
theorem dX9_covering_77 : decode cX9_covering 77 = .ok (.iinc 5 1, 3) := by decide +kernel
theorem dX9_covering_80 : decode cX9_covering 80 = .ok (.goto (-45), 3) := by decide +kernel
theorem dX9_covering_83 : decode cX9_covering 83 = .ok (.aload_n 0, 1) := by decide +kernel
theorem dX9_covering_84 : decode cX9_covering 84 = .ok (.iload_n 3, 1) := by decide +kernel
theorem dX9_covering_85 : decode cX9_covering 85 = .ok (.iload_n 1, 1) := by decide +kernel
theorem dX9_covering_86 : decode cX9_covering 86 = .ok (.invokevirtual 171, 3) := by decide +kernel
theorem dX9_covering_89 : decode cX9_covering 89 = .ok (.ifCond .eq 20, 3) := by decide +kernel
theorem dX9_covering_92 : decode cX9_covering 92 = .ok (.iload 4, 2) := by decide +kernel
theorem dX9_covering_94 : decode cX9_covering 94 = .ok (.iload_n 2, 1) := by decide +kernel
theorem dX9_covering_95 : decode cX9_covering 95 = .ok (.if_icmp .ne 14, 3) := by decide +kernel
theorem dX9_covering_98 : decode cX9_covering 98 = .ok (.aload_n 0, 1) := by decide +kernel
theorem dX9_covering_99 : decode cX9_covering 99 = .ok (.getfield 7, 3) := by decide +kernel
theorem dX9_covering_102 : decode cX9_covering 102 = .ok (.iload_n 3, 1) := by decide +kernel
theorem dX9_covering_103 : decode cX9_covering 103 = .ok (.iconst 0, 1) := by decide +kernel
theorem dX9_covering_104 : decode cX9_covering 104 = .ok (.invokestatic 48, 3) := by decide +kernel
theorem dX9_covering_107 : decode cX9_covering 107 = .ok (.iaload, 1) := by decide +kernel
theorem dX9_covering_108 : decode cX9_covering 108 = .ok (.ireturn, 1) := by decide +kernel
theorem dX9_covering_109 : decode cX9_covering 109 = .ok (.iinc 3 1, 3) := by decide +kernel
theorem dX9_covering_112 : decode cX9_covering 112 = .ok (.goto (-94), 3) := by decide +kernel
theorem dX9_covering_115 : decode cX9_covering 115 = .ok (.sipush (-1005), 3) := by decide +kernel
theorem dX9_covering_118 : decode cX9_covering 118 = .ok (.ireturn, 1) := by decide +kernel
theorem dX9_setThreshold_0 : decode cX9_setThreshold 0 = .ok (.iload_n 1, 1) := by decide +kernel
theorem dX9_setThreshold_1 : decode cX9_setThreshold 1 = .ok (.iconst 0, 1) := by decide +kernel
theorem dX9_setThreshold_2 : decode cX9_setThreshold 2 = .ok (.bipush 108, 2) := by decide +kernel
theorem dX9_setThreshold_4 : decode cX9_setThreshold 4 = .ok (.invokestatic 52, 3) := by decide +kernel
theorem dX9_setThreshold_7 : decode cX9_setThreshold 7 = .ok (.ifCond .ne 7, 3) := by decide +kernel
theorem dX9_setThreshold_10 : decode cX9_setThreshold 10 = .ok (.sipush (-1002), 3) := by decide +kernel
theorem dX9_setThreshold_13 : decode cX9_setThreshold 13 = .ok (.ireturn, 1) := by decide +kernel
theorem dX9_setThreshold_14 : decode cX9_setThreshold 14 = .ok (.aload_n 0, 1) := by decide +kernel
theorem dX9_setThreshold_15 : decode cX9_setThreshold 15 = .ok (.getfield 26, 3) := by decide +kernel
theorem dX9_setThreshold_18 : decode cX9_setThreshold 18 = .ok (.istore_n 2, 1) := by decide +kernel
theorem dX9_setThreshold_19 : decode cX9_setThreshold 19 = .ok (.aload_n 0, 1) := by decide +kernel
theorem dX9_setThreshold_20 : decode cX9_setThreshold 20 = .ok (.iload_n 1, 1) := by decide +kernel
theorem dX9_setThreshold_21 : decode cX9_setThreshold 21 = .ok (.putfield 26, 3) := by decide +kernel
theorem dX9_setThreshold_24 : decode cX9_setThreshold 24 = .ok (.iload_n 2, 1) := by decide +kernel
theorem dX9_setThreshold_25 : decode cX9_setThreshold 25 = .ok (.ireturn, 1) := by decide +kernel
theorem dX9_save_0 : decode cX9_save 0 = .ok (.iload_n 1, 1) := by decide +kernel
theorem dX9_save_1 : decode cX9_save 1 = .ok (.iconst 0, 1) := by decide +kernel
theorem dX9_save_2 : decode cX9_save 2 = .ok (.iconst 1, 1) := by decide +kernel
theorem dX9_save_3 : decode cX9_save 3 = .ok (.invokestatic 52, 3) := by decide +kernel
theorem dX9_save_6 : decode cX9_save 6 = .ok (.ifCond .ne 7, 3) := by decide +kernel
theorem dX9_save_9 : decode cX9_save 9 = .ok (.sipush (-1001), 3) := by decide +kernel
theorem dX9_save_12 : decode cX9_save 12 = .ok (.ireturn, 1) := by decide +kernel
theorem dX9_save_13 : decode cX9_save 13 = .ok (.aload_n 0, 1) := by decide +kernel
theorem dX9_save_14 : decode cX9_save 14 = .ok (.getfield 7, 3) := by decide +kernel
theorem dX9_save_17 : decode cX9_save 17 = .ok (.iconst 0, 1) := by decide +kernel
theorem dX9_save_18 : decode cX9_save 18 = .ok (.aload_n 0, 1) := by decide +kernel
theorem dX9_save_19 : decode cX9_save 19 = .ok (.getfield 19, 3) := by decide +kernel
theorem dX9_save_22 : decode cX9_save 22 = .ok (.sipush 484, 3) := by decide +kernel
theorem dX9_save_25 : decode cX9_save 25 = .ok (.iload_n 1, 1) := by decide +kernel
theorem dX9_save_26 : decode cX9_save 26 = .ok (.imul, 1) := by decide +kernel
theorem dX9_save_27 : decode cX9_save 27 = .ok (.invokestatic 56, 3) := by decide +kernel
theorem dX9_save_30 : decode cX9_save 30 = .ok (.aload_n 0, 1) := by decide +kernel
theorem dX9_save_31 : decode cX9_save 31 = .ok (.getfield 19, 3) := by decide +kernel
theorem dX9_save_34 : decode cX9_save 34 = .ok (.sipush 484, 3) := by decide +kernel
theorem dX9_save_37 : decode cX9_save 37 = .ok (.iload_n 1, 1) := by decide +kernel
theorem dX9_save_38 : decode cX9_save 38 = .ok (.imul, 1) := by decide +kernel
theorem dX9_save_39 : decode cX9_save 39 = .ok (.sipush 483, 3) := by decide +kernel
theorem dX9_save_42 : decode cX9_save 42 = .ok (.iadd, 1) := by decide +kernel
theorem dX9_save_43 : decode cX9_save 43 = .ok (.aload_n 0, 1) := by decide +kernel
theorem dX9_save_44 : decode cX9_save 44 = .ok (.getfield 26, 3) := by decide +kernel
theorem dX9_save_47 : decode cX9_save 47 = .ok (.iastore, 1) := by decide +kernel
theorem dX9_save_48 : decode cX9_save 48 = .ok (.aload_n 0, 1) := by decide +kernel
theorem dX9_save_49 : decode cX9_save 49 = .ok (.getfield 22, 3) := by decide +kernel
theorem dX9_save_52 : decode cX9_save 52 = .ok (.iload_n 1, 1) := by decide +kernel
theorem dX9_save_53 : decode cX9_save 53 = .ok (.iconst 1, 1) := by decide +kernel
theorem dX9_save_54 : decode cX9_save 54 = .ok (.bastore, 1) := by decide +kernel
theorem dX9_save_55 : decode cX9_save 55 = .ok (.aload_n 0, 1) := by decide +kernel
theorem dX9_save_56 : decode cX9_save 56 = .ok (.getfield 7, 3) := by decide +kernel
theorem dX9_save_59 : decode cX9_save 59 = .ok (.bipush 122, 2) := by decide +kernel
theorem dX9_save_61 : decode cX9_save 61 = .ok (.iaload, 1) := by decide +kernel
theorem dX9_save_62 : decode cX9_save 62 = .ok (.ireturn, 1) := by decide +kernel
theorem dX9_restore_0 : decode cX9_restore 0 = .ok (.iload_n 1, 1) := by decide +kernel
theorem dX9_restore_1 : decode cX9_restore 1 = .ok (.iconst 0, 1) := by decide +kernel
theorem dX9_restore_2 : decode cX9_restore 2 = .ok (.iconst 1, 1) := by decide +kernel
theorem dX9_restore_3 : decode cX9_restore 3 = .ok (.invokestatic 52, 3) := by decide +kernel
theorem dX9_restore_6 : decode cX9_restore 6 = .ok (.ifCond .ne 7, 3) := by decide +kernel
theorem dX9_restore_9 : decode cX9_restore 9 = .ok (.sipush (-1001), 3) := by decide +kernel
theorem dX9_restore_12 : decode cX9_restore 12 = .ok (.ireturn, 1) := by decide +kernel
theorem dX9_restore_13 : decode cX9_restore 13 = .ok (.aload_n 0, 1) := by decide +kernel
theorem dX9_restore_14 : decode cX9_restore 14 = .ok (.getfield 22, 3) := by decide +kernel
theorem dX9_restore_17 : decode cX9_restore 17 = .ok (.iload_n 1, 1) := by decide +kernel
theorem dX9_restore_18 : decode cX9_restore 18 = .ok (.baload, 1) := by decide +kernel
theorem dX9_restore_19 : decode cX9_restore 19 = .ok (.ifCond .ne 7, 3) := by decide +kernel
theorem dX9_restore_22 : decode cX9_restore 22 = .ok (.sipush (-1003), 3) := by decide +kernel
theorem dX9_restore_25 : decode cX9_restore 25 = .ok (.ireturn, 1) := by decide +kernel
theorem dX9_restore_26 : decode cX9_restore 26 = .ok (.aload_n 0, 1) := by decide +kernel
theorem dX9_restore_27 : decode cX9_restore 27 = .ok (.getfield 19, 3) := by decide +kernel
theorem dX9_restore_30 : decode cX9_restore 30 = .ok (.sipush 484, 3) := by decide +kernel
theorem dX9_restore_33 : decode cX9_restore 33 = .ok (.iload_n 1, 1) := by decide +kernel
theorem dX9_restore_34 : decode cX9_restore 34 = .ok (.imul, 1) := by decide +kernel
theorem dX9_restore_35 : decode cX9_restore 35 = .ok (.aload_n 0, 1) := by decide +kernel
theorem dX9_restore_36 : decode cX9_restore 36 = .ok (.getfield 7, 3) := by decide +kernel
theorem dX9_restore_39 : decode cX9_restore 39 = .ok (.iconst 0, 1) := by decide +kernel
theorem dX9_restore_40 : decode cX9_restore 40 = .ok (.invokestatic 56, 3) := by decide +kernel
theorem dX9_restore_43 : decode cX9_restore 43 = .ok (.aload_n 0, 1) := by decide +kernel
theorem dX9_restore_44 : decode cX9_restore 44 = .ok (.aload_n 0, 1) := by decide +kernel
theorem dX9_restore_45 : decode cX9_restore 45 = .ok (.getfield 19, 3) := by decide +kernel
theorem dX9_restore_48 : decode cX9_restore 48 = .ok (.sipush 484, 3) := by decide +kernel
theorem dX9_restore_51 : decode cX9_restore 51 = .ok (.iload_n 1, 1) := by decide +kernel
theorem dX9_restore_52 : decode cX9_restore 52 = .ok (.imul, 1) := by decide +kernel
theorem dX9_restore_53 : decode cX9_restore 53 = .ok (.sipush 483, 3) := by decide +kernel
theorem dX9_restore_56 : decode cX9_restore 56 = .ok (.iadd, 1) := by decide +kernel
theorem dX9_restore_57 : decode cX9_restore 57 = .ok (.iaload, 1) := by decide +kernel
theorem dX9_restore_58 : decode cX9_restore 58 = .ok (.putfield 26, 3) := by decide +kernel
theorem dX9_restore_61 : decode cX9_restore 61 = .ok (.aload_n 0, 1) := by decide +kernel
theorem dX9_restore_62 : decode cX9_restore 62 = .ok (.iconst 0, 1) := by decide +kernel
theorem dX9_restore_63 : decode cX9_restore 63 = .ok (.putfield 60, 3) := by decide +kernel
theorem dX9_restore_66 : decode cX9_restore 66 = .ok (.aload_n 0, 1) := by decide +kernel
theorem dX9_restore_67 : decode cX9_restore 67 = .ok (.getfield 7, 3) := by decide +kernel
theorem dX9_restore_70 : decode cX9_restore 70 = .ok (.bipush 122, 2) := by decide +kernel
theorem dX9_restore_72 : decode cX9_restore 72 = .ok (.iaload, 1) := by decide +kernel
theorem dX9_restore_73 : decode cX9_restore 73 = .ok (.ireturn, 1) := by decide +kernel
theorem dX9_more_0 : decode cX9_more 0 = .ok (.ldc2_w 177, 3) := by decide +kernel
theorem dX9_more_3 : decode cX9_more 3 = .ok (.lload_n 0, 1) := by decide +kernel
theorem dX9_more_4 : decode cX9_more 4 = .ok (.lmul, 1) := by decide +kernel
theorem dX9_more_5 : decode cX9_more 5 = .ok (.iload_n 2, 1) := by decide +kernel
theorem dX9_more_6 : decode cX9_more 6 = .ok (.i2l, 1) := by decide +kernel
theorem dX9_more_7 : decode cX9_more 7 = .ok (.ladd, 1) := by decide +kernel
theorem dX9_more_8 : decode cX9_more 8 = .ok (.lreturn, 1) := by decide +kernel
theorem dX9_moreOfPart_0 : decode cX9_moreOfPart 0 = .ok (.lload_n 1, 1) := by decide +kernel
theorem dX9_moreOfPart_1 : decode cX9_moreOfPart 1 = .ok (.lstore 5, 2) := by decide +kernel
theorem dX9_moreOfPart_3 : decode cX9_moreOfPart 3 = .ok (.iconst 1, 1) := by decide +kernel
theorem dX9_moreOfPart_4 : decode cX9_moreOfPart 4 = .ok (.istore 7, 2) := by decide +kernel
theorem dX9_moreOfPart_6 : decode cX9_moreOfPart 6 = .ok (.iload 7, 2) := by decide +kernel
theorem dX9_moreOfPart_8 : decode cX9_moreOfPart 8 = .ok (.aload_n 0, 1) := by decide +kernel
theorem dX9_moreOfPart_9 : decode cX9_moreOfPart 9 = .ok (.getfield 7, 3) := by decide +kernel
theorem dX9_moreOfPart_12 : decode cX9_moreOfPart 12 = .ok (.iload_n 3, 1) := by decide +kernel
theorem dX9_moreOfPart_13 : decode cX9_moreOfPart 13 = .ok (.iload 4, 2) := by decide +kernel
theorem dX9_moreOfPart_15 : decode cX9_moreOfPart 15 = .ok (.invokestatic 48, 3) := by decide +kernel
theorem dX9_moreOfPart_18 : decode cX9_moreOfPart 18 = .ok (.iaload, 1) := by decide +kernel
theorem dX9_moreOfPart_19 : decode cX9_moreOfPart 19 = .ok (.if_icmp .gt 30, 3) := by decide +kernel
theorem dX9_moreOfPart_22 : decode cX9_moreOfPart 22 = .ok (.lload 5, 2) := by decide +kernel
theorem dX9_moreOfPart_24 : decode cX9_moreOfPart 24 = .ok (.aload_n 0, 1) := by decide +kernel
theorem dX9_moreOfPart_25 : decode cX9_moreOfPart 25 = .ok (.getfield 7, 3) := by decide +kernel
theorem dX9_moreOfPart_28 : decode cX9_moreOfPart 28 = .ok (.iload_n 3, 1) := by decide +kernel
theorem dX9_moreOfPart_29 : decode cX9_moreOfPart 29 = .ok (.iload 4, 2) := by decide +kernel
theorem dX9_moreOfPart_31 : decode cX9_moreOfPart 31 = .ok (.iload 7, 2) := by decide +kernel
theorem dX9_moreOfPart_33 : decode cX9_moreOfPart 33 = .ok (.iadd, 1) := by decide +kernel
theorem dX9_moreOfPart_34 : decode cX9_moreOfPart 34 = .ok (.invokestatic 48, 3) := by decide +kernel
theorem dX9_moreOfPart_37 : decode cX9_moreOfPart 37 = .ok (.iaload, 1) := by decide +kernel
theorem dX9_moreOfPart_38 : decode cX9_moreOfPart 38 = .ok (.invokestatic 179, 3) := by decide +kernel
theorem dX9_moreOfPart_41 : decode cX9_moreOfPart 41 = .ok (.lstore 5, 2) := by decide +kernel
theorem dX9_moreOfPart_43 : decode cX9_moreOfPart 43 = .ok (.iinc 7 1, 3) := by decide +kernel
theorem dX9_moreOfPart_46 : decode cX9_moreOfPart 46 = .ok (.goto (-40), 3) := by decide +kernel
theorem dX9_moreOfPart_49 : decode cX9_moreOfPart 49 = .ok (.lload 5, 2) := by decide +kernel
theorem dX9_moreOfPart_51 : decode cX9_moreOfPart 51 = .ok (.lreturn, 1) := by decide +kernel
theorem dX9_checksum_0 : decode cX9_checksum 0 = .ok (.ldc2_w 183, 3) := by decide +kernel
theorem dX9_checksum_3 : decode cX9_checksum 3 = .ok (.aload_n 0, 1) := by decide +kernel
theorem dX9_checksum_4 : decode cX9_checksum 4 = .ok (.getfield 7, 3) := by decide +kernel
theorem dX9_checksum_7 : decode cX9_checksum 7 = .ok (.iconst 0, 1) := by decide +kernel
theorem dX9_checksum_8 : decode cX9_checksum 8 = .ok (.iaload, 1) := by decide +kernel
theorem dX9_checksum_9 : decode cX9_checksum 9 = .ok (.invokestatic 179, 3) := by decide +kernel
theorem dX9_checksum_12 : decode cX9_checksum 12 = .ok (.lstore_n 1, 1) := by decide +kernel
theorem dX9_checksum_13 : decode cX9_checksum 13 = .ok (.iconst 0, 1) := by decide +kernel
theorem dX9_checksum_14 : decode cX9_checksum 14 = .ok (.istore_n 3, 1) := by decide +kernel
theorem dX9_checksum_15 : decode cX9_checksum 15 = .ok (.iload_n 3, 1) := by decide +kernel
theorem dX9_checksum_16 : decode cX9_checksum 16 = .ok (.aload_n 0, 1) := by decide +kernel
theorem dX9_checksum_17 : decode cX9_checksum 17 = .ok (.getfield 7, 3) := by decide +kernel
theorem dX9_checksum_20 : decode cX9_checksum 20 = .ok (.iconst 0, 1) := by decide +kernel
theorem dX9_checksum_21 : decode cX9_checksum 21 = .ok (.iaload, 1) := by decide +kernel
theorem dX9_checksum_22 : decode cX9_checksum 22 = .ok (.if_icmp .ge 22, 3) := by decide +kernel
theorem dX9_checksum_25 : decode cX9_checksum 25 = .ok (.lload_n 1, 1) := by decide +kernel
theorem dX9_checksum_26 : decode cX9_checksum 26 = .ok (.aload_n 0, 1) := by decide +kernel
theorem dX9_checksum_27 : decode cX9_checksum 27 = .ok (.getfield 7, 3) := by decide +kernel
theorem dX9_checksum_30 : decode cX9_checksum 30 = .ok (.iconst 1, 1) := by decide +kernel
theorem dX9_checksum_31 : decode cX9_checksum 31 = .ok (.iload_n 3, 1) := by decide +kernel
theorem dX9_checksum_32 : decode cX9_checksum 32 = .ok (.iadd, 1) := by decide +kernel
theorem dX9_checksum_33 : decode cX9_checksum 33 = .ok (.iaload, 1) := by decide +kernel
theorem dX9_checksum_34 : decode cX9_checksum 34 = .ok (.invokestatic 179, 3) := by decide +kernel
theorem dX9_checksum_37 : decode cX9_checksum 37 = .ok (.lstore_n 1, 1) := by decide +kernel
theorem dX9_checksum_38 : decode cX9_checksum 38 = .ok (.iinc 3 1, 3) := by decide +kernel
theorem dX9_checksum_41 : decode cX9_checksum 41 = .ok (.goto (-26), 3) := by decide +kernel
theorem dX9_checksum_44 : decode cX9_checksum 44 = .ok (.lload_n 1, 1) := by decide +kernel
theorem dX9_checksum_45 : decode cX9_checksum 45 = .ok (.aload_n 0, 1) := by decide +kernel
theorem dX9_checksum_46 : decode cX9_checksum 46 = .ok (.getfield 7, 3) := by decide +kernel
theorem dX9_checksum_49 : decode cX9_checksum 49 = .ok (.bipush 122, 2) := by decide +kernel
theorem dX9_checksum_51 : decode cX9_checksum 51 = .ok (.iaload, 1) := by decide +kernel
theorem dX9_checksum_52 : decode cX9_checksum 52 = .ok (.invokestatic 179, 3) := by decide +kernel
theorem dX9_checksum_55 : decode cX9_checksum 55 = .ok (.lstore_n 1, 1) := by decide +kernel
theorem dX9_checksum_56 : decode cX9_checksum 56 = .ok (.iconst 0, 1) := by decide +kernel
theorem dX9_checksum_57 : decode cX9_checksum 57 = .ok (.istore_n 3, 1) := by decide +kernel
theorem dX9_checksum_58 : decode cX9_checksum 58 = .ok (.iload_n 3, 1) := by decide +kernel
theorem dX9_checksum_59 : decode cX9_checksum 59 = .ok (.aload_n 0, 1) := by decide +kernel
theorem dX9_checksum_60 : decode cX9_checksum 60 = .ok (.getfield 7, 3) := by decide +kernel
theorem dX9_checksum_63 : decode cX9_checksum 63 = .ok (.bipush 122, 2) := by decide +kernel
theorem dX9_checksum_65 : decode cX9_checksum 65 = .ok (.iaload, 1) := by decide +kernel
theorem dX9_checksum_66 : decode cX9_checksum 66 = .ok (.if_icmp .ge 130, 3) := by decide +kernel
theorem dX9_checksum_69 : decode cX9_checksum 69 = .ok (.iconst 0, 1) := by decide +kernel
theorem dX9_checksum_70 : decode cX9_checksum 70 = .ok (.istore 4, 2) := by decide +kernel
theorem dX9_checksum_72 : decode cX9_checksum 72 = .ok (.iload 4, 2) := by decide +kernel
theorem dX9_checksum_74 : decode cX9_checksum 74 = .ok (.iconst 4, 1) := by decide +kernel
theorem dX9_checksum_75 : decode cX9_checksum 75 = .ok (.if_icmp .gt 25, 3) := by decide +kernel
theorem dX9_checksum_78 : decode cX9_checksum 78 = .ok (.lload_n 1, 1) := by decide +kernel
theorem dX9_checksum_79 : decode cX9_checksum 79 = .ok (.aload_n 0, 1) := by decide +kernel
theorem dX9_checksum_80 : decode cX9_checksum 80 = .ok (.getfield 7, 3) := by decide +kernel
theorem dX9_checksum_83 : decode cX9_checksum 83 = .ok (.iload_n 3, 1) := by decide +kernel
theorem dX9_checksum_84 : decode cX9_checksum 84 = .ok (.iload 4, 2) := by decide +kernel
theorem dX9_checksum_86 : decode cX9_checksum 86 = .ok (.invokestatic 48, 3) := by decide +kernel
theorem dX9_checksum_89 : decode cX9_checksum 89 = .ok (.iaload, 1) := by decide +kernel
theorem dX9_checksum_90 : decode cX9_checksum 90 = .ok (.invokestatic 179, 3) := by decide +kernel
theorem dX9_checksum_93 : decode cX9_checksum 93 = .ok (.lstore_n 1, 1) := by decide +kernel
theorem dX9_checksum_94 : decode cX9_checksum 94 = .ok (.iinc 4 1, 3) := by decide +kernel
theorem dX9_checksum_97 : decode cX9_checksum 97 = .ok (.goto (-25), 3) := by decide +kernel
theorem dX9_checksum_100 : decode cX9_checksum 100 = .ok (.aload_n 0, 1) := by decide +kernel
theorem dX9_checksum_101 : decode cX9_checksum 101 = .ok (.aload_n 0, 1) := by decide +kernel
theorem dX9_checksum_102 : decode cX9_checksum 102 = .ok (.aload_n 0, 1) := by decide +kernel
theorem dX9_checksum_103 : decode cX9_checksum 103 = .ok (.lload_n 1, 1) := by decide +kernel
theorem dX9_checksum_104 : decode cX9_checksum 104 = .ok (.iload_n 3, 1) := by decide +kernel
theorem dX9_checksum_105 : decode cX9_checksum 105 = .ok (.iconst 5, 1) := by decide +kernel
theorem dX9_checksum_106 : decode cX9_checksum 106 = .ok (.invokevirtual 185, 3) := by decide +kernel
theorem dX9_checksum_109 : decode cX9_checksum 109 = .ok (.iload_n 3, 1) := by decide +kernel
theorem dX9_checksum_110 : decode cX9_checksum 110 = .ok (.bipush 12, 2) := by decide +kernel
theorem dX9_checksum_112 : decode cX9_checksum 112 = .ok (.invokevirtual 185, 3) := by decide +kernel
theorem dX9_checksum_115 : decode cX9_checksum 115 = .ok (.iload_n 3, 1) := by decide +kernel
theorem dX9_checksum_116 : decode cX9_checksum 116 = .ok (.bipush 29, 2) := by decide +kernel
theorem dX9_checksum_118 : decode cX9_checksum 118 = .ok (.invokevirtual 185, 3) := by decide +kernel
theorem dX9_checksum_121 : decode cX9_checksum 121 = .ok (.lstore_n 1, 1) := by decide +kernel
theorem dX9_checksum_122 : decode cX9_checksum 122 = .ok (.aload_n 0, 1) := by decide +kernel
theorem dX9_checksum_123 : decode cX9_checksum 123 = .ok (.iload_n 3, 1) := by decide +kernel
theorem dX9_checksum_124 : decode cX9_checksum 124 = .ok (.invokevirtual 134, 3) := by decide +kernel
theorem dX9_checksum_127 : decode cX9_checksum 127 = .ok (.istore 4, 2) := by decide +kernel
theorem dX9_checksum_129 : decode cX9_checksum 129 = .ok (.lload_n 1, 1) := by decide +kernel
theorem dX9_checksum_130 : decode cX9_checksum 130 = .ok (.iload 4, 2) := by decide +kernel
theorem dX9_checksum_132 : decode cX9_checksum 132 = .ok (.ifCond .eq 10, 3) := by decide +kernel
theorem dX9_checksum_135 : decode cX9_checksum 135 = .ok (.aload_n 0, 1) := by decide +kernel
theorem dX9_checksum_136 : decode cX9_checksum 136 = .ok (.getfield 125, 3) := by decide +kernel
theorem dX9_checksum_139 : decode cX9_checksum 139 = .ok (.goto 6, 3) := by decide +kernel
theorem dX9_checksum_142 : decode cX9_checksum 142 = .ok (.sipush (-1005), 3) := by decide +kernel
theorem dX9_checksum_145 : decode cX9_checksum 145 = .ok (.invokestatic 179, 3) := by decide +kernel
theorem dX9_checksum_148 : decode cX9_checksum 148 = .ok (.iload 4, 2) := by decide +kernel
theorem dX9_checksum_150 : decode cX9_checksum 150 = .ok (.ifCond .eq 10, 3) := by decide +kernel
theorem dX9_checksum_153 : decode cX9_checksum 153 = .ok (.aload_n 0, 1) := by decide +kernel
theorem dX9_checksum_154 : decode cX9_checksum 154 = .ok (.getfield 128, 3) := by decide +kernel
theorem dX9_checksum_157 : decode cX9_checksum 157 = .ok (.goto 6, 3) := by decide +kernel
theorem dX9_checksum_160 : decode cX9_checksum 160 = .ok (.sipush (-1005), 3) := by decide +kernel
theorem dX9_checksum_163 : decode cX9_checksum 163 = .ok (.invokestatic 179, 3) := by decide +kernel
theorem dX9_checksum_166 : decode cX9_checksum 166 = .ok (.iload 4, 2) := by decide +kernel
theorem dX9_checksum_168 : decode cX9_checksum 168 = .ok (.ifCond .eq 15, 3) := by decide +kernel
theorem dX9_checksum_171 : decode cX9_checksum 171 = .ok (.aload_n 0, 1) := by decide +kernel
theorem dX9_checksum_172 : decode cX9_checksum 172 = .ok (.getfield 128, 3) := by decide +kernel
theorem dX9_checksum_175 : decode cX9_checksum 175 = .ok (.aload_n 0, 1) := by decide +kernel
theorem dX9_checksum_176 : decode cX9_checksum 176 = .ok (.getfield 131, 3) := by decide +kernel
theorem dX9_checksum_179 : decode cX9_checksum 179 = .ok (.iadd, 1) := by decide +kernel
theorem dX9_checksum_180 : decode cX9_checksum 180 = .ok (.goto 6, 3) := by decide +kernel
theorem dX9_checksum_183 : decode cX9_checksum 183 = .ok (.sipush (-1005), 3) := by decide +kernel
theorem dX9_checksum_186 : decode cX9_checksum 186 = .ok (.invokestatic 179, 3) := by decide +kernel
theorem dX9_checksum_189 : decode cX9_checksum 189 = .ok (.lstore_n 1, 1) := by decide +kernel
theorem dX9_checksum_190 : decode cX9_checksum 190 = .ok (.iinc 3 1, 3) := by decide +kernel
theorem dX9_checksum_193 : decode cX9_checksum 193 = .ok (.goto (-135), 3) := by decide +kernel
theorem dX9_checksum_196 : decode cX9_checksum 196 = .ok (.lload_n 1, 1) := by decide +kernel
theorem dX9_checksum_197 : decode cX9_checksum 197 = .ok (.lreturn, 1) := by decide +kernel
theorem dJ9_abs_0f7a4_0 : decode cJ9_abs_0f7a4 0 = .ok (.iload_n 0, 1) := by decide +kernel
theorem dJ9_abs_0f7a4_1 : decode cJ9_abs_0f7a4 1 = .ok (.ifCond .ge 8, 3) := by decide +kernel
theorem dJ9_abs_0f7a4_4 : decode cJ9_abs_0f7a4 4 = .ok (.iload_n 0, 1) := by decide +kernel
theorem dJ9_abs_0f7a4_5 : decode cJ9_abs_0f7a4 5 = .ok (.ineg, 1) := by decide +kernel
theorem dJ9_abs_0f7a4_6 : decode cJ9_abs_0f7a4 6 = .ok (.goto 4, 3) := by decide +kernel
theorem dJ9_abs_0f7a4_9 : decode cJ9_abs_0f7a4 9 = .ok (.iload_n 0, 1) := by decide +kernel
theorem dJ9_abs_0f7a4_10 : decode cJ9_abs_0f7a4 10 = .ok (.ireturn, 1) := by decide +kernel
theorem dJ9_max_7cf53_0 : decode cJ9_max_7cf53 0 = .ok (.iload_n 0, 1) := by decide +kernel
theorem dJ9_max_7cf53_1 : decode cJ9_max_7cf53 1 = .ok (.iload_n 1, 1) := by decide +kernel
theorem dJ9_max_7cf53_2 : decode cJ9_max_7cf53 2 = .ok (.if_icmp .lt 7, 3) := by decide +kernel
theorem dJ9_max_7cf53_5 : decode cJ9_max_7cf53 5 = .ok (.iload_n 0, 1) := by decide +kernel
theorem dJ9_max_7cf53_6 : decode cJ9_max_7cf53 6 = .ok (.goto 4, 3) := by decide +kernel
theorem dJ9_max_7cf53_9 : decode cJ9_max_7cf53 9 = .ok (.iload_n 1, 1) := by decide +kernel
theorem dJ9_max_7cf53_10 : decode cJ9_max_7cf53 10 = .ok (.ireturn, 1) := by decide +kernel
theorem dJ9_min_7cf53_0 : decode cJ9_min_7cf53 0 = .ok (.iload_n 0, 1) := by decide +kernel
theorem dJ9_min_7cf53_1 : decode cJ9_min_7cf53 1 = .ok (.iload_n 1, 1) := by decide +kernel
theorem dJ9_min_7cf53_2 : decode cJ9_min_7cf53 2 = .ok (.if_icmp .gt 7, 3) := by decide +kernel
theorem dJ9_min_7cf53_5 : decode cJ9_min_7cf53 5 = .ok (.iload_n 0, 1) := by decide +kernel
theorem dJ9_min_7cf53_6 : decode cJ9_min_7cf53 6 = .ok (.goto 4, 3) := by decide +kernel
theorem dJ9_min_7cf53_9 : decode cJ9_min_7cf53 9 = .ok (.iload_n 1, 1) := by decide +kernel
theorem dJ9_min_7cf53_10 : decode cJ9_min_7cf53 10 = .ok (.ireturn, 1) := by decide +kernel
theorem dL_law_0 : decode cL_law 0 = .ok (.new 7, 3) := by decide +kernel
theorem dL_law_3 : decode cL_law 3 = .ok (.dup, 1) := by decide +kernel
theorem dL_law_4 : decode cL_law 4 = .ok (.invokespecial 9, 3) := by decide +kernel
theorem dL_law_7 : decode cL_law 7 = .ok (.astore_n 1, 1) := by decide +kernel
theorem dL_law_8 : decode cL_law 8 = .ok (.new 10, 3) := by decide +kernel
theorem dL_law_11 : decode cL_law 11 = .ok (.dup, 1) := by decide +kernel
theorem dL_law_12 : decode cL_law 12 = .ok (.invokespecial 12, 3) := by decide +kernel
theorem dL_law_15 : decode cL_law 15 = .ok (.astore_n 2, 1) := by decide +kernel
theorem dL_law_16 : decode cL_law 16 = .ok (.iconst 0, 1) := by decide +kernel
theorem dL_law_17 : decode cL_law 17 = .ok (.istore_n 3, 1) := by decide +kernel
theorem dL_law_18 : decode cL_law 18 = .ok (.iload_n 3, 1) := by decide +kernel
theorem dL_law_19 : decode cL_law 19 = .ok (.aload_n 0, 1) := by decide +kernel
theorem dL_law_20 : decode cL_law 20 = .ok (.arraylength, 1) := by decide +kernel
theorem dL_law_21 : decode cL_law 21 = .ok (.iconst 4, 1) := by decide +kernel
theorem dL_law_22 : decode cL_law 22 = .ok (.isub, 1) := by decide +kernel
theorem dL_law_23 : decode cL_law 23 = .ok (.if_icmp .gt 851, 3) := by decide +kernel
theorem dL_law_26 : decode cL_law 26 = .ok (.aload_n 0, 1) := by decide +kernel
theorem dL_law_27 : decode cL_law 27 = .ok (.iload_n 3, 1) := by decide +kernel
theorem dL_law_28 : decode cL_law 28 = .ok (.iaload, 1) := by decide +kernel
theorem dL_law_29 : decode cL_law 29 = .ok (.bipush 31, 2) := by decide +kernel
theorem dL_law_31 : decode cL_law 31 = .ok (.iand, 1) := by decide +kernel
theorem dL_law_32 : decode cL_law 32 = .ok (.tableswitch 836 0 28 #[132, 155, 168, 181, 204, 237, 270, 293, 316, 339, 352, 365, 378, 391, 414, 427, 450, 473, 522, 545, 588, 611, 654, 687, 720, 753, 776, 799, 822], 132) := by decide +kernel
theorem dL_law_164 : decode cL_law 164 = .ok (.aload_n 1, 1) := by decide +kernel
theorem dL_law_165 : decode cL_law 165 = .ok (.aload_n 0, 1) := by decide +kernel
theorem dL_law_166 : decode cL_law 166 = .ok (.iload_n 3, 1) := by decide +kernel
theorem dL_law_167 : decode cL_law 167 = .ok (.iconst 1, 1) := by decide +kernel
theorem dL_law_168 : decode cL_law 168 = .ok (.iadd, 1) := by decide +kernel
theorem dL_law_169 : decode cL_law 169 = .ok (.iaload, 1) := by decide +kernel
theorem dL_law_170 : decode cL_law 170 = .ok (.invokevirtual 13, 3) := by decide +kernel
theorem dL_law_173 : decode cL_law 173 = .ok (.aload_n 2, 1) := by decide +kernel
theorem dL_law_174 : decode cL_law 174 = .ok (.aload_n 0, 1) := by decide +kernel
theorem dL_law_175 : decode cL_law 175 = .ok (.iload_n 3, 1) := by decide +kernel
theorem dL_law_176 : decode cL_law 176 = .ok (.iconst 1, 1) := by decide +kernel
theorem dL_law_177 : decode cL_law 177 = .ok (.iadd, 1) := by decide +kernel
theorem dL_law_178 : decode cL_law 178 = .ok (.iaload, 1) := by decide +kernel
theorem dL_law_179 : decode cL_law 179 = .ok (.invokevirtual 17, 3) := by decide +kernel
theorem dL_law_182 : decode cL_law 182 = .ok (.if_icmp .eq 686, 3) := by decide +kernel
theorem dL_law_185 : decode cL_law 185 = .ok (.iconst 0, 1) := by decide +kernel
theorem dL_law_186 : decode cL_law 186 = .ok (.ireturn, 1) := by decide +kernel
theorem dL_law_187 : decode cL_law 187 = .ok (.aload_n 1, 1) := by decide +kernel
theorem dL_law_188 : decode cL_law 188 = .ok (.invokevirtual 18, 3) := by decide +kernel
theorem dL_law_191 : decode cL_law 191 = .ok (.aload_n 2, 1) := by decide +kernel
theorem dL_law_192 : decode cL_law 192 = .ok (.invokevirtual 22, 3) := by decide +kernel
theorem dL_law_195 : decode cL_law 195 = .ok (.if_icmp .eq 673, 3) := by decide +kernel
theorem dL_law_198 : decode cL_law 198 = .ok (.iconst 0, 1) := by decide +kernel
theorem dL_law_199 : decode cL_law 199 = .ok (.ireturn, 1) := by decide +kernel
theorem dL_law_200 : decode cL_law 200 = .ok (.aload_n 1, 1) := by decide +kernel
theorem dL_law_201 : decode cL_law 201 = .ok (.invokevirtual 23, 3) := by decide +kernel
theorem dL_law_204 : decode cL_law 204 = .ok (.aload_n 2, 1) := by decide +kernel
theorem dL_law_205 : decode cL_law 205 = .ok (.invokevirtual 26, 3) := by decide +kernel
theorem dL_law_208 : decode cL_law 208 = .ok (.if_icmp .eq 660, 3) := by decide +kernel
theorem dL_law_211 : decode cL_law 211 = .ok (.iconst 0, 1) := by decide +kernel
theorem dL_law_212 : decode cL_law 212 = .ok (.ireturn, 1) := by decide +kernel
theorem dL_law_213 : decode cL_law 213 = .ok (.aload_n 1, 1) := by decide +kernel
theorem dL_law_214 : decode cL_law 214 = .ok (.aload_n 0, 1) := by decide +kernel
theorem dL_law_215 : decode cL_law 215 = .ok (.iload_n 3, 1) := by decide +kernel
theorem dL_law_216 : decode cL_law 216 = .ok (.iconst 1, 1) := by decide +kernel
theorem dL_law_217 : decode cL_law 217 = .ok (.iadd, 1) := by decide +kernel
theorem dL_law_218 : decode cL_law 218 = .ok (.iaload, 1) := by decide +kernel
theorem dL_law_219 : decode cL_law 219 = .ok (.invokevirtual 27, 3) := by decide +kernel
theorem dL_law_222 : decode cL_law 222 = .ok (.aload_n 2, 1) := by decide +kernel
theorem dL_law_223 : decode cL_law 223 = .ok (.aload_n 0, 1) := by decide +kernel
theorem dL_law_224 : decode cL_law 224 = .ok (.iload_n 3, 1) := by decide +kernel
theorem dL_law_225 : decode cL_law 225 = .ok (.iconst 1, 1) := by decide +kernel
theorem dL_law_226 : decode cL_law 226 = .ok (.iadd, 1) := by decide +kernel
theorem dL_law_227 : decode cL_law 227 = .ok (.iaload, 1) := by decide +kernel
theorem dL_law_228 : decode cL_law 228 = .ok (.invokevirtual 30, 3) := by decide +kernel
theorem dL_law_231 : decode cL_law 231 = .ok (.if_icmp .eq 637, 3) := by decide +kernel
theorem dL_law_234 : decode cL_law 234 = .ok (.iconst 0, 1) := by decide +kernel
theorem dL_law_235 : decode cL_law 235 = .ok (.ireturn, 1) := by decide +kernel
theorem dL_law_236 : decode cL_law 236 = .ok (.aload_n 1, 1) := by decide +kernel
theorem dL_law_237 : decode cL_law 237 = .ok (.aload_n 0, 1) := by decide +kernel
theorem dL_law_238 : decode cL_law 238 = .ok (.iload_n 3, 1) := by decide +kernel
theorem dL_law_239 : decode cL_law 239 = .ok (.iconst 1, 1) := by decide +kernel
theorem dL_law_240 : decode cL_law 240 = .ok (.iadd, 1) := by decide +kernel
theorem dL_law_241 : decode cL_law 241 = .ok (.iaload, 1) := by decide +kernel
theorem dL_law_242 : decode cL_law 242 = .ok (.aload_n 0, 1) := by decide +kernel
theorem dL_law_243 : decode cL_law 243 = .ok (.iload_n 3, 1) := by decide +kernel
theorem dL_law_244 : decode cL_law 244 = .ok (.iconst 2, 1) := by decide +kernel
theorem dL_law_245 : decode cL_law 245 = .ok (.iadd, 1) := by decide +kernel
theorem dL_law_246 : decode cL_law 246 = .ok (.iaload, 1) := by decide +kernel
theorem dL_law_247 : decode cL_law 247 = .ok (.invokevirtual 31, 3) := by decide +kernel
theorem dL_law_250 : decode cL_law 250 = .ok (.aload_n 2, 1) := by decide +kernel
theorem dL_law_251 : decode cL_law 251 = .ok (.aload_n 0, 1) := by decide +kernel
theorem dL_law_252 : decode cL_law 252 = .ok (.iload_n 3, 1) := by decide +kernel
theorem dL_law_253 : decode cL_law 253 = .ok (.iconst 1, 1) := by decide +kernel
theorem dL_law_254 : decode cL_law 254 = .ok (.iadd, 1) := by decide +kernel
theorem dL_law_255 : decode cL_law 255 = .ok (.iaload, 1) := by decide +kernel
theorem dL_law_256 : decode cL_law 256 = .ok (.aload_n 0, 1) := by decide +kernel
theorem dL_law_257 : decode cL_law 257 = .ok (.iload_n 3, 1) := by decide +kernel
theorem dL_law_258 : decode cL_law 258 = .ok (.iconst 2, 1) := by decide +kernel
theorem dL_law_259 : decode cL_law 259 = .ok (.iadd, 1) := by decide +kernel
theorem dL_law_260 : decode cL_law 260 = .ok (.iaload, 1) := by decide +kernel
theorem dL_law_261 : decode cL_law 261 = .ok (.invokevirtual 35, 3) := by decide +kernel
theorem dL_law_264 : decode cL_law 264 = .ok (.if_icmp .eq 604, 3) := by decide +kernel
theorem dL_law_267 : decode cL_law 267 = .ok (.iconst 0, 1) := by decide +kernel
theorem dL_law_268 : decode cL_law 268 = .ok (.ireturn, 1) := by decide +kernel
theorem dL_law_269 : decode cL_law 269 = .ok (.aload_n 1, 1) := by decide +kernel
theorem dL_law_270 : decode cL_law 270 = .ok (.aload_n 0, 1) := by decide +kernel
theorem dL_law_271 : decode cL_law 271 = .ok (.iload_n 3, 1) := by decide +kernel
theorem dL_law_272 : decode cL_law 272 = .ok (.iconst 1, 1) := by decide +kernel
theorem dL_law_273 : decode cL_law 273 = .ok (.iadd, 1) := by decide +kernel
theorem dL_law_274 : decode cL_law 274 = .ok (.iaload, 1) := by decide +kernel
theorem dL_law_275 : decode cL_law 275 = .ok (.aload_n 0, 1) := by decide +kernel
theorem dL_law_276 : decode cL_law 276 = .ok (.iload_n 3, 1) := by decide +kernel
theorem dL_law_277 : decode cL_law 277 = .ok (.iconst 2, 1) := by decide +kernel
theorem dL_law_278 : decode cL_law 278 = .ok (.iadd, 1) := by decide +kernel
theorem dL_law_279 : decode cL_law 279 = .ok (.iaload, 1) := by decide +kernel
theorem dL_law_280 : decode cL_law 280 = .ok (.invokevirtual 36, 3) := by decide +kernel
theorem dL_law_283 : decode cL_law 283 = .ok (.aload_n 2, 1) := by decide +kernel
theorem dL_law_284 : decode cL_law 284 = .ok (.aload_n 0, 1) := by decide +kernel
theorem dL_law_285 : decode cL_law 285 = .ok (.iload_n 3, 1) := by decide +kernel
theorem dL_law_286 : decode cL_law 286 = .ok (.iconst 1, 1) := by decide +kernel
theorem dL_law_287 : decode cL_law 287 = .ok (.iadd, 1) := by decide +kernel
theorem dL_law_288 : decode cL_law 288 = .ok (.iaload, 1) := by decide +kernel
theorem dL_law_289 : decode cL_law 289 = .ok (.aload_n 0, 1) := by decide +kernel
theorem dL_law_290 : decode cL_law 290 = .ok (.iload_n 3, 1) := by decide +kernel
theorem dL_law_291 : decode cL_law 291 = .ok (.iconst 2, 1) := by decide +kernel
theorem dL_law_292 : decode cL_law 292 = .ok (.iadd, 1) := by decide +kernel
theorem dL_law_293 : decode cL_law 293 = .ok (.iaload, 1) := by decide +kernel
theorem dL_law_294 : decode cL_law 294 = .ok (.invokevirtual 39, 3) := by decide +kernel
theorem dL_law_297 : decode cL_law 297 = .ok (.if_icmp .eq 571, 3) := by decide +kernel
theorem dL_law_300 : decode cL_law 300 = .ok (.iconst 0, 1) := by decide +kernel
theorem dL_law_301 : decode cL_law 301 = .ok (.ireturn, 1) := by decide +kernel
theorem dL_law_302 : decode cL_law 302 = .ok (.aload_n 1, 1) := by decide +kernel
theorem dL_law_303 : decode cL_law 303 = .ok (.aload_n 0, 1) := by decide +kernel
theorem dL_law_304 : decode cL_law 304 = .ok (.iload_n 3, 1) := by decide +kernel
theorem dL_law_305 : decode cL_law 305 = .ok (.iconst 1, 1) := by decide +kernel
theorem dL_law_306 : decode cL_law 306 = .ok (.iadd, 1) := by decide +kernel
theorem dL_law_307 : decode cL_law 307 = .ok (.iaload, 1) := by decide +kernel
theorem dL_law_308 : decode cL_law 308 = .ok (.invokevirtual 40, 3) := by decide +kernel
theorem dL_law_311 : decode cL_law 311 = .ok (.aload_n 2, 1) := by decide +kernel
theorem dL_law_312 : decode cL_law 312 = .ok (.aload_n 0, 1) := by decide +kernel
theorem dL_law_313 : decode cL_law 313 = .ok (.iload_n 3, 1) := by decide +kernel
theorem dL_law_314 : decode cL_law 314 = .ok (.iconst 1, 1) := by decide +kernel
theorem dL_law_315 : decode cL_law 315 = .ok (.iadd, 1) := by decide +kernel
theorem dL_law_316 : decode cL_law 316 = .ok (.iaload, 1) := by decide +kernel
theorem dL_law_317 : decode cL_law 317 = .ok (.invokevirtual 43, 3) := by decide +kernel
theorem dL_law_320 : decode cL_law 320 = .ok (.if_icmp .eq 548, 3) := by decide +kernel
theorem dL_law_323 : decode cL_law 323 = .ok (.iconst 0, 1) := by decide +kernel
theorem dL_law_324 : decode cL_law 324 = .ok (.ireturn, 1) := by decide +kernel
theorem dL_law_325 : decode cL_law 325 = .ok (.aload_n 1, 1) := by decide +kernel
theorem dL_law_326 : decode cL_law 326 = .ok (.aload_n 0, 1) := by decide +kernel
theorem dL_law_327 : decode cL_law 327 = .ok (.iload_n 3, 1) := by decide +kernel
theorem dL_law_328 : decode cL_law 328 = .ok (.iconst 1, 1) := by decide +kernel
theorem dL_law_329 : decode cL_law 329 = .ok (.iadd, 1) := by decide +kernel
theorem dL_law_330 : decode cL_law 330 = .ok (.iaload, 1) := by decide +kernel
theorem dL_law_331 : decode cL_law 331 = .ok (.invokevirtual 44, 3) := by decide +kernel
theorem dL_law_334 : decode cL_law 334 = .ok (.aload_n 2, 1) := by decide +kernel
theorem dL_law_335 : decode cL_law 335 = .ok (.aload_n 0, 1) := by decide +kernel
theorem dL_law_336 : decode cL_law 336 = .ok (.iload_n 3, 1) := by decide +kernel
theorem dL_law_337 : decode cL_law 337 = .ok (.iconst 1, 1) := by decide +kernel
theorem dL_law_338 : decode cL_law 338 = .ok (.iadd, 1) := by decide +kernel
theorem dL_law_339 : decode cL_law 339 = .ok (.iaload, 1) := by decide +kernel
theorem dL_law_340 : decode cL_law 340 = .ok (.invokevirtual 47, 3) := by decide +kernel
theorem dL_law_343 : decode cL_law 343 = .ok (.if_icmp .eq 525, 3) := by decide +kernel
theorem dL_law_346 : decode cL_law 346 = .ok (.iconst 0, 1) := by decide +kernel
theorem dL_law_347 : decode cL_law 347 = .ok (.ireturn, 1) := by decide +kernel
theorem dL_law_348 : decode cL_law 348 = .ok (.aload_n 1, 1) := by decide +kernel
theorem dL_law_349 : decode cL_law 349 = .ok (.aload_n 0, 1) := by decide +kernel
theorem dL_law_350 : decode cL_law 350 = .ok (.iload_n 3, 1) := by decide +kernel
theorem dL_law_351 : decode cL_law 351 = .ok (.iconst 1, 1) := by decide +kernel
theorem dL_law_352 : decode cL_law 352 = .ok (.iadd, 1) := by decide +kernel
theorem dL_law_353 : decode cL_law 353 = .ok (.iaload, 1) := by decide +kernel
theorem dL_law_354 : decode cL_law 354 = .ok (.invokevirtual 48, 3) := by decide +kernel
theorem dL_law_357 : decode cL_law 357 = .ok (.aload_n 2, 1) := by decide +kernel
theorem dL_law_358 : decode cL_law 358 = .ok (.aload_n 0, 1) := by decide +kernel
theorem dL_law_359 : decode cL_law 359 = .ok (.iload_n 3, 1) := by decide +kernel
theorem dL_law_360 : decode cL_law 360 = .ok (.iconst 1, 1) := by decide +kernel
theorem dL_law_361 : decode cL_law 361 = .ok (.iadd, 1) := by decide +kernel
theorem dL_law_362 : decode cL_law 362 = .ok (.iaload, 1) := by decide +kernel
theorem dL_law_363 : decode cL_law 363 = .ok (.invokevirtual 51, 3) := by decide +kernel
theorem dL_law_366 : decode cL_law 366 = .ok (.if_icmp .eq 502, 3) := by decide +kernel
theorem dL_law_369 : decode cL_law 369 = .ok (.iconst 0, 1) := by decide +kernel
theorem dL_law_370 : decode cL_law 370 = .ok (.ireturn, 1) := by decide +kernel
theorem dL_law_371 : decode cL_law 371 = .ok (.aload_n 1, 1) := by decide +kernel
theorem dL_law_372 : decode cL_law 372 = .ok (.invokevirtual 52, 3) := by decide +kernel
theorem dL_law_375 : decode cL_law 375 = .ok (.aload_n 2, 1) := by decide +kernel
theorem dL_law_376 : decode cL_law 376 = .ok (.invokevirtual 55, 3) := by decide +kernel
theorem dL_law_379 : decode cL_law 379 = .ok (.if_icmp .eq 489, 3) := by decide +kernel
theorem dL_law_382 : decode cL_law 382 = .ok (.iconst 0, 1) := by decide +kernel
theorem dL_law_383 : decode cL_law 383 = .ok (.ireturn, 1) := by decide +kernel
theorem dL_law_384 : decode cL_law 384 = .ok (.aload_n 1, 1) := by decide +kernel
theorem dL_law_385 : decode cL_law 385 = .ok (.invokevirtual 56, 3) := by decide +kernel
theorem dL_law_388 : decode cL_law 388 = .ok (.aload_n 2, 1) := by decide +kernel
theorem dL_law_389 : decode cL_law 389 = .ok (.invokevirtual 59, 3) := by decide +kernel
theorem dL_law_392 : decode cL_law 392 = .ok (.if_icmp .eq 476, 3) := by decide +kernel
theorem dL_law_395 : decode cL_law 395 = .ok (.iconst 0, 1) := by decide +kernel
theorem dL_law_396 : decode cL_law 396 = .ok (.ireturn, 1) := by decide +kernel
theorem dL_law_397 : decode cL_law 397 = .ok (.aload_n 1, 1) := by decide +kernel
theorem dL_law_398 : decode cL_law 398 = .ok (.invokevirtual 60, 3) := by decide +kernel
theorem dL_law_401 : decode cL_law 401 = .ok (.aload_n 2, 1) := by decide +kernel
theorem dL_law_402 : decode cL_law 402 = .ok (.invokevirtual 63, 3) := by decide +kernel
theorem dL_law_405 : decode cL_law 405 = .ok (.if_icmp .eq 463, 3) := by decide +kernel
theorem dL_law_408 : decode cL_law 408 = .ok (.iconst 0, 1) := by decide +kernel
theorem dL_law_409 : decode cL_law 409 = .ok (.ireturn, 1) := by decide +kernel
theorem dL_law_410 : decode cL_law 410 = .ok (.aload_n 1, 1) := by decide +kernel
theorem dL_law_411 : decode cL_law 411 = .ok (.invokevirtual 64, 3) := by decide +kernel
theorem dL_law_414 : decode cL_law 414 = .ok (.aload_n 2, 1) := by decide +kernel
theorem dL_law_415 : decode cL_law 415 = .ok (.invokevirtual 67, 3) := by decide +kernel
theorem dL_law_418 : decode cL_law 418 = .ok (.if_icmp .eq 450, 3) := by decide +kernel
theorem dL_law_421 : decode cL_law 421 = .ok (.iconst 0, 1) := by decide +kernel
theorem dL_law_422 : decode cL_law 422 = .ok (.ireturn, 1) := by decide +kernel
theorem dL_law_423 : decode cL_law 423 = .ok (.aload_n 1, 1) := by decide +kernel
theorem dL_law_424 : decode cL_law 424 = .ok (.aload_n 0, 1) := by decide +kernel
theorem dL_law_425 : decode cL_law 425 = .ok (.iload_n 3, 1) := by decide +kernel
theorem dL_law_426 : decode cL_law 426 = .ok (.iconst 1, 1) := by decide +kernel
theorem dL_law_427 : decode cL_law 427 = .ok (.iadd, 1) := by decide +kernel
theorem dL_law_428 : decode cL_law 428 = .ok (.iaload, 1) := by decide +kernel
theorem dL_law_429 : decode cL_law 429 = .ok (.invokevirtual 68, 3) := by decide +kernel
theorem dL_law_432 : decode cL_law 432 = .ok (.aload_n 2, 1) := by decide +kernel
theorem dL_law_433 : decode cL_law 433 = .ok (.aload_n 0, 1) := by decide +kernel
theorem dL_law_434 : decode cL_law 434 = .ok (.iload_n 3, 1) := by decide +kernel
theorem dL_law_435 : decode cL_law 435 = .ok (.iconst 1, 1) := by decide +kernel
theorem dL_law_436 : decode cL_law 436 = .ok (.iadd, 1) := by decide +kernel
theorem dL_law_437 : decode cL_law 437 = .ok (.iaload, 1) := by decide +kernel
theorem dL_law_438 : decode cL_law 438 = .ok (.invokevirtual 71, 3) := by decide +kernel
theorem dL_law_441 : decode cL_law 441 = .ok (.if_icmp .eq 427, 3) := by decide +kernel
theorem dL_law_444 : decode cL_law 444 = .ok (.iconst 0, 1) := by decide +kernel
theorem dL_law_445 : decode cL_law 445 = .ok (.ireturn, 1) := by decide +kernel
theorem dL_law_446 : decode cL_law 446 = .ok (.aload_n 1, 1) := by decide +kernel
theorem dL_law_447 : decode cL_law 447 = .ok (.invokevirtual 72, 3) := by decide +kernel
theorem dL_law_450 : decode cL_law 450 = .ok (.aload_n 2, 1) := by decide +kernel
theorem dL_law_451 : decode cL_law 451 = .ok (.invokevirtual 75, 3) := by decide +kernel
theorem dL_law_454 : decode cL_law 454 = .ok (.if_icmp .eq 414, 3) := by decide +kernel
theorem dL_law_457 : decode cL_law 457 = .ok (.iconst 0, 1) := by decide +kernel
theorem dL_law_458 : decode cL_law 458 = .ok (.ireturn, 1) := by decide +kernel
theorem dL_law_459 : decode cL_law 459 = .ok (.aload_n 1, 1) := by decide +kernel
theorem dL_law_460 : decode cL_law 460 = .ok (.aload_n 0, 1) := by decide +kernel
theorem dL_law_461 : decode cL_law 461 = .ok (.iload_n 3, 1) := by decide +kernel
theorem dL_law_462 : decode cL_law 462 = .ok (.iconst 1, 1) := by decide +kernel
theorem dL_law_463 : decode cL_law 463 = .ok (.iadd, 1) := by decide +kernel
theorem dL_law_464 : decode cL_law 464 = .ok (.iaload, 1) := by decide +kernel
theorem dL_law_465 : decode cL_law 465 = .ok (.invokevirtual 76, 3) := by decide +kernel
theorem dL_law_468 : decode cL_law 468 = .ok (.aload_n 2, 1) := by decide +kernel
theorem dL_law_469 : decode cL_law 469 = .ok (.aload_n 0, 1) := by decide +kernel
theorem dL_law_470 : decode cL_law 470 = .ok (.iload_n 3, 1) := by decide +kernel
theorem dL_law_471 : decode cL_law 471 = .ok (.iconst 1, 1) := by decide +kernel
theorem dL_law_472 : decode cL_law 472 = .ok (.iadd, 1) := by decide +kernel
theorem dL_law_473 : decode cL_law 473 = .ok (.iaload, 1) := by decide +kernel
theorem dL_law_474 : decode cL_law 474 = .ok (.invokevirtual 79, 3) := by decide +kernel
theorem dL_law_477 : decode cL_law 477 = .ok (.if_icmp .eq 391, 3) := by decide +kernel
theorem dL_law_480 : decode cL_law 480 = .ok (.iconst 0, 1) := by decide +kernel
theorem dL_law_481 : decode cL_law 481 = .ok (.ireturn, 1) := by decide +kernel
theorem dL_law_482 : decode cL_law 482 = .ok (.aload_n 1, 1) := by decide +kernel
theorem dL_law_483 : decode cL_law 483 = .ok (.aload_n 0, 1) := by decide +kernel
theorem dL_law_484 : decode cL_law 484 = .ok (.iload_n 3, 1) := by decide +kernel
theorem dL_law_485 : decode cL_law 485 = .ok (.iconst 1, 1) := by decide +kernel
theorem dL_law_486 : decode cL_law 486 = .ok (.iadd, 1) := by decide +kernel
theorem dL_law_487 : decode cL_law 487 = .ok (.iaload, 1) := by decide +kernel
theorem dL_law_488 : decode cL_law 488 = .ok (.invokevirtual 80, 3) := by decide +kernel
theorem dL_law_491 : decode cL_law 491 = .ok (.aload_n 2, 1) := by decide +kernel
theorem dL_law_492 : decode cL_law 492 = .ok (.aload_n 0, 1) := by decide +kernel
theorem dL_law_493 : decode cL_law 493 = .ok (.iload_n 3, 1) := by decide +kernel
theorem dL_law_494 : decode cL_law 494 = .ok (.iconst 1, 1) := by decide +kernel
theorem dL_law_495 : decode cL_law 495 = .ok (.iadd, 1) := by decide +kernel
theorem dL_law_496 : decode cL_law 496 = .ok (.iaload, 1) := by decide +kernel
theorem dL_law_497 : decode cL_law 497 = .ok (.invokevirtual 83, 3) := by decide +kernel
theorem dL_law_500 : decode cL_law 500 = .ok (.if_icmp .eq 368, 3) := by decide +kernel
theorem dL_law_503 : decode cL_law 503 = .ok (.iconst 0, 1) := by decide +kernel
theorem dL_law_504 : decode cL_law 504 = .ok (.ireturn, 1) := by decide +kernel
theorem dL_law_505 : decode cL_law 505 = .ok (.aload_n 1, 1) := by decide +kernel
theorem dL_law_506 : decode cL_law 506 = .ok (.aload_n 0, 1) := by decide +kernel
theorem dL_law_507 : decode cL_law 507 = .ok (.iload_n 3, 1) := by decide +kernel
theorem dL_law_508 : decode cL_law 508 = .ok (.iconst 1, 1) := by decide +kernel
theorem dL_law_509 : decode cL_law 509 = .ok (.iadd, 1) := by decide +kernel
theorem dL_law_510 : decode cL_law 510 = .ok (.iaload, 1) := by decide +kernel
theorem dL_law_511 : decode cL_law 511 = .ok (.aload_n 0, 1) := by decide +kernel
theorem dL_law_512 : decode cL_law 512 = .ok (.iload_n 3, 1) := by decide +kernel
theorem dL_law_513 : decode cL_law 513 = .ok (.iconst 2, 1) := by decide +kernel
theorem dL_law_514 : decode cL_law 514 = .ok (.iadd, 1) := by decide +kernel
theorem dL_law_515 : decode cL_law 515 = .ok (.iaload, 1) := by decide +kernel
theorem dL_law_516 : decode cL_law 516 = .ok (.ifCond .eq 7, 3) := by decide +kernel
theorem dL_law_519 : decode cL_law 519 = .ok (.iconst 1, 1) := by decide +kernel
theorem dL_law_520 : decode cL_law 520 = .ok (.goto 4, 3) := by decide +kernel
theorem dL_law_523 : decode cL_law 523 = .ok (.iconst 0, 1) := by decide +kernel
theorem dL_law_524 : decode cL_law 524 = .ok (.invokevirtual 84, 3) := by decide +kernel
theorem dL_law_527 : decode cL_law 527 = .ok (.aload_n 2, 1) := by decide +kernel
theorem dL_law_528 : decode cL_law 528 = .ok (.aload_n 0, 1) := by decide +kernel
theorem dL_law_529 : decode cL_law 529 = .ok (.iload_n 3, 1) := by decide +kernel
theorem dL_law_530 : decode cL_law 530 = .ok (.iconst 1, 1) := by decide +kernel
theorem dL_law_531 : decode cL_law 531 = .ok (.iadd, 1) := by decide +kernel
theorem dL_law_532 : decode cL_law 532 = .ok (.iaload, 1) := by decide +kernel
theorem dL_law_533 : decode cL_law 533 = .ok (.aload_n 0, 1) := by decide +kernel
theorem dL_law_534 : decode cL_law 534 = .ok (.iload_n 3, 1) := by decide +kernel
theorem dL_law_535 : decode cL_law 535 = .ok (.iconst 2, 1) := by decide +kernel
theorem dL_law_536 : decode cL_law 536 = .ok (.iadd, 1) := by decide +kernel
theorem dL_law_537 : decode cL_law 537 = .ok (.iaload, 1) := by decide +kernel
theorem dL_law_538 : decode cL_law 538 = .ok (.ifCond .eq 7, 3) := by decide +kernel
theorem dL_law_541 : decode cL_law 541 = .ok (.iconst 1, 1) := by decide +kernel
theorem dL_law_542 : decode cL_law 542 = .ok (.goto 4, 3) := by decide +kernel
theorem dL_law_545 : decode cL_law 545 = .ok (.iconst 0, 1) := by decide +kernel
theorem dL_law_546 : decode cL_law 546 = .ok (.invokevirtual 88, 3) := by decide +kernel
theorem dL_law_549 : decode cL_law 549 = .ok (.if_icmp .eq 319, 3) := by decide +kernel
theorem dL_law_552 : decode cL_law 552 = .ok (.iconst 0, 1) := by decide +kernel
theorem dL_law_553 : decode cL_law 553 = .ok (.ireturn, 1) := by decide +kernel
theorem dL_law_554 : decode cL_law 554 = .ok (.aload_n 1, 1) := by decide +kernel
theorem dL_law_555 : decode cL_law 555 = .ok (.aload_n 0, 1) := by decide +kernel
theorem dL_law_556 : decode cL_law 556 = .ok (.iload_n 3, 1) := by decide +kernel
theorem dL_law_557 : decode cL_law 557 = .ok (.iconst 1, 1) := by decide +kernel
theorem dL_law_558 : decode cL_law 558 = .ok (.iadd, 1) := by decide +kernel
theorem dL_law_559 : decode cL_law 559 = .ok (.iaload, 1) := by decide +kernel
theorem dL_law_560 : decode cL_law 560 = .ok (.invokevirtual 89, 3) := by decide +kernel
theorem dL_law_563 : decode cL_law 563 = .ok (.aload_n 2, 1) := by decide +kernel
theorem dL_law_564 : decode cL_law 564 = .ok (.aload_n 0, 1) := by decide +kernel
theorem dL_law_565 : decode cL_law 565 = .ok (.iload_n 3, 1) := by decide +kernel
theorem dL_law_566 : decode cL_law 566 = .ok (.iconst 1, 1) := by decide +kernel
theorem dL_law_567 : decode cL_law 567 = .ok (.iadd, 1) := by decide +kernel
theorem dL_law_568 : decode cL_law 568 = .ok (.iaload, 1) := by decide +kernel
theorem dL_law_569 : decode cL_law 569 = .ok (.invokevirtual 92, 3) := by decide +kernel
theorem dL_law_572 : decode cL_law 572 = .ok (.if_icmp .eq 296, 3) := by decide +kernel
theorem dL_law_575 : decode cL_law 575 = .ok (.iconst 0, 1) := by decide +kernel
theorem dL_law_576 : decode cL_law 576 = .ok (.ireturn, 1) := by decide +kernel
theorem dL_law_577 : decode cL_law 577 = .ok (.aload_n 1, 1) := by decide +kernel
theorem dL_law_578 : decode cL_law 578 = .ok (.aload_n 0, 1) := by decide +kernel
theorem dL_law_579 : decode cL_law 579 = .ok (.iload_n 3, 1) := by decide +kernel
theorem dL_law_580 : decode cL_law 580 = .ok (.iconst 1, 1) := by decide +kernel
theorem dL_law_581 : decode cL_law 581 = .ok (.iadd, 1) := by decide +kernel
theorem dL_law_582 : decode cL_law 582 = .ok (.iaload, 1) := by decide +kernel
theorem dL_law_583 : decode cL_law 583 = .ok (.aload_n 0, 1) := by decide +kernel
theorem dL_law_584 : decode cL_law 584 = .ok (.iload_n 3, 1) := by decide +kernel
theorem dL_law_585 : decode cL_law 585 = .ok (.iconst 2, 1) := by decide +kernel
theorem dL_law_586 : decode cL_law 586 = .ok (.iadd, 1) := by decide +kernel
theorem dL_law_587 : decode cL_law 587 = .ok (.iaload, 1) := by decide +kernel
theorem dL_law_588 : decode cL_law 588 = .ok (.aload_n 0, 1) := by decide +kernel
theorem dL_law_589 : decode cL_law 589 = .ok (.iload_n 3, 1) := by decide +kernel
theorem dL_law_590 : decode cL_law 590 = .ok (.iconst 3, 1) := by decide +kernel
theorem dL_law_591 : decode cL_law 591 = .ok (.iadd, 1) := by decide +kernel
theorem dL_law_592 : decode cL_law 592 = .ok (.iaload, 1) := by decide +kernel
theorem dL_law_593 : decode cL_law 593 = .ok (.invokevirtual 93, 3) := by decide +kernel
theorem dL_law_596 : decode cL_law 596 = .ok (.aload_n 2, 1) := by decide +kernel
theorem dL_law_597 : decode cL_law 597 = .ok (.aload_n 0, 1) := by decide +kernel
theorem dL_law_598 : decode cL_law 598 = .ok (.iload_n 3, 1) := by decide +kernel
theorem dL_law_599 : decode cL_law 599 = .ok (.iconst 1, 1) := by decide +kernel
theorem dL_law_600 : decode cL_law 600 = .ok (.iadd, 1) := by decide +kernel
theorem dL_law_601 : decode cL_law 601 = .ok (.iaload, 1) := by decide +kernel
theorem dL_law_602 : decode cL_law 602 = .ok (.aload_n 0, 1) := by decide +kernel
theorem dL_law_603 : decode cL_law 603 = .ok (.iload_n 3, 1) := by decide +kernel
theorem dL_law_604 : decode cL_law 604 = .ok (.iconst 2, 1) := by decide +kernel
theorem dL_law_605 : decode cL_law 605 = .ok (.iadd, 1) := by decide +kernel
theorem dL_law_606 : decode cL_law 606 = .ok (.iaload, 1) := by decide +kernel
theorem dL_law_607 : decode cL_law 607 = .ok (.aload_n 0, 1) := by decide +kernel
theorem dL_law_608 : decode cL_law 608 = .ok (.iload_n 3, 1) := by decide +kernel
theorem dL_law_609 : decode cL_law 609 = .ok (.iconst 3, 1) := by decide +kernel
theorem dL_law_610 : decode cL_law 610 = .ok (.iadd, 1) := by decide +kernel
theorem dL_law_611 : decode cL_law 611 = .ok (.iaload, 1) := by decide +kernel
theorem dL_law_612 : decode cL_law 612 = .ok (.invokevirtual 97, 3) := by decide +kernel
theorem dL_law_615 : decode cL_law 615 = .ok (.if_icmp .eq 253, 3) := by decide +kernel
theorem dL_law_618 : decode cL_law 618 = .ok (.iconst 0, 1) := by decide +kernel
theorem dL_law_619 : decode cL_law 619 = .ok (.ireturn, 1) := by decide +kernel
theorem dL_law_620 : decode cL_law 620 = .ok (.aload_n 1, 1) := by decide +kernel
theorem dL_law_621 : decode cL_law 621 = .ok (.aload_n 0, 1) := by decide +kernel
theorem dL_law_622 : decode cL_law 622 = .ok (.iload_n 3, 1) := by decide +kernel
theorem dL_law_623 : decode cL_law 623 = .ok (.iconst 1, 1) := by decide +kernel
theorem dL_law_624 : decode cL_law 624 = .ok (.iadd, 1) := by decide +kernel
theorem dL_law_625 : decode cL_law 625 = .ok (.iaload, 1) := by decide +kernel
theorem dL_law_626 : decode cL_law 626 = .ok (.invokevirtual 98, 3) := by decide +kernel
theorem dL_law_629 : decode cL_law 629 = .ok (.aload_n 2, 1) := by decide +kernel
theorem dL_law_630 : decode cL_law 630 = .ok (.aload_n 0, 1) := by decide +kernel
theorem dL_law_631 : decode cL_law 631 = .ok (.iload_n 3, 1) := by decide +kernel
theorem dL_law_632 : decode cL_law 632 = .ok (.iconst 1, 1) := by decide +kernel
theorem dL_law_633 : decode cL_law 633 = .ok (.iadd, 1) := by decide +kernel
theorem dL_law_634 : decode cL_law 634 = .ok (.iaload, 1) := by decide +kernel
theorem dL_law_635 : decode cL_law 635 = .ok (.invokevirtual 101, 3) := by decide +kernel
theorem dL_law_638 : decode cL_law 638 = .ok (.if_icmp .eq 230, 3) := by decide +kernel
theorem dL_law_641 : decode cL_law 641 = .ok (.iconst 0, 1) := by decide +kernel
theorem dL_law_642 : decode cL_law 642 = .ok (.ireturn, 1) := by decide +kernel
theorem dL_law_643 : decode cL_law 643 = .ok (.aload_n 1, 1) := by decide +kernel
theorem dL_law_644 : decode cL_law 644 = .ok (.aload_n 0, 1) := by decide +kernel
theorem dL_law_645 : decode cL_law 645 = .ok (.iload_n 3, 1) := by decide +kernel
theorem dL_law_646 : decode cL_law 646 = .ok (.iconst 1, 1) := by decide +kernel
theorem dL_law_647 : decode cL_law 647 = .ok (.iadd, 1) := by decide +kernel
theorem dL_law_648 : decode cL_law 648 = .ok (.iaload, 1) := by decide +kernel
theorem dL_law_649 : decode cL_law 649 = .ok (.aload_n 0, 1) := by decide +kernel
theorem dL_law_650 : decode cL_law 650 = .ok (.iload_n 3, 1) := by decide +kernel
theorem dL_law_651 : decode cL_law 651 = .ok (.iconst 2, 1) := by decide +kernel
theorem dL_law_652 : decode cL_law 652 = .ok (.iadd, 1) := by decide +kernel
theorem dL_law_653 : decode cL_law 653 = .ok (.iaload, 1) := by decide +kernel
theorem dL_law_654 : decode cL_law 654 = .ok (.aload_n 0, 1) := by decide +kernel
theorem dL_law_655 : decode cL_law 655 = .ok (.iload_n 3, 1) := by decide +kernel
theorem dL_law_656 : decode cL_law 656 = .ok (.iconst 3, 1) := by decide +kernel
theorem dL_law_657 : decode cL_law 657 = .ok (.iadd, 1) := by decide +kernel
theorem dL_law_658 : decode cL_law 658 = .ok (.iaload, 1) := by decide +kernel
theorem dL_law_659 : decode cL_law 659 = .ok (.invokevirtual 102, 3) := by decide +kernel
theorem dL_law_662 : decode cL_law 662 = .ok (.aload_n 2, 1) := by decide +kernel
theorem dL_law_663 : decode cL_law 663 = .ok (.aload_n 0, 1) := by decide +kernel
theorem dL_law_664 : decode cL_law 664 = .ok (.iload_n 3, 1) := by decide +kernel
theorem dL_law_665 : decode cL_law 665 = .ok (.iconst 1, 1) := by decide +kernel
theorem dL_law_666 : decode cL_law 666 = .ok (.iadd, 1) := by decide +kernel
theorem dL_law_667 : decode cL_law 667 = .ok (.iaload, 1) := by decide +kernel
theorem dL_law_668 : decode cL_law 668 = .ok (.aload_n 0, 1) := by decide +kernel
theorem dL_law_669 : decode cL_law 669 = .ok (.iload_n 3, 1) := by decide +kernel
theorem dL_law_670 : decode cL_law 670 = .ok (.iconst 2, 1) := by decide +kernel
theorem dL_law_671 : decode cL_law 671 = .ok (.iadd, 1) := by decide +kernel
theorem dL_law_672 : decode cL_law 672 = .ok (.iaload, 1) := by decide +kernel
theorem dL_law_673 : decode cL_law 673 = .ok (.aload_n 0, 1) := by decide +kernel
theorem dL_law_674 : decode cL_law 674 = .ok (.iload_n 3, 1) := by decide +kernel
theorem dL_law_675 : decode cL_law 675 = .ok (.iconst 3, 1) := by decide +kernel
theorem dL_law_676 : decode cL_law 676 = .ok (.iadd, 1) := by decide +kernel
theorem dL_law_677 : decode cL_law 677 = .ok (.iaload, 1) := by decide +kernel
theorem dL_law_678 : decode cL_law 678 = .ok (.invokevirtual 105, 3) := by decide +kernel
theorem dL_law_681 : decode cL_law 681 = .ok (.if_icmp .eq 187, 3) := by decide +kernel
theorem dL_law_684 : decode cL_law 684 = .ok (.iconst 0, 1) := by decide +kernel
theorem dL_law_685 : decode cL_law 685 = .ok (.ireturn, 1) := by decide +kernel
theorem dL_law_686 : decode cL_law 686 = .ok (.aload_n 1, 1) := by decide +kernel
theorem dL_law_687 : decode cL_law 687 = .ok (.aload_n 0, 1) := by decide +kernel
theorem dL_law_688 : decode cL_law 688 = .ok (.iload_n 3, 1) := by decide +kernel
theorem dL_law_689 : decode cL_law 689 = .ok (.iconst 1, 1) := by decide +kernel
theorem dL_law_690 : decode cL_law 690 = .ok (.iadd, 1) := by decide +kernel
theorem dL_law_691 : decode cL_law 691 = .ok (.iaload, 1) := by decide +kernel
theorem dL_law_692 : decode cL_law 692 = .ok (.aload_n 0, 1) := by decide +kernel
theorem dL_law_693 : decode cL_law 693 = .ok (.iload_n 3, 1) := by decide +kernel
theorem dL_law_694 : decode cL_law 694 = .ok (.iconst 2, 1) := by decide +kernel
theorem dL_law_695 : decode cL_law 695 = .ok (.iadd, 1) := by decide +kernel
theorem dL_law_696 : decode cL_law 696 = .ok (.iaload, 1) := by decide +kernel
theorem dL_law_697 : decode cL_law 697 = .ok (.invokevirtual 106, 3) := by decide +kernel
theorem dL_law_700 : decode cL_law 700 = .ok (.aload_n 2, 1) := by decide +kernel
theorem dL_law_701 : decode cL_law 701 = .ok (.aload_n 0, 1) := by decide +kernel
theorem dL_law_702 : decode cL_law 702 = .ok (.iload_n 3, 1) := by decide +kernel
theorem dL_law_703 : decode cL_law 703 = .ok (.iconst 1, 1) := by decide +kernel
theorem dL_law_704 : decode cL_law 704 = .ok (.iadd, 1) := by decide +kernel
theorem dL_law_705 : decode cL_law 705 = .ok (.iaload, 1) := by decide +kernel
theorem dL_law_706 : decode cL_law 706 = .ok (.aload_n 0, 1) := by decide +kernel
theorem dL_law_707 : decode cL_law 707 = .ok (.iload_n 3, 1) := by decide +kernel
theorem dL_law_708 : decode cL_law 708 = .ok (.iconst 2, 1) := by decide +kernel
theorem dL_law_709 : decode cL_law 709 = .ok (.iadd, 1) := by decide +kernel
theorem dL_law_710 : decode cL_law 710 = .ok (.iaload, 1) := by decide +kernel
theorem dL_law_711 : decode cL_law 711 = .ok (.invokevirtual 109, 3) := by decide +kernel
theorem dL_law_714 : decode cL_law 714 = .ok (.if_icmp .eq 154, 3) := by decide +kernel
theorem dL_law_717 : decode cL_law 717 = .ok (.iconst 0, 1) := by decide +kernel
theorem dL_law_718 : decode cL_law 718 = .ok (.ireturn, 1) := by decide +kernel
theorem dL_law_719 : decode cL_law 719 = .ok (.aload_n 1, 1) := by decide +kernel
theorem dL_law_720 : decode cL_law 720 = .ok (.aload_n 0, 1) := by decide +kernel
theorem dL_law_721 : decode cL_law 721 = .ok (.iload_n 3, 1) := by decide +kernel
theorem dL_law_722 : decode cL_law 722 = .ok (.iconst 1, 1) := by decide +kernel
theorem dL_law_723 : decode cL_law 723 = .ok (.iadd, 1) := by decide +kernel
theorem dL_law_724 : decode cL_law 724 = .ok (.iaload, 1) := by decide +kernel
theorem dL_law_725 : decode cL_law 725 = .ok (.aload_n 0, 1) := by decide +kernel
theorem dL_law_726 : decode cL_law 726 = .ok (.iload_n 3, 1) := by decide +kernel
theorem dL_law_727 : decode cL_law 727 = .ok (.iconst 2, 1) := by decide +kernel
theorem dL_law_728 : decode cL_law 728 = .ok (.iadd, 1) := by decide +kernel
theorem dL_law_729 : decode cL_law 729 = .ok (.iaload, 1) := by decide +kernel
theorem dL_law_730 : decode cL_law 730 = .ok (.invokevirtual 110, 3) := by decide +kernel
theorem dL_law_733 : decode cL_law 733 = .ok (.aload_n 2, 1) := by decide +kernel
theorem dL_law_734 : decode cL_law 734 = .ok (.aload_n 0, 1) := by decide +kernel
theorem dL_law_735 : decode cL_law 735 = .ok (.iload_n 3, 1) := by decide +kernel
theorem dL_law_736 : decode cL_law 736 = .ok (.iconst 1, 1) := by decide +kernel
theorem dL_law_737 : decode cL_law 737 = .ok (.iadd, 1) := by decide +kernel
theorem dL_law_738 : decode cL_law 738 = .ok (.iaload, 1) := by decide +kernel
theorem dL_law_739 : decode cL_law 739 = .ok (.aload_n 0, 1) := by decide +kernel
theorem dL_law_740 : decode cL_law 740 = .ok (.iload_n 3, 1) := by decide +kernel
theorem dL_law_741 : decode cL_law 741 = .ok (.iconst 2, 1) := by decide +kernel
theorem dL_law_742 : decode cL_law 742 = .ok (.iadd, 1) := by decide +kernel
theorem dL_law_743 : decode cL_law 743 = .ok (.iaload, 1) := by decide +kernel
theorem dL_law_744 : decode cL_law 744 = .ok (.invokevirtual 113, 3) := by decide +kernel
theorem dL_law_747 : decode cL_law 747 = .ok (.if_icmp .eq 121, 3) := by decide +kernel
theorem dL_law_750 : decode cL_law 750 = .ok (.iconst 0, 1) := by decide +kernel
theorem dL_law_751 : decode cL_law 751 = .ok (.ireturn, 1) := by decide +kernel
theorem dL_law_752 : decode cL_law 752 = .ok (.aload_n 1, 1) := by decide +kernel
theorem dL_law_753 : decode cL_law 753 = .ok (.aload_n 0, 1) := by decide +kernel
theorem dL_law_754 : decode cL_law 754 = .ok (.iload_n 3, 1) := by decide +kernel
theorem dL_law_755 : decode cL_law 755 = .ok (.iconst 1, 1) := by decide +kernel
theorem dL_law_756 : decode cL_law 756 = .ok (.iadd, 1) := by decide +kernel
theorem dL_law_757 : decode cL_law 757 = .ok (.iaload, 1) := by decide +kernel
theorem dL_law_758 : decode cL_law 758 = .ok (.aload_n 0, 1) := by decide +kernel
theorem dL_law_759 : decode cL_law 759 = .ok (.iload_n 3, 1) := by decide +kernel
theorem dL_law_760 : decode cL_law 760 = .ok (.iconst 2, 1) := by decide +kernel
theorem dL_law_761 : decode cL_law 761 = .ok (.iadd, 1) := by decide +kernel
theorem dL_law_762 : decode cL_law 762 = .ok (.iaload, 1) := by decide +kernel
theorem dL_law_763 : decode cL_law 763 = .ok (.invokevirtual 114, 3) := by decide +kernel
theorem dL_law_766 : decode cL_law 766 = .ok (.aload_n 2, 1) := by decide +kernel
theorem dL_law_767 : decode cL_law 767 = .ok (.aload_n 0, 1) := by decide +kernel
theorem dL_law_768 : decode cL_law 768 = .ok (.iload_n 3, 1) := by decide +kernel
theorem dL_law_769 : decode cL_law 769 = .ok (.iconst 1, 1) := by decide +kernel
theorem dL_law_770 : decode cL_law 770 = .ok (.iadd, 1) := by decide +kernel
theorem dL_law_771 : decode cL_law 771 = .ok (.iaload, 1) := by decide +kernel
theorem dL_law_772 : decode cL_law 772 = .ok (.aload_n 0, 1) := by decide +kernel
theorem dL_law_773 : decode cL_law 773 = .ok (.iload_n 3, 1) := by decide +kernel
theorem dL_law_774 : decode cL_law 774 = .ok (.iconst 2, 1) := by decide +kernel
theorem dL_law_775 : decode cL_law 775 = .ok (.iadd, 1) := by decide +kernel
theorem dL_law_776 : decode cL_law 776 = .ok (.iaload, 1) := by decide +kernel
theorem dL_law_777 : decode cL_law 777 = .ok (.invokevirtual 117, 3) := by decide +kernel
theorem dL_law_780 : decode cL_law 780 = .ok (.if_icmp .eq 88, 3) := by decide +kernel
theorem dL_law_783 : decode cL_law 783 = .ok (.iconst 0, 1) := by decide +kernel
theorem dL_law_784 : decode cL_law 784 = .ok (.ireturn, 1) := by decide +kernel
theorem dL_law_785 : decode cL_law 785 = .ok (.aload_n 1, 1) := by decide +kernel
theorem dL_law_786 : decode cL_law 786 = .ok (.aload_n 0, 1) := by decide +kernel
theorem dL_law_787 : decode cL_law 787 = .ok (.iload_n 3, 1) := by decide +kernel
theorem dL_law_788 : decode cL_law 788 = .ok (.iconst 1, 1) := by decide +kernel
theorem dL_law_789 : decode cL_law 789 = .ok (.iadd, 1) := by decide +kernel
theorem dL_law_790 : decode cL_law 790 = .ok (.iaload, 1) := by decide +kernel
theorem dL_law_791 : decode cL_law 791 = .ok (.invokevirtual 118, 3) := by decide +kernel
theorem dL_law_794 : decode cL_law 794 = .ok (.aload_n 2, 1) := by decide +kernel
theorem dL_law_795 : decode cL_law 795 = .ok (.aload_n 0, 1) := by decide +kernel
theorem dL_law_796 : decode cL_law 796 = .ok (.iload_n 3, 1) := by decide +kernel
theorem dL_law_797 : decode cL_law 797 = .ok (.iconst 1, 1) := by decide +kernel
theorem dL_law_798 : decode cL_law 798 = .ok (.iadd, 1) := by decide +kernel
theorem dL_law_799 : decode cL_law 799 = .ok (.iaload, 1) := by decide +kernel
theorem dL_law_800 : decode cL_law 800 = .ok (.invokevirtual 121, 3) := by decide +kernel
theorem dL_law_803 : decode cL_law 803 = .ok (.if_icmp .eq 65, 3) := by decide +kernel
theorem dL_law_806 : decode cL_law 806 = .ok (.iconst 0, 1) := by decide +kernel
theorem dL_law_807 : decode cL_law 807 = .ok (.ireturn, 1) := by decide +kernel
theorem dL_law_808 : decode cL_law 808 = .ok (.aload_n 1, 1) := by decide +kernel
theorem dL_law_809 : decode cL_law 809 = .ok (.aload_n 0, 1) := by decide +kernel
theorem dL_law_810 : decode cL_law 810 = .ok (.iload_n 3, 1) := by decide +kernel
theorem dL_law_811 : decode cL_law 811 = .ok (.iconst 1, 1) := by decide +kernel
theorem dL_law_812 : decode cL_law 812 = .ok (.iadd, 1) := by decide +kernel
theorem dL_law_813 : decode cL_law 813 = .ok (.iaload, 1) := by decide +kernel
theorem dL_law_814 : decode cL_law 814 = .ok (.invokevirtual 122, 3) := by decide +kernel
theorem dL_law_817 : decode cL_law 817 = .ok (.aload_n 2, 1) := by decide +kernel
theorem dL_law_818 : decode cL_law 818 = .ok (.aload_n 0, 1) := by decide +kernel
theorem dL_law_819 : decode cL_law 819 = .ok (.iload_n 3, 1) := by decide +kernel
theorem dL_law_820 : decode cL_law 820 = .ok (.iconst 1, 1) := by decide +kernel
theorem dL_law_821 : decode cL_law 821 = .ok (.iadd, 1) := by decide +kernel
theorem dL_law_822 : decode cL_law 822 = .ok (.iaload, 1) := by decide +kernel
theorem dL_law_823 : decode cL_law 823 = .ok (.invokevirtual 125, 3) := by decide +kernel
theorem dL_law_826 : decode cL_law 826 = .ok (.if_icmp .eq 42, 3) := by decide +kernel
theorem dL_law_829 : decode cL_law 829 = .ok (.iconst 0, 1) := by decide +kernel
theorem dL_law_830 : decode cL_law 830 = .ok (.ireturn, 1) := by decide +kernel
theorem dL_law_831 : decode cL_law 831 = .ok (.aload_n 1, 1) := by decide +kernel
theorem dL_law_832 : decode cL_law 832 = .ok (.aload_n 0, 1) := by decide +kernel
theorem dL_law_833 : decode cL_law 833 = .ok (.iload_n 3, 1) := by decide +kernel
theorem dL_law_834 : decode cL_law 834 = .ok (.iconst 1, 1) := by decide +kernel
theorem dL_law_835 : decode cL_law 835 = .ok (.iadd, 1) := by decide +kernel
theorem dL_law_836 : decode cL_law 836 = .ok (.iaload, 1) := by decide +kernel
theorem dL_law_837 : decode cL_law 837 = .ok (.invokevirtual 126, 3) := by decide +kernel
theorem dL_law_840 : decode cL_law 840 = .ok (.aload_n 2, 1) := by decide +kernel
theorem dL_law_841 : decode cL_law 841 = .ok (.aload_n 0, 1) := by decide +kernel
theorem dL_law_842 : decode cL_law 842 = .ok (.iload_n 3, 1) := by decide +kernel
theorem dL_law_843 : decode cL_law 843 = .ok (.iconst 1, 1) := by decide +kernel
theorem dL_law_844 : decode cL_law 844 = .ok (.iadd, 1) := by decide +kernel
theorem dL_law_845 : decode cL_law 845 = .ok (.iaload, 1) := by decide +kernel
theorem dL_law_846 : decode cL_law 846 = .ok (.invokevirtual 129, 3) := by decide +kernel
theorem dL_law_849 : decode cL_law 849 = .ok (.if_icmp .eq 19, 3) := by decide +kernel
theorem dL_law_852 : decode cL_law 852 = .ok (.iconst 0, 1) := by decide +kernel
theorem dL_law_853 : decode cL_law 853 = .ok (.ireturn, 1) := by decide +kernel
theorem dL_law_854 : decode cL_law 854 = .ok (.aload_n 1, 1) := by decide +kernel
theorem dL_law_855 : decode cL_law 855 = .ok (.invokevirtual 130, 3) := by decide +kernel
theorem dL_law_858 : decode cL_law 858 = .ok (.aload_n 2, 1) := by decide +kernel
theorem dL_law_859 : decode cL_law 859 = .ok (.invokevirtual 134, 3) := by decide +kernel
theorem dL_law_862 : decode cL_law 862 = .ok (.lcmp, 1) := by decide +kernel
theorem dL_law_863 : decode cL_law 863 = .ok (.ifCond .eq 5, 3) := by decide +kernel
theorem dL_law_866 : decode cL_law 866 = .ok (.iconst 0, 1) := by decide +kernel
theorem dL_law_867 : decode cL_law 867 = .ok (.ireturn, 1) := by decide +kernel
theorem dL_law_868 : decode cL_law 868 = .ok (.iinc 3 4, 3) := by decide +kernel
theorem dL_law_871 : decode cL_law 871 = .ok (.goto (-853), 3) := by decide +kernel
theorem dL_law_874 : decode cL_law 874 = .ok (.iconst 1, 1) := by decide +kernel
theorem dL_law_875 : decode cL_law 875 = .ok (.ireturn, 1) := by decide +kernel
end
section
/-! small things of the worlds; rules in the forms that the walker lays -/
def off (w w1 : PW) (lo hi : Nat) : Prop := ∀ q : Nat, (q < lo ∨ hi ≤ q) → w1 q = w q
theorem off.rfl' (w : PW) (lo hi : Nat) : off w w lo hi := fun _ _ => rfl
theorem off.mono {w w1 : PW} {lo hi lo' hi' : Nat} (h : off w w1 lo hi) (h1 : lo' ≤ lo) (h2 : hi ≤ hi') : off w w1 lo' hi' := fun q hq => h q (by omega)
theorem off.trans {w w1 w2 : PW} {lo hi : Nat} (h : off w w1 lo hi) (h2 : off w1 w2 lo hi) : off w w2 lo hi := fun q hq => (h2 q hq).trans (h q hq)
theorem pset_off {w w1 : PW} {a : Nat} {e : PE} (h : w1 = pset w a e) : off w w1 a (a + 1) := fun q hq => by rw [h]; exact pset_ne w e (by omega)
def updZ (F : Nat → Int) (k : Nat) (x : Int) : Nat → Int := fun j => if j = k then x else F j
def updN (F : Nat → Nat) (k : Nat) (x : Nat) : Nat → Nat := fun j => if j = k then x else F j
theorem updZ_iI (F : Nat → Int) (k : Nat) (x : Int) : upd (fun i => iI (F i)) k (iI x) = fun i => iI (updZ F k x i) := by
  funext j
  by_cases h : j = k <;> simp [upd, updZ, h]
theorem updN_iI (F : Nat → Nat) (k : Nat) (x : Nat) : upd (fun i => iI ((F i : Nat) : Int)) k (iI ((x : Nat) : Int)) = fun i => iI ((updN F k x i : Nat) : Int) := by
  funext j
  by_cases h : j = k <;> simp [upd, updN, h]
theorem updZ_s (F : Nat → Int) (k : Nat) (x : Int) : updZ F k x k = x := by simp [updZ]
theorem updZ_n (F : Nat → Int) {k j : Nat} (x : Int) (h : j ≠ k) : updZ F k x j = F j := by simp [updZ, h]
theorem updN_s (F : Nat → Nat) (k : Nat) (x : Nat) : updN F k x k = x := by simp [updN]
theorem updN_n (F : Nat → Nat) {k j : Nat} (x : Nat) (h : j ≠ k) : updN F k x j = F j := by simp [updN, h]
section P08
variable {S : PS} {cc : ByteArray} {pc : Nat} {lv : List (Nat × Value)} {st : List Value} {w : PW} {n ce sl : Nat}
theorem r_ialdZ {a N : Nat} {F : Nat → Int} {z : Int} (hb : S.1.1 = cc) (q : Nat) (hd : decode cc pc = .ok (.iaload, 1)) (hq : pc + 1 = q) (hw : w a = some (eI N (fun i => iI (F i)))) (j : Nat) (hz : z = (j : Int)) (hj : j < N ∧ N < 2147483648) (kk : Wp S q lv (.int (iI (F j)) :: st) w n ce sl) : Wp S pc lv (.int (iI z) :: .ref a :: st) w n ce sl := r_iald hb q hd hq hw j hz hj kk
theorem r_ialdN {a N : Nat} {F : Nat → Nat} {z : Int} (hb : S.1.1 = cc) (q : Nat) (hd : decode cc pc = .ok (.iaload, 1)) (hq : pc + 1 = q) (hw : w a = some (eI N (fun i => iI ((F i : Nat) : Int)))) (j : Nat) (hz : z = (j : Int)) (hj : j < N ∧ N < 2147483648) (kk : Wp S q lv (.int (iI ((F j : Nat) : Int)) :: st) w n ce sl) : Wp S pc lv (.int (iI z) :: .ref a :: st) w n ce sl := r_iald hb q hd hq hw j hz hj kk
theorem r_iastZ {a N : Nat} {F : Nat → Int} {z x : Int} (hb : S.1.1 = cc) (q : Nat) (hd : decode cc pc = .ok (.iastore, 1)) (hq : pc + 1 = q) (hw : w a = some (eI N (fun i => iI (F i)))) (j : Nat) (hz : z = (j : Int)) (hj : j < N ∧ N < 2147483648) (kk : ∀ w1, w1 = pset w a (eI N (fun i => iI (updZ F j x i))) → Wp S q lv st w1 n ce sl) : Wp S pc lv (.int (iI x) :: .int (iI z) :: .ref a :: st) w n ce sl :=
  r_iast hb q hd hq hw j hz hj (by rw [updZ_iI]; exact kk)
theorem r_iastN {a N : Nat} {F : Nat → Nat} {z zx : Int} {x : Nat} (hx : zx = ((x : Nat) : Int)) (hb : S.1.1 = cc) (q : Nat) (hd : decode cc pc = .ok (.iastore, 1)) (hq : pc + 1 = q) (hw : w a = some (eI N (fun i => iI ((F i : Nat) : Int)))) (j : Nat) (hz : z = (j : Int)) (hj : j < N ∧ N < 2147483648) (kk : ∀ w1, w1 = pset w a (eI N (fun i => iI ((updN F j x i : Nat) : Int))) → Wp S q lv st w1 n ce sl) : Wp S pc lv (.int (iI zx) :: .int (iI z) :: .ref a :: st) w n ce sl := by
  subst hx
  exact r_iast hb q hd hq hw j hz hj (by rw [updN_iI]; exact kk)
section P08C
variable {own : String} {idx : Nat} {y : MethodName} {b : ByteArray} {L : Nat} {r : Option FieldType} {rm : Room} {k a ci : Nat} {As : List Value} {qc : vw_C} {fs : List Value} {st0 : List Value}
theorem r_callVR {x : Value} (hb : S.1.1 = cc) (ho : S.1.2.1 = own) (q : Nat) (hd : decode cc pc = .ok (.invokevirtual idx, 3)) (hq : pc + 3 = q) (hl0 : pCV own idx y b L r k) (hc : CtR y b L r rm (.ref a :: As) w n x) (hk : As.length = k) (hst : st0 = As.reverse ++ .ref a :: st) (hw : w a = some (eO ci fs)) (hci : vwCl[ci]? = some qc) (hqc : qc.1 = y.cls) (hR : rm.frames + 1 ≤ S.2.1.frames ∧ 8 + (L + 11) + rm.locals ≤ S.2.1.locals) (hcat : (st.map fun v => v.category).sum ≤ 8) (hz : rm.cells = 0 ∧ rm.slots = 0) (hce : ce ≤ S.2.1.cells) (hsl : sl ≤ S.2.1.slots)
    (kk : Wp S q lv (x :: st) w n ce sl) : Wp S pc lv st0 w n ce sl := by
  refine r_callV hb ho q hd hq hl0 hc hk hst hw hci hqc hR hcat (by rw [hz.1]; exact hce) (by rw [hz.2]; exact hsl) fun v w1 n1 hv => ?_
  obtain ⟨x, rfl, rfl, rfl, rfl⟩ := hv
  rw [hz.1, hz.2]
  exact kk
theorem r_callSR {x : Value} (hb : S.1.1 = cc) (ho : S.1.2.1 = own) (q : Nat) (hd : decode cc pc = .ok (.invokestatic idx, 3)) (hq : pc + 3 = q) (hl0 : pCS own idx y b L r k) (hc : CtR y b L r rm As w n x) (hk : As.length = k) (hst : st0 = As.reverse ++ st) (hR : rm.frames + 1 ≤ S.2.1.frames ∧ 8 + (L + 11) + rm.locals ≤ S.2.1.locals) (hcat : (st.map fun v => v.category).sum ≤ 8) (hz : rm.cells = 0 ∧ rm.slots = 0) (hce : ce ≤ S.2.1.cells) (hsl : sl ≤ S.2.1.slots)
    (kk : Wp S q lv (x :: st) w n ce sl) : Wp S pc lv st0 w n ce sl := by
  refine r_callS hb ho q hd hq hl0 hc hk hst hR hcat (by rw [hz.1]; exact hce) (by rw [hz.2]; exact hsl) fun v w1 n1 hv => ?_
  obtain ⟨x, rfl, rfl, rfl, rfl⟩ := hv
  rw [hz.1, hz.2]
  exact kk
theorem r_callV1 {Q : Value → PW → Nat → Prop} (hb : S.1.1 = cc) (ho : S.1.2.1 = own) (q : Nat) (hd : decode cc pc = .ok (.invokevirtual idx, 3)) (hq : pc + 3 = q) (hl0 : pCV own idx y b L r k) (hc : Ct1 y b L r rm (.ref a :: As) w n Q) (hk : As.length = k) (hst : st0 = As.reverse ++ .ref a :: st) (hw : w a = some (eO ci fs)) (hci : vwCl[ci]? = some qc) (hqc : qc.1 = y.cls) (hR : rm.frames + 1 ≤ S.2.1.frames ∧ 8 + (L + 11) + rm.locals ≤ S.2.1.locals) (hcat : (st.map fun v => v.category).sum ≤ 8) (hz : rm.cells = 0 ∧ rm.slots = 0) (hce : ce ≤ S.2.1.cells) (hsl : sl ≤ S.2.1.slots)
    (kk : ∀ x w1 n1, Q x w1 n1 → Wp S q lv (x :: st) w1 n1 ce sl) : Wp S pc lv st0 w n ce sl := by
  refine r_callV hb ho q hd hq hl0 hc hk hst hw hci hqc hR hcat (by rw [hz.1]; exact hce) (by rw [hz.2]; exact hsl) fun v w1 n1 hv => ?_
  obtain ⟨x, rfl, hx⟩ := hv
  rw [hz.1, hz.2]
  exact kk x w1 n1 hx
theorem r_callV0 {Q : PW → Nat → Prop} (hb : S.1.1 = cc) (ho : S.1.2.1 = own) (q : Nat) (hd : decode cc pc = .ok (.invokevirtual idx, 3)) (hq : pc + 3 = q) (hl0 : pCV own idx y b L r k) (hc : Ct0 y b L r rm (.ref a :: As) w n Q) (hk : As.length = k) (hst : st0 = As.reverse ++ .ref a :: st) (hw : w a = some (eO ci fs)) (hci : vwCl[ci]? = some qc) (hqc : qc.1 = y.cls) (hR : rm.frames + 1 ≤ S.2.1.frames ∧ 8 + (L + 11) + rm.locals ≤ S.2.1.locals) (hcat : (st.map fun v => v.category).sum ≤ 8) (hz : rm.cells = 0 ∧ rm.slots = 0) (hce : ce ≤ S.2.1.cells) (hsl : sl ≤ S.2.1.slots)
    (kk : ∀ w1 n1, Q w1 n1 → Wp S q lv st w1 n1 ce sl) : Wp S pc lv st0 w n ce sl := by
  refine r_callV hb ho q hd hq hl0 hc hk hst hw hci hqc hR hcat (by rw [hz.1]; exact hce) (by rw [hz.2]; exact hsl) fun v w1 n1 hv => ?_
  obtain ⟨rfl, hx⟩ := hv
  rw [hz.1, hz.2]
  exact kk w1 n1 hx
theorem r_callS0 {Q : PW → Nat → Prop} (hb : S.1.1 = cc) (ho : S.1.2.1 = own) (q : Nat) (hd : decode cc pc = .ok (.invokestatic idx, 3)) (hq : pc + 3 = q) (hl0 : pCS own idx y b L r k) (hc : Ct0 y b L r rm As w n Q) (hk : As.length = k) (hst : st0 = As.reverse ++ st) (hR : rm.frames + 1 ≤ S.2.1.frames ∧ 8 + (L + 11) + rm.locals ≤ S.2.1.locals) (hcat : (st.map fun v => v.category).sum ≤ 8) (hz : rm.cells = 0 ∧ rm.slots = 0) (hce : ce ≤ S.2.1.cells) (hsl : sl ≤ S.2.1.slots)
    (kk : ∀ w1 n1, Q w1 n1 → Wp S q lv st w1 n1 ce sl) : Wp S pc lv st0 w n ce sl := by
  refine r_callS hb ho q hd hq hl0 hc hk hst hR hcat (by rw [hz.1]; exact hce) (by rw [hz.2]; exact hsl) fun v w1 n1 hv => ?_
  obtain ⟨rfl, hx⟩ := hv
  rw [hz.1, hz.2]
  exact kk w1 n1 hx
theorem r_callN0 {Q : PW → Nat → Prop} (hb : S.1.1 = cc) (ho : S.1.2.1 = own) (q : Nat) (hd : decode cc pc = .ok (.invokespecial idx, 3)) (hq : pc + 3 = q) (hl0 : pCN own idx y b L k) (hc : Ct0 y b L none rm (.ref a :: As) w n Q) (hk : As.length = k) (hst : st0 = As.reverse ++ .ref a :: st) (hR : rm.frames + 1 ≤ S.2.1.frames ∧ 8 + (L + 11) + rm.locals ≤ S.2.1.locals) (hcat : (st.map fun v => v.category).sum ≤ 8) (hce : ce + rm.cells ≤ S.2.1.cells) (hsl : sl + rm.slots ≤ S.2.1.slots)
    (kk : ∀ w1 n1, Q w1 n1 → Wp S q lv st w1 n1 (ce + rm.cells) (sl + rm.slots)) : Wp S pc lv st0 w n ce sl := by
  refine r_callN hb ho q hd hq hl0 hc hk hst hR hcat hce hsl fun v w1 n1 hv => ?_
  obtain ⟨rfl, hx⟩ := hv
  exact kk w1 n1 hx
end P08C
end P08
/-! a Text: its letters, at t and t + 1 -/
def tx (w : PW) (t R : Nat) (L : List Int32) : Prop := w t = some (eO 7 [.ref (t + 1), .int (iI ((L.length : Nat) : Int))]) ∧ L.length ≤ R ∧ ∃ g : Nat → Int32, w (t + 1) = some (eI R g) ∧ ∀ i, i < L.length → g i = L.getD i 0
theorem tx.off {w w1 : PW} {t R lo hi : Nat} {L : List Int32} (h : tx w t R L) (o : off w w1 lo hi) (d : t + 2 ≤ lo ∨ hi ≤ t) : tx w1 t R L := by
  obtain ⟨h0, h1, g, h2, h3⟩ := h
  exact ⟨(o _ (by omega)).trans h0, h1, g, (o _ (by omega)).trans h2, h3⟩
def textAt (L : List Int32) (z : Int) : Int32 := if 0 ≤ z ∧ z < (L.length : Int) then L.getD z.toNat 0 else iI (-1)
theorem textAt_in {L : List Int32} {z : Int} (h : 0 ≤ z) (h1 : z < (L.length : Int)) : textAt L z = L.getD z.toNat 0 := if_pos ⟨h, h1⟩
theorem textAt_out {L : List Int32} {z : Int} (h : z < 0 ∨ (L.length : Int) ≤ z) : textAt L z = iI (-1) := if_neg (by omega)
theorem textAt_nat {L : List Int32} {i : Nat} (h1 : i < L.length) : textAt L (i : Int) = L.getD i 0 := by rw [textAt_in (by omega) (by omega)]; rfl
/-- letters [a, b) -/
def slice (L : List Int32) (a b : Nat) : List Int32 := (L.take b).drop a
theorem slice_len (L : List Int32) (a b : Nat) : (slice L a b).length = min b L.length - a := by simp [slice]
theorem slice_get (L : List Int32) (a b i : Nat) (h : a + i < b) : (slice L a b).getD i 0 = L.getD (a + i) 0 := by
  simp [slice, List.getD_eq_getElem?_getD, List.getElem?_drop, List.getElem?_take, h]
theorem slice_nil (L : List Int32) {a b : Nat} (h : b ≤ a) : slice L a b = [] := by
  apply List.eq_nil_of_length_eq_zero
  rw [slice_len]; omega
theorem slice_all (L : List Int32) : slice L 0 L.length = L := by simp [slice]
theorem slice_add (L : List Int32) {a b : Nat} (h : a ≤ b) (h2 : b < L.length) : slice L a (b + 1) = slice L a b ++ [L.getD b 0] := by
  apply List.ext_getElem?
  intro i
  simp only [slice, List.getElem?_drop, List.getElem?_take, List.getElem?_append, List.length_drop, List.length_take, List.getD_eq_getElem?_getD]
  by_cases h3 : i < b - a
  · simp [show a + i < b + 1 by omega, show a + i < b by omega, show i < min b L.length - a by omega]
  · by_cases h4 : i = b - a
    · subst h4
      simp [show a + (b - a) = b by omega, show ¬ (b - a < min b L.length - a) by omega, show b - a - (min b L.length - a) = 0 by omega, h2]
    · simp [show ¬ (a + i < b + 1) by omega, show ¬ (i < min b L.length - a) by omega]
      omega
theorem slice_more (L : List Int32) {a b c : Nat} (h : L.length ≤ b) (h2 : L.length ≤ c) : slice L a b = slice L a c := by simp [slice, List.take_of_length_le h, List.take_of_length_le h2]
theorem getD_app1 (L M : List Int32) {i : Nat} (h : i < L.length) : (L ++ M).getD i 0 = L.getD i 0 := by simp [List.getD_eq_getElem?_getD, List.getElem?_append, h]
theorem getD_app2 (L M : List Int32) {i : Nat} (h : L.length ≤ i) : (L ++ M).getD i 0 = M.getD (i - L.length) 0 := by simp [List.getD_eq_getElem?_getD, List.getElem?_append, Nat.not_lt.mpr h]

theorem r_widen {S : PS} {pc : Nat} {lv : List (Nat × Value)} {st : List Value} {w : PW} {n ce sl : Nat} (ce1 sl1 : Nat) (h1 : ce ≤ ce1) (h2 : sl ≤ sl1) (kk : Wp S pc lv st w n ce1 sl1) : Wp S pc lv st w n ce sl := by
  intro D p l e s m args below meth c H locs ls Q hC hX hl hH hn hdm hs hS
  exact W.widen h1 h2 (kk D p l e s m args below meth c H locs ls Q hC hX hl hH hn hdm hs hS)
def cutL (L : List Int32) (p k : Nat) : List Int32 := L.take p ++ L.drop (p + k)
theorem cutL_len {L : List Int32} {p k : Nat} (h : p + k ≤ L.length) : (cutL L p k).length = L.length - k := by simp [cutL]; omega
theorem cutL_get {L : List Int32} {p k : Nat} (h : p + k ≤ L.length) (j : Nat) : (cutL L p k).getD j 0 = if j < p then L.getD j 0 else L.getD (j + k) 0 := by
  have hp : (L.take p).length = p := by simp; omega
  unfold cutL
  split
  · rename_i h1
    rw [getD_app1 _ _ (by omega)]
    simp [List.getD_eq_getElem?_getD, List.getElem?_take, h1]
  · rename_i h1
    rw [getD_app2 _ _ (by omega), hp]
    simp [List.getD_eq_getElem?_getD, List.getElem?_drop, show p + k + (j - p) = j + k by omega]
def putL (L : List Int32) (p : Nat) (M : List Int32) : List Int32 := L.take p ++ M ++ L.drop p
theorem putL_len {L M : List Int32} {p : Nat} (h : p ≤ L.length) : (putL L p M).length = L.length + M.length := by simp [putL]; omega
theorem putL_get {L M : List Int32} {p : Nat} (h : p ≤ L.length) (j : Nat) : (putL L p M).getD j 0 = if j < p then L.getD j 0 else if j < p + M.length then M.getD (j - p) 0 else L.getD (j - M.length) 0 := by
  have hp : (L.take p).length = p := by simp; omega
  unfold putL
  split
  · rename_i h1
    rw [getD_app1 _ _ (by simp; omega), getD_app1 _ _ (by omega)]
    simp [List.getD_eq_getElem?_getD, List.getElem?_take, h1]
  · rename_i h1
    split
    · rename_i h2
      rw [getD_app1 _ _ (by simp; omega), getD_app2 _ _ (by omega), hp]
    · rename_i h2
      rw [getD_app2 _ _ (by simp; omega)]
      simp only [List.length_append, hp]
      simp [List.getD_eq_getElem?_getD, List.getElem?_drop, show p + (j - (p + M.length)) = j - M.length by omega]
section P08B
variable {S : PS} {cc : ByteArray} {pc : Nat} {lv : List (Nat × Value)} {st : List Value} {w : PW} {n ce sl : Nat}
theorem bI_one {b : Bool} : bI b = iI 1 ↔ b = true := by cases b <;> decide
theorem r_icmpB_ne {b : Bool} {off : Int} (hb : S.1.1 = cc) (q tgt : Nat) (hd : decode cc pc = .ok (.if_icmp .ne off, 3)) (hq : pc + 3 = q) (ht : (pc : Int) + off = (tgt : Int)) (kt : b = false → Wp S tgt lv st w n ce sl) (kf : b = true → Wp S q lv st w n ce sl) : Wp S pc lv (.int (iI 1) :: .int (bI b) :: st) w n ce sl :=
  r_icmpR_ne hb q tgt hd hq ht (fun h => kt (by cases b <;> first | rfl | exact absurd rfl h)) (fun h => kf (bI_one.mp h))
theorem r_icmpB_eq {b : Bool} {off : Int} (hb : S.1.1 = cc) (q tgt : Nat) (hd : decode cc pc = .ok (.if_icmp .eq off, 3)) (hq : pc + 3 = q) (ht : (pc : Int) + off = (tgt : Int)) (kt : b = true → Wp S tgt lv st w n ce sl) (kf : b = false → Wp S q lv st w n ce sl) : Wp S pc lv (.int (iI 1) :: .int (bI b) :: st) w n ce sl :=
  r_icmpR_eq hb q tgt hd hq ht (fun h => kt (bI_one.mp h)) (fun h => kf (by cases b <;> first | rfl | exact absurd rfl h))
end P08B
theorem bI_T {b : Bool} (h : b = true) : iI 1 = bI b := by rw [h]; rfl
theorem bI_F {b : Bool} (h : b = false) : iI 0 = bI b := by rw [h]; rfl
theorem bI_nar (b : Bool) : narrow .boolean (.int (bI b)) = .int (bI b) := by cases b <;> rfl
/-! pure: comments -/
abbrev Nt : Type := (List Int32 × List Int32 × List Int32) × Nat × Bool × Nat × Nat × Int32
def nP (x : Nt) : List Int32 := x.1.1
def nQ (x : Nt) : List Int32 := x.1.2.1
def nS (x : Nt) : List Int32 := x.1.2.2
def nNum (x : Nt) : Nat := x.2.1
def nK (x : Nt) : Bool := x.2.2.1
def nB (x : Nt) : Nat := x.2.2.2.1
def nE (x : Nt) : Nat := x.2.2.2.2.1
def nW (x : Nt) : Int32 := x.2.2.2.2.2
def ntE (a : Nat) (x : Nt) : PE := eO 3 [.ref (a + 1), .ref (a + 3), .ref (a + 5), .int (iI ((nNum x : Nat) : Int)), .int (bI (nK x)), .int (iI ((nB x : Nat) : Int)), .int (iI ((nE x : Nat) : Int)), .int (nW x)]
def nt (w : PW) (a : Nat) (x : Nt) : Prop := w a = some (eO 3 [.ref (a + 1), .ref (a + 3), .ref (a + 5), .int (iI ((nNum x : Nat) : Int)), .int (bI (nK x)), .int (iI ((nB x : Nat) : Int)), .int (iI ((nE x : Nat) : Int)), .int (nW x)]) ∧ tx w (a + 1) 6 (nP x) ∧ tx w (a + 3) 16 (nQ x) ∧ tx w (a + 5) 6 (nS x) ∧ nNum x < 1000000 ∧ nB x ≤ 200 ∧ nE x ≤ 200
theorem nt.off {w w1 : PW} {a lo hi : Nat} {x : Nt} (h : nt w a x) (o : off w w1 lo hi) (d : a + 7 ≤ lo ∨ hi ≤ a) : nt w1 a x := by
  obtain ⟨h0, h1, h2, h3, h4⟩ := h
  exact ⟨(o _ (by omega)).trans h0, h1.off o (by omega), h2.off o (by omega), h3.off o (by omega), h4⟩
def mvIns (p m : Nat) (x : Nt) : Nt := (x.1, nNum x, nK x, (if p ≤ nB x then nB x + m else nB x), (if p ≤ nB x ∨ p < nE x then nE x + m else nE x), nW x)
def bndD (b p m : Nat) : Nat := if p + m ≤ b then b - m else min b p
def mvDel (p m : Nat) (x : Nt) : Nt := (x.1, nNum x, (nK x && decide (bndD (nB x) p m < bndD (nE x) p m)), bndD (nB x) p m, bndD (nE x) p m, nW x)
def mvRep (len : Nat) (x : Nt) : Nt := (x.1, nNum x, false, min (nB x) len, min (nE x) len, nW x)
def qtN (D : List Int32) (x : Nt) : Nt := ((slice D (nB x - 6) (nB x), slice D (nB x) (nE x), slice D (nE x) (nE x + 6)), x.2)
def atN (b e : Nat) (x : Nt) : Nt := (x.1, nNum x, true, b, e, nW x)
def twN (x y : Nt) : Bool := decide (nK x = true ∧ nK y = true ∧ nB x = nB y ∧ nE x = nE y)
def cvN (x : Nt) (i : Int) : Bool := decide (nK x = true ∧ (nB x : Int) ≤ i ∧ i < (nE x : Int))
def sbN (x y : Nt) : Bool := decide (nB x < nB y ∨ (nB x = nB y ∧ (nE y < nE x ∨ (nE x = nE y ∧ nNum x < nNum y))))
def runL (c : Nat → Bool) : Nat → Nat → Nat
  | 0, a => a
  | k + 1, a => if c a = true then runL c k (a + 1) else a
theorem runL_t {c : Nat → Bool} {N a : Nat} (h : a < N) (hc : c a = true) : runL c (N - a) a = runL c (N - (a + 1)) (a + 1) := by
  rw [show N - a = (N - (a + 1)) + 1 by omega]
  simp [runL, hc]
theorem runL_f {c : Nat → Bool} {N a : Nat} (h : N ≤ a ∨ c a = false) : runL c (N - a) a = a := by
  by_cases h1 : N ≤ a
  · rw [show N - a = 0 by omega]; rfl
  · rw [show N - a = (N - (a + 1)) + 1 by omega]
    simp [runL, h.resolve_left h1]
theorem runL_le (c : Nat → Bool) : ∀ k a, runL c k a ≤ a + k := by
  intro k
  induction k with
  | zero => intro a; simp [runL]
  | succ k ih =>
    intro a
    simp only [runL]
    split
    · have := ih (a + 1); omega
    · omega
def lkcB (P D : List Int32) (s a : Nat) : Bool := decide (a < s ∧ P.getD (P.length - 1 - a) 0 = D.getD (s - 1 - a) 0)
def lkcS (F D : List Int32) (e b : Nat) : Bool := decide (e + b < D.length ∧ F.getD b 0 = D.getD (e + b) 0)
def lkB (P D : List Int32) (s : Nat) : Nat := runL (lkcB P D s) P.length 0
def lkS (F D : List Int32) (e : Nat) : Nat := runL (lkcS F D e) F.length 0
theorem lkB_le (P D : List Int32) (s : Nat) : lkB P D s ≤ P.length := by have := runL_le (lkcB P D s) P.length 0; unfold lkB; omega
theorem lkS_le (F D : List Int32) (e : Nat) : lkS F D e ≤ F.length := by have := runL_le (lkcS F D e) F.length 0; unfold lkS; omega
/-- no letter is like the mark of a place outside -/
def okL (L : List Int32) : Prop := ∀ c ∈ L, c ≠ iI (-1)
theorem okL.get {L : List Int32} (h : okL L) {i : Nat} (hi : i < L.length) : L.getD i 0 ≠ iI (-1) := by
  rw [List.getD_eq_getElem?_getD, List.getElem?_eq_getElem hi]
  exact h _ (List.getElem_mem hi)
theorem okL.slice {L : List Int32} (h : okL L) (a b : Nat) : okL (slice L a b) := fun c hc => h c (List.mem_of_mem_take (List.mem_of_mem_drop hc))
theorem okL.app {L M : List Int32} (h : okL L) (h2 : okL M) : okL (L ++ M) := fun c hc => (List.mem_append.mp hc).elim (h c) (h2 c)
theorem okL.cut {L : List Int32} (h : okL L) (p k : Nat) : okL (cutL L p k) := fun c hc => (List.mem_append.mp hc).elim (fun h1 => h c (List.mem_of_mem_take h1)) (fun h1 => h c (List.mem_of_mem_drop h1))
theorem okL.put {L M : List Int32} (h : okL L) (h2 : okL M) (p : Nat) : okL (putL L p M) := fun c hc => (List.mem_append.mp hc).elim (fun h1 => (List.mem_append.mp h1).elim (fun h3 => h c (List.mem_of_mem_take h3)) (h2 c)) (fun h1 => h c (List.mem_of_mem_drop h1))
/-- the score of a comment for [s, e), d: the edit distance -/
def scN (x : Nt) (D : List Int32) (s e d : Nat) : Int := 60 - 10 * (d : Int) + 4 * ((lkB (nP x) D s + lkS (nS x) D e : Nat) : Int) - (((s : Int) - (nB x : Int)).natAbs / 5 : Nat)
theorem iI_tdiv5 {a : Nat} (h : a < 2147483648) : iI ((a : Nat) : Int) / iI 5 = iI ((a / 5 : Nat) : Int) := by
  rw [iI_nat, iI_nat, show iI 5 = nI 5 from rfl]
  exact pk_div h (by decide) (by decide)
end
section
abbrev rm_X7_at : Room := { frames := 0, cells := 0, slots := 0, locals := 0 }
set_option maxHeartbeats 4000000 in
set_option maxRecDepth 100000 in
/-- Text.at -/
theorem c_X7_at (t R : Nat) (L : List Int32) (z : Int) {w : PW} {n : Nat} (hT : tx w t R L) (hR : R ≤ 200) (hz : -2147483648 ≤ z ∧ z < 2147483648) : CtR yX7_at cX7_at 2 (some .int) rm_X7_at [.ref t, .int (iI (z))] w n (.int (textAt L z)) := by
  obtain ⟨f0, f1, g, f2, f3⟩ := id hT
  refine Ctr.of rfl (Nat.le_of_ble_eq_true rfl) fun S hS => ?_
  have hb : S.1.1 = cX7_at := by rw [hS]; rfl
  have ho : S.1.2.1 = RX7 := by rw [hS]; rfl
  have hnL : S.1.2.2.1 = 2 := by rw [hS]; rfl
  have hR0 : S.2.1 = rm_X7_at := by rw [hS]; rfl
  show Wp S 0 [(0, .ref t), (1, .int (iI (z)))] [] w n 0 0
  refine r_iload_n hb 1 dX7_at_0 rfl 1 rfl ?_
  refine r_if_lt hb 4 30 dX7_at_1 rfl (by decide) (by omega) (fun c1 => ?_) (fun c1 => ?_)
  · refine r_iconst hb 31 dX7_at_30 rfl ?_
    refine r_iret hS dX7_at_31 rfl rfl (Nat.zero_le _) (Nat.zero_le _) ?_
    exact ⟨_, rfl, congrArg Value.int (textAt_out (by omega)).symm, rfl, rfl⟩
  · refine r_iload_n hb 5 dX7_at_4 rfl 1 rfl ?_
    refine r_aload_n hb 6 dX7_at_5 rfl 0 rfl ?_
    refine r_get hb ho 9 dX7_at_6 rfl lk_X7_21 pf_X7_1 f0 rfl ?_
    refine r_icmp_ge hb 12 30 dX7_at_9 rfl (by decide) (by omega) (by omega) (fun c9 => ?_) (fun c9 => ?_)
    · refine r_iconst hb 31 dX7_at_30 rfl ?_
      refine r_iret hS dX7_at_31 rfl rfl (Nat.zero_le _) (Nat.zero_le _) ?_
      exact ⟨_, rfl, congrArg Value.int (textAt_out (by omega)).symm, rfl, rfl⟩
    · refine r_iload_n hb 13 dX7_at_12 rfl 1 rfl ?_
      refine r_aload_n hb 14 dX7_at_13 rfl 0 rfl ?_
      refine r_get hb ho 17 dX7_at_14 rfl lk_X7_15 pf_X7_0 f0 rfl ?_
      refine r_alen hb 18 dX7_at_17 rfl f2 (by decide) (((R : Nat) : Int)) rfl ?_
      refine r_icmp_ge hb 21 30 dX7_at_18 rfl (by decide) (by omega) (by omega) (fun c18 => ?_) (fun c18 => ?_)
      · exfalso; omega
      · refine r_aload_n hb 22 dX7_at_21 rfl 0 rfl ?_
        refine r_get hb ho 25 dX7_at_22 rfl lk_X7_15 pf_X7_0 f0 rfl ?_
        refine r_iload_n hb 26 dX7_at_25 rfl 1 rfl ?_
        refine r_iald hb 27 dX7_at_26 rfl f2 (((z)).toNat) (by omega) (⟨by omega, by omega⟩) ?_
        refine r_goto hb 31 dX7_at_27 (by decide) ?_
        refine r_iret hS dX7_at_31 rfl rfl (Nat.zero_le _) (Nat.zero_le _) ?_
        exact ⟨_, rfl, congrArg Value.int ((textAt_in (by omega) (by omega)).trans (f3 _ (by omega)).symm).symm, rfl, rfl⟩

abbrev rm_X7_empty : Room := { frames := 0, cells := 0, slots := 0, locals := 0 }
set_option maxHeartbeats 4000000 in
set_option maxRecDepth 100000 in
theorem c_X7_empty (t R : Nat) (L : List Int32) {w : PW} {n : Nat} (hT : tx w t R L) : Ct0 yX7_empty cX7_empty 1 none rm_X7_empty [.ref t] w n (fun w1 n1 => n = n1 ∧ tx w1 t R [] ∧ off w w1 t (t + 2)) := by
  obtain ⟨f0, f1, g, f2, f3⟩ := id hT
  refine Ctr.of rfl (Nat.le_of_ble_eq_true rfl) fun S hS => ?_
  have hb : S.1.1 = cX7_empty := by rw [hS]; rfl
  have ho : S.1.2.1 = RX7 := by rw [hS]; rfl
  have hnL : S.1.2.2.1 = 1 := by rw [hS]; rfl
  have hR0 : S.2.1 = rm_X7_empty := by rw [hS]; rfl
  show Wp S 0 [(0, .ref t)] [] w n 0 0
  refine r_aload_n hb 1 dX7_empty_0 rfl 0 rfl ?_
  refine r_iconst hb 2 dX7_empty_1 rfl ?_
  refine r_put hb ho 5 dX7_empty_2 rfl lk_X7_21 pf_X7_1 f0 (Nat.le_of_ble_eq_true rfl) ⟨rfl, rfl⟩ (fun w_2 hw_2 => ?_)
  have ow_2 := pset_off hw_2
  have xw_2 : w_2 t = some (eO 7 [.ref (t + 1), .int (iI 0)]) := by rw [hw_2]; exact pset_eq _ _ _
  have f2 : w_2 (t + 1) = some (eI R g) := (ow_2 _ (by omega)).trans f2
  refine r_vret hS dX7_empty_5 rfl (Nat.zero_le _) (Nat.zero_le _) ?_
  exact ⟨rfl, rfl, ⟨xw_2, Nat.zero_le _, g, f2, fun i hi => absurd hi (Nat.not_lt_zero _)⟩, ow_2.mono (by omega) (by omega)⟩

abbrev rm_X7_append : Room := { frames := 0, cells := 0, slots := 0, locals := 0 }
set_option maxHeartbeats 4000000 in
set_option maxRecDepth 100000 in
theorem c_X7_append (t R : Nat) (L : List Int32) (x : Int32) {w : PW} {n : Nat} (hT : tx w t R L) (hR : R ≤ 200) (hr : L.length < R) : Ct0 yX7_append cX7_append 2 none rm_X7_append [.ref t, .int x] w n (fun w1 n1 => n = n1 ∧ tx w1 t R (L ++ [x]) ∧ off w w1 t (t + 2)) := by
  obtain ⟨f0, f1, g, f2, f3⟩ := id hT
  refine Ctr.of rfl (Nat.le_of_ble_eq_true rfl) fun S hS => ?_
  have hb : S.1.1 = cX7_append := by rw [hS]; rfl
  have ho : S.1.2.1 = RX7 := by rw [hS]; rfl
  have hnL : S.1.2.2.1 = 2 := by rw [hS]; rfl
  have hR0 : S.2.1 = rm_X7_append := by rw [hS]; rfl
  show Wp S 0 [(0, .ref t), (1, .int x)] [] w n 0 0
  refine r_aload_n hb 1 dX7_append_0 rfl 0 rfl ?_
  refine r_get hb ho 4 dX7_append_1 rfl lk_X7_21 pf_X7_1 f0 rfl ?_
  refine r_if_lt hb 7 39 dX7_append_4 rfl (by decide) (by omega) (fun c4 => ?_) (fun c4 => ?_)
  · exfalso; omega
  · refine r_aload_n hb 8 dX7_append_7 rfl 0 rfl ?_
    refine r_get hb ho 11 dX7_append_8 rfl lk_X7_21 pf_X7_1 f0 rfl ?_
    refine r_aload_n hb 12 dX7_append_11 rfl 0 rfl ?_
    refine r_get hb ho 15 dX7_append_12 rfl lk_X7_15 pf_X7_0 f0 rfl ?_
    refine r_alen hb 16 dX7_append_15 rfl f2 (by decide) (((R : Nat) : Int)) rfl ?_
    refine r_icmp_ge hb 19 39 dX7_append_16 rfl (by decide) (by omega) (by omega) (fun c16 => ?_) (fun c16 => ?_)
    · exfalso; omega
    · refine r_aload_n hb 20 dX7_append_19 rfl 0 rfl ?_
      refine r_get hb ho 23 dX7_append_20 rfl lk_X7_15 pf_X7_0 f0 rfl ?_
      refine r_aload_n hb 24 dX7_append_23 rfl 0 rfl ?_
      refine r_get hb ho 27 dX7_append_24 rfl lk_X7_21 pf_X7_1 f0 rfl ?_
      refine r_iload_n hb 28 dX7_append_27 rfl 1 rfl ?_
      refine r_iast hb 29 dX7_append_28 rfl f2 L.length (by omega) (⟨by omega, by omega⟩) (fun w_28 hw_28 => ?_)
      have ow_28 := pset_off hw_28
      have xw_28 : w_28 (t + 1) = some (eI R (upd g L.length (x))) := by rw [hw_28]; exact pset_eq _ _ _
      have f0 : w_28 t = some (eO 7 [.ref (t + 1), .int (iI (((L.length : Nat) : Int)))]) := (ow_28 _ (by omega)).trans f0
      refine r_aload_n hb 30 dX7_append_29 rfl 0 rfl ?_
      refine r_dup hb 31 dX7_append_30 rfl rfl ?_
      refine r_get hb ho 34 dX7_append_31 rfl lk_X7_21 pf_X7_1 f0 rfl ?_
      refine r_iconst hb 35 dX7_append_34 rfl ?_
      refine r_iaddZ hb 36 (((L.length : Nat) : Int) + 1) dX7_append_35 rfl (by omega) ?_
      refine r_put hb ho 39 dX7_append_36 rfl lk_X7_21 pf_X7_1 f0 (Nat.le_of_ble_eq_true rfl) ⟨rfl, rfl⟩ (fun w_36 hw_36 => ?_)
      have ow_36 := pset_off hw_36
      have xw_36 : w_36 t = some (eO 7 [.ref (t + 1), .int (iI (((L.length : Nat) : Int) + 1))]) := by rw [hw_36]; exact pset_eq _ _ _
      have xw_28 : w_36 (t + 1) = some (eI R (upd g L.length (x))) := (ow_36 _ (by omega)).trans xw_28
      refine r_vret hS dX7_append_39 rfl (Nat.zero_le _) (Nat.zero_le _) ?_
      refine ⟨rfl, rfl, ⟨?_, by simp; omega, _, xw_28, ?_⟩, (ow_28.mono (by omega) (by omega)).trans (ow_36.mono (by omega) (by omega))⟩
      · rw [xw_36]
        simp [List.length_append]
      · intro i hi
        rw [List.length_append] at hi
        by_cases h : i = L.length
        · subst h
          rw [getD_app2 _ _ (by omega)]
          simp [upd]
        · have h2 : i < L.length := by simp at hi; omega
          rw [getD_app1 _ _ h2, ← f3 i h2]
          exact pk_un (by omega)

abbrev rm_X7_copyPart : Room := { frames := 1, cells := 0, slots := 0, locals := 21 }
set_option maxHeartbeats 4000000 in
set_option maxRecDepth 100000 in
theorem c_X7_copyPart (t R u Ru : Nat) (L M : List Int32) (a b : Int) (a0 b0 : Nat) {w : PW} {n : Nat} (hT : tx w t R L) (hM : tx w u Ru M) (hR : R ≤ 200) (hRu : Ru ≤ 200) (hd : t + 2 ≤ u ∨ u + 2 ≤ t) (ha : -2147483648 ≤ a ∧ a < 2147483648) (hbb : -2147483648 ≤ b ∧ b < 2147483648) (ha0 : (if 0 < a then a else 0) = (a0 : Int)) (hb0 : (if 0 < b then b else 0) = (b0 : Int)) (hlen : min b0 M.length - a0 ≤ R) : Ct0 yX7_copyPart cX7_copyPart 5 none rm_X7_copyPart [.ref t, .ref u, .int (iI (a)), .int (iI (b))] w n (fun w1 n1 => n = n1 ∧ tx w1 t R (slice M a0 b0) ∧ off w w1 t (t + 2)) := by
  obtain ⟨f0, f1, g, f2, f3⟩ := id hT
  refine Ctr.of rfl (Nat.le_of_ble_eq_true rfl) fun S hS => ?_
  have hb : S.1.1 = cX7_copyPart := by rw [hS]; rfl
  have ho : S.1.2.1 = RX7 := by rw [hS]; rfl
  have hnL : S.1.2.2.1 = 5 := by rw [hS]; rfl
  have hR0 : S.2.1 = rm_X7_copyPart := by rw [hS]; rfl
  show Wp S 0 [(0, .ref t), (1, .ref u), (2, .int (iI (a))), (3, .int (iI (b)))] [] w n 0 0
  refine r_aload_n hb 1 dX7_copyPart_0 rfl 0 rfl ?_
  refine r_iconst hb 2 dX7_copyPart_1 rfl ?_
  refine r_put hb ho 5 dX7_copyPart_2 rfl lk_X7_21 pf_X7_1 f0 (Nat.le_of_ble_eq_true rfl) ⟨rfl, rfl⟩ (fun w_2 hw_2 => ?_)
  have ow_2 := pset_off hw_2
  have xw_2 : w_2 t = some (eO 7 [.ref (t + 1), .int (iI 0)]) := by rw [hw_2]; exact pset_eq _ _ _
  have f2 : w_2 (t + 1) = some (eI R g) := (ow_2 _ (by omega)).trans f2
  have hM : tx w_2 u Ru M := hM.off ow_2 (by omega)
  refine r_iconst hb 6 dX7_copyPart_5 rfl ?_
  refine r_iload_n hb 7 dX7_copyPart_6 rfl 2 rfl ?_
  refine r_max hb ho 10 dX7_copyPart_7 rfl ck_X7_9 (by rw [hR0]; exact Nat.le_of_ble_eq_true rfl) (by rw [hR0]; exact Nat.le_of_ble_eq_true rfl) (by rw [hR0]; exact Nat.zero_le _) (by rw [hR0]; exact Nat.zero_le _) (by omega) (by omega) (((a0 : Nat) : Int)) (by omega) ?_
  refine r_istore [(4, .int (iI (((a0 : Nat) : Int)))), (0, .ref t), (1, .ref u), (2, .int (iI (a))), (3, .int (iI (b)))] hb 12 5 dX7_copyPart_10 rfl hnL (by decide) rfl ?_
  have lp : ∀ (d : Nat) (i : Nat) (wi : PW), M.length + 300 - i = d → (a0 ≤ i) → ((b0 ≤ a0 ∧ i = a0) ∨ i ≤ b0) → ((M.length ≤ a0 ∧ i = a0) ∨ i ≤ M.length) → (i < 2147483648) → (tx wi t R (slice M a0 i)) → (tx wi u Ru M) → (off w wi t (t + 2)) → Wp S 12 [(4, .int (iI (((i : Nat) : Int)))), (0, .ref t), (1, .ref u), (2, .int (iI (a))), (3, .int (iI (b)))] [] wi n 0 0 := by
    intro d
    induction d using Nat.strongRecOn with
    | _ d ih_lp =>
      intro i wi hd_lp hi hib him hiB hT1 hM hO
      have hM0 := hM.1
      have hMl := hM.2.1
      refine r_iload hb 14 dX7_copyPart_12 rfl 0 rfl ?_
      refine r_iload_n hb 15 dX7_copyPart_14 rfl 4 rfl ?_
      refine r_icmp_ge hb 18 43 dX7_copyPart_15 rfl (by decide) (by omega) (by omega) (fun c15 => ?_) (fun c15 => ?_)
      · refine r_vret hS dX7_copyPart_43 rfl (Nat.zero_le _) (Nat.zero_le _) ?_
        have e : slice M a0 i = slice M a0 b0 := by
          rcases Nat.lt_or_ge a0 b0 with h | h
          · first | (rw [show i = b0 by omega]) | exact slice_more M (by omega) (by omega)
          · rw [slice_nil M h]; first | rw [slice_nil M (by omega)] | (apply List.eq_nil_of_length_eq_zero; rw [slice_len]; omega)
        exact ⟨rfl, rfl, e ▸ hT1, hO⟩
      · refine r_iload hb 20 dX7_copyPart_18 rfl 0 rfl ?_
        refine r_aload_n hb 21 dX7_copyPart_20 rfl 2 rfl ?_
        refine r_get hb ho 24 dX7_copyPart_21 rfl lk_X7_21 pf_X7_1 hM0 rfl ?_
        refine r_icmp_ge hb 27 43 dX7_copyPart_24 rfl (by decide) (by omega) (by omega) (fun c24 => ?_) (fun c24 => ?_)
        · refine r_vret hS dX7_copyPart_43 rfl (Nat.zero_le _) (Nat.zero_le _) ?_
          have e : slice M a0 i = slice M a0 b0 := by
            rcases Nat.lt_or_ge a0 b0 with h | h
            · first | (rw [show i = b0 by omega]) | exact slice_more M (by omega) (by omega)
            · rw [slice_nil M h]; first | rw [slice_nil M (by omega)] | (apply List.eq_nil_of_length_eq_zero; rw [slice_len]; omega)
          exact ⟨rfl, rfl, e ▸ hT1, hO⟩
        · refine r_aload_n hb 28 dX7_copyPart_27 rfl 1 rfl ?_
          refine r_aload_n hb 29 dX7_copyPart_28 rfl 2 rfl ?_
          refine r_iload hb 31 dX7_copyPart_29 rfl 0 rfl ?_
          refine r_callVR (st := [.ref t]) hb ho 34 dX7_copyPart_31 rfl ck_X7_29 (c_X7_at (u) Ru M (((i : Nat) : Int)) hM (hRu) (by omega)) rfl rfl (hM0) rfl rfl (by rw [hR0]; exact ⟨Nat.le_of_ble_eq_true rfl, Nat.le_of_ble_eq_true rfl⟩) (Nat.le_of_ble_eq_true rfl) ⟨rfl, rfl⟩ (by rw [hR0]; exact Nat.zero_le _) (by rw [hR0]; exact Nat.zero_le _) ?_
          refine r_callV0 (st := []) hb ho 37 dX7_copyPart_34 rfl ck_X7_33 (c_X7_append t R (slice M a0 i) (textAt M (i : Int)) hT1 hR (by rw [slice_len]; omega)) rfl rfl (hT1.1) rfl rfl (by rw [hR0]; exact ⟨Nat.le_of_ble_eq_true rfl, Nat.le_of_ble_eq_true rfl⟩) (Nat.le_of_ble_eq_true rfl) ⟨rfl, rfl⟩ (by rw [hR0]; exact Nat.zero_le _) (by rw [hR0]; exact Nat.zero_le _) (fun w_34 nw_34 qw_34 => ?_)
          obtain ⟨rfl, hT1, ow_34⟩ := qw_34
          have hO := hO.trans (ow_34.mono (by omega) (by omega))
          have hM : tx w_34 u Ru M := hM.off ow_34 (by omega)
          have hM0 : w_34 u = some (eO 7 [.ref (u + 1), .int (iI (((M.length : Nat) : Int)))]) := (ow_34 _ (by omega)).trans hM0
          rw [textAt_nat (by omega)] at hT1
          refine r_iinc [(4, .int (iI (((i : Nat) : Int) + 1))), (0, .ref t), (1, .ref u), (2, .int (iI (a))), (3, .int (iI (b)))] hb 40 5 0 dX7_copyPart_37 rfl rfl hnL (by decide) (((i : Nat) : Int) + 1) (by omega) rfl ?_
          refine r_goto hb 12 dX7_copyPart_40 (by decide) ?_
          refine r_lv [(4, .int (iI (((i + 1 : Nat)) : Int))), (0, .ref t), (1, .ref u), (2, .int (iI a)), (3, .int (iI b))] [0, 1, 2, 3, 4] rfl ?_
          exact ih_lp (M.length + 300 - (i + 1)) (by omega) (i + 1) _ rfl (by omega) (by omega) (by omega) (by omega) (by rw [slice_add M hi (by omega)]; exact hT1) hM hO
  have hMl := hM.2.1
  refine r_lv [(4, .int (iI ((a0 : Nat) : Int))), (0, .ref t), (1, .ref u), (2, .int (iI a)), (3, .int (iI b))] [0, 1, 2, 3, 4] rfl ?_
  exact lp _ a0 _ rfl (Nat.le_refl _) (by omega) (by omega) (by omega) (by rw [slice_nil M (Nat.le_refl _)]; exact ⟨xw_2, Nat.zero_le _, g, f2, fun i hi => absurd hi (Nat.not_lt_zero _)⟩) hM (ow_2.mono (by omega) (by omega))

abbrev rm_X7_become : Room := { frames := 2, cells := 0, slots := 0, locals := 45 }
set_option maxHeartbeats 4000000 in
set_option maxRecDepth 100000 in
theorem c_X7_become (t R u Ru : Nat) (L M : List Int32) {w : PW} {n : Nat} (hT : tx w t R L) (hM : tx w u Ru M) (hR : R ≤ 200) (hRu : Ru ≤ 200) (hd : t + 2 ≤ u ∨ u + 2 ≤ t) (hlen : M.length ≤ R) : Ct0 yX7_become cX7_become 2 none rm_X7_become [.ref t, .ref u] w n (fun w1 n1 => n = n1 ∧ tx w1 t R M ∧ off w w1 t (t + 2)) := by
  have hM0 := hM.1
  have hMl := hM.2.1
  have hT0 := hT.1
  refine Ctr.of rfl (Nat.le_of_ble_eq_true rfl) fun S hS => ?_
  have hb : S.1.1 = cX7_become := by rw [hS]; rfl
  have ho : S.1.2.1 = RX7 := by rw [hS]; rfl
  have hnL : S.1.2.2.1 = 2 := by rw [hS]; rfl
  have hR0 : S.2.1 = rm_X7_become := by rw [hS]; rfl
  show Wp S 0 [(0, .ref t), (1, .ref u)] [] w n 0 0
  refine r_aload_n hb 1 dX7_become_0 rfl 0 rfl ?_
  refine r_aload_n hb 2 dX7_become_1 rfl 1 rfl ?_
  refine r_iconst hb 3 dX7_become_2 rfl ?_
  refine r_aload_n hb 4 dX7_become_3 rfl 1 rfl ?_
  refine r_get hb ho 7 dX7_become_4 rfl lk_X7_21 pf_X7_1 hM0 rfl ?_
  refine r_callV0 (st := []) hb ho 10 dX7_become_7 rfl ck_X7_25 (c_X7_copyPart t R u Ru L M 0 _ 0 M.length hT hM hR hRu hd (by omega) (by omega) rfl (by omega) (by omega)) rfl rfl (hT0) rfl rfl (by rw [hR0]; exact ⟨Nat.le_of_ble_eq_true rfl, Nat.le_of_ble_eq_true rfl⟩) (Nat.le_of_ble_eq_true rfl) ⟨rfl, rfl⟩ (by rw [hR0]; exact Nat.zero_le _) (by rw [hR0]; exact Nat.zero_le _) (fun w_7 nw_7 qw_7 => ?_)
  obtain ⟨rfl, hT1, hO⟩ := qw_7
  refine r_vret hS dX7_become_10 rfl (Nat.zero_le _) (Nat.zero_le _) ?_
  rw [slice_all] at hT1
  exact ⟨rfl, rfl, hT1, hO⟩

abbrev rm_X7_cutLetters : Room := { frames := 0, cells := 0, slots := 0, locals := 0 }
set_option maxHeartbeats 4000000 in
set_option maxRecDepth 100000 in
/-- Text.cutLetters -/
theorem c_X7_cutLetters (t R : Nat) (L : List Int32) (p k : Nat) {w : PW} {n : Nat} (hT : tx w t R L) (hR : R ≤ 200) (hp : p + k ≤ L.length) : Ct0 yX7_cutLetters cX7_cutLetters 4 none rm_X7_cutLetters [.ref t, .int (iI (((p : Nat) : Int))), .int (iI (((k : Nat) : Int)))] w n (fun w1 n1 => n = n1 ∧ tx w1 t R (cutL L p k) ∧ off w w1 t (t + 2)) := by
  obtain ⟨f0, f1, g, f2, f3⟩ := id hT
  refine Ctr.of rfl (Nat.le_of_ble_eq_true rfl) fun S hS => ?_
  have hb : S.1.1 = cX7_cutLetters := by rw [hS]; rfl
  have ho : S.1.2.1 = RX7 := by rw [hS]; rfl
  have hnL : S.1.2.2.1 = 4 := by rw [hS]; rfl
  have hR0 : S.2.1 = rm_X7_cutLetters := by rw [hS]; rfl
  show Wp S 0 [(0, .ref t), (1, .int (iI (((p : Nat) : Int)))), (2, .int (iI (((k : Nat) : Int))))] [] w n 0 0
  refine r_iload_n hb 1 dX7_cutLetters_0 rfl 1 rfl ?_
  refine r_if_lt hb 4 18 dX7_cutLetters_1 rfl (by decide) (by omega) (fun c1 => ?_) (fun c1 => ?_)
  · exfalso; omega
  · refine r_iload_n hb 5 dX7_cutLetters_4 rfl 2 rfl ?_
    refine r_if_lt hb 8 18 dX7_cutLetters_5 rfl (by decide) (by omega) (fun c5 => ?_) (fun c5 => ?_)
    · exfalso; omega
    · refine r_iload_n hb 9 dX7_cutLetters_8 rfl 2 rfl ?_
      refine r_aload_n hb 10 dX7_cutLetters_9 rfl 0 rfl ?_
      refine r_get hb ho 13 dX7_cutLetters_10 rfl lk_X7_21 pf_X7_1 f0 rfl ?_
      refine r_iload_n hb 14 dX7_cutLetters_13 rfl 1 rfl ?_
      refine r_isubZ hb 15 (((L.length : Nat) : Int) - ((p : Nat) : Int)) dX7_cutLetters_14 rfl (by omega) ?_
      refine r_icmp_le hb 18 19 dX7_cutLetters_15 rfl (by decide) (by omega) (by omega) (fun c15 => ?_) (fun c15 => ?_)
      · refine r_iload_n hb 20 dX7_cutLetters_19 rfl 1 rfl ?_
        refine r_iload_n hb 21 dX7_cutLetters_20 rfl 2 rfl ?_
        refine r_iaddZ hb 22 ((((p + k : Nat) : Nat) : Int)) dX7_cutLetters_21 rfl (by omega) ?_
        refine r_istore_n [(3, .int (iI ((((p + k : Nat) : Nat) : Int)))), (0, .ref t), (1, .int (iI (((p : Nat) : Int)))), (2, .int (iI (((k : Nat) : Int))))] hb 23 4 dX7_cutLetters_22 rfl rfl hnL (by decide) rfl ?_
        have lp : ∀ (d : Nat) (i : Nat) (wi : PW) (gi : Nat → Int32), L.length - i = d → (p + k ≤ i) → (i ≤ L.length) → (wi t = some (eO 7 [.ref (t + 1), .int (iI ((L.length : Nat) : Int))])) → (wi (t + 1) = some (eI R gi)) → (∀ j, j < i - k → gi j = if j < p then L.getD j 0 else L.getD (j + k) 0) → (∀ j, i - k ≤ j → j < L.length → gi j = L.getD j 0) → (off w wi t (t + 2)) → Wp S 23 [(3, .int (iI (((i : Nat) : Int)))), (0, .ref t), (1, .int (iI (((p : Nat) : Int)))), (2, .int (iI (((k : Nat) : Int))))] [] wi n 0 0 := by
          intro d
          induction d using Nat.strongRecOn with
          | _ d ih_lp =>
            intro i wi gi hd_lp hi hi2 f0 f2 hlo hhi hO
            refine r_iload_n hb 24 dX7_cutLetters_23 rfl 0 rfl ?_
            refine r_aload_n hb 25 dX7_cutLetters_24 rfl 1 rfl ?_
            refine r_get hb ho 28 dX7_cutLetters_25 rfl lk_X7_21 pf_X7_1 f0 rfl ?_
            refine r_icmp_ge hb 31 60 dX7_cutLetters_28 rfl (by decide) (by omega) (by omega) (fun c28 => ?_) (fun c28 => ?_)
            · refine r_aload_n hb 61 dX7_cutLetters_60 rfl 1 rfl ?_
              refine r_dup hb 62 dX7_cutLetters_61 rfl rfl ?_
              refine r_get hb ho 65 dX7_cutLetters_62 rfl lk_X7_21 pf_X7_1 f0 rfl ?_
              refine r_iload_n hb 66 dX7_cutLetters_65 rfl 3 rfl ?_
              refine r_isubZ hb 67 ((((L.length - k : Nat) : Nat) : Int)) dX7_cutLetters_66 rfl (by omega) ?_
              refine r_put hb ho 70 dX7_cutLetters_67 rfl lk_X7_21 pf_X7_1 f0 (Nat.le_of_ble_eq_true rfl) ⟨rfl, rfl⟩ (fun w_67 hw_67 => ?_)
              have ow_67 := pset_off hw_67
              have xw_67 : w_67 t = some (eO 7 [.ref (t + 1), .int (iI ((((L.length - k : Nat) : Nat) : Int)))]) := by rw [hw_67]; exact pset_eq _ _ _
              have f2 : w_67 (t + 1) = some (eI R gi) := (ow_67 _ (by omega)).trans f2
              refine r_vret hS dX7_cutLetters_70 rfl (Nat.zero_le _) (Nat.zero_le _) ?_
              refine ⟨rfl, rfl, ⟨?_, by rw [cutL_len hp]; omega, gi, f2, ?_⟩, hO.trans (ow_67.mono (by omega) (by omega))⟩
              · rw [xw_67, cutL_len hp]
              · intro j hj
                rw [cutL_len hp] at hj
                rw [cutL_get hp]
                exact hlo j (by omega)
            · refine r_iload_n hb 32 dX7_cutLetters_31 rfl 0 rfl ?_
              refine r_aload_n hb 33 dX7_cutLetters_32 rfl 1 rfl ?_
              refine r_get hb ho 36 dX7_cutLetters_33 rfl lk_X7_15 pf_X7_0 f0 rfl ?_
              refine r_alen hb 37 dX7_cutLetters_36 rfl f2 (by decide) (((R : Nat) : Int)) rfl ?_
              refine r_icmp_ge hb 40 60 dX7_cutLetters_37 rfl (by decide) (by omega) (by omega) (fun c37 => ?_) (fun c37 => ?_)
              · exfalso; omega
              · refine r_aload_n hb 41 dX7_cutLetters_40 rfl 1 rfl ?_
                refine r_get hb ho 44 dX7_cutLetters_41 rfl lk_X7_15 pf_X7_0 f0 rfl ?_
                refine r_iload_n hb 45 dX7_cutLetters_44 rfl 0 rfl ?_
                refine r_iload_n hb 46 dX7_cutLetters_45 rfl 3 rfl ?_
                refine r_isubZ hb 47 ((((i - k : Nat) : Nat) : Int)) dX7_cutLetters_46 rfl (by omega) ?_
                refine r_aload_n hb 48 dX7_cutLetters_47 rfl 1 rfl ?_
                refine r_get hb ho 51 dX7_cutLetters_48 rfl lk_X7_15 pf_X7_0 f0 rfl ?_
                refine r_iload_n hb 52 dX7_cutLetters_51 rfl 0 rfl ?_
                refine r_iald hb 53 dX7_cutLetters_52 rfl f2 i (by omega) (⟨by omega, by omega⟩) ?_
                refine r_iast hb 54 dX7_cutLetters_53 rfl f2 (((i - k : Nat))) (by omega) (⟨by omega, by omega⟩) (fun w_53 hw_53 => ?_)
                have ow_53 := pset_off hw_53
                have xw_53 : w_53 (t + 1) = some (eI R (upd gi (((i - k : Nat))) ((gi i)))) := by rw [hw_53]; exact pset_eq _ _ _
                have f0 : w_53 t = some (eO 7 [.ref (t + 1), .int (iI (((L.length : Nat) : Int)))]) := (ow_53 _ (by omega)).trans f0
                refine r_iinc [(3, .int (iI (((i : Nat) : Int) + 1))), (0, .ref t), (1, .int (iI (((p : Nat) : Int)))), (2, .int (iI (((k : Nat) : Int))))] hb 57 4 0 dX7_cutLetters_54 rfl rfl hnL (by decide) (((i : Nat) : Int) + 1) (by omega) rfl ?_
                refine r_goto hb 23 dX7_cutLetters_57 (by decide) ?_
                refine r_lv [(3, .int (iI (((i + 1 : Nat)) : Int))), (0, .ref t), (1, .int (iI ((p : Nat) : Int))), (2, .int (iI ((k : Nat) : Int)))] [0, 1, 2, 3] rfl ?_
                refine ih_lp (L.length - (i + 1)) (by omega) (i + 1) _ _ rfl (by omega) (by omega) f0 xw_53 ?_ ?_ (hO.trans (ow_53.mono (by omega) (by omega)))
                · intro j hj
                  by_cases h : j = i - k
                  · subst h
                    rw [if_neg (by omega), show i - k + k = i by omega]
                    simp only [upd, if_true]
                    exact hhi i (by omega) (by omega)
                  · rw [← hlo j (by omega)]
                    exact pk_un (by omega)
                · intro j hj hj2
                  rw [← hhi j (by omega) hj2]
                  exact pk_un (by omega)
        refine r_lv [(3, .int (iI (((p + k : Nat)) : Int))), (0, .ref t), (1, .int (iI ((p : Nat) : Int))), (2, .int (iI ((k : Nat) : Int)))] [0, 1, 2, 3] rfl ?_
        exact lp _ (p + k) _ _ rfl (Nat.le_refl _) hp f0 f2 (fun j hj => by rw [if_pos (by omega)]; exact f3 j (by omega)) (fun j _ hj => f3 j hj) (off.rfl' _ _ _)
      · exfalso; omega

abbrev rm_X7_putLetters : Room := { frames := 1, cells := 0, slots := 0, locals := 21 }
set_option maxHeartbeats 4000000 in
set_option maxRecDepth 100000 in
/-- Text.putLetters -/
theorem c_X7_putLetters (t R u Ru : Nat) (L M : List Int32) (p : Nat) {w : PW} {n : Nat} (hT : tx w t R L) (hM : tx w u Ru M) (hR : R ≤ 200) (hRu : Ru ≤ 200) (hd : t + 2 ≤ u ∨ u + 2 ≤ t) (hp : p ≤ L.length) (hm : L.length + M.length ≤ R) : Ct0 yX7_putLetters cX7_putLetters 5 none rm_X7_putLetters [.ref t, .int (iI (((p : Nat) : Int))), .ref u] w n (fun w1 n1 => n = n1 ∧ tx w1 t R (putL L p M) ∧ off w w1 t (t + 2)) := by
  obtain ⟨f0, f1, g, f2, f3⟩ := id hT
  have hM0 := hM.1
  have hMl := hM.2.1
  refine Ctr.of rfl (Nat.le_of_ble_eq_true rfl) fun S hS => ?_
  have hb : S.1.1 = cX7_putLetters := by rw [hS]; rfl
  have ho : S.1.2.1 = RX7 := by rw [hS]; rfl
  have hnL : S.1.2.2.1 = 5 := by rw [hS]; rfl
  have hR0 : S.2.1 = rm_X7_putLetters := by rw [hS]; rfl
  show Wp S 0 [(0, .ref t), (1, .int (iI (((p : Nat) : Int)))), (2, .ref u)] [] w n 0 0
  refine r_aload_n hb 1 dX7_putLetters_0 rfl 2 rfl ?_
  refine r_get hb ho 4 dX7_putLetters_1 rfl lk_X7_21 pf_X7_1 hM0 rfl ?_
  refine r_istore_n [(3, .int (iI (((M.length : Nat) : Int)))), (0, .ref t), (1, .int (iI (((p : Nat) : Int)))), (2, .ref u)] hb 5 5 dX7_putLetters_4 rfl rfl hnL (by decide) rfl ?_
  refine r_iload_n hb 6 dX7_putLetters_5 rfl 2 rfl ?_
  refine r_if_lt hb 9 31 dX7_putLetters_6 rfl (by decide) (by omega) (fun c6 => ?_) (fun c6 => ?_)
  · exfalso; omega
  · refine r_iload_n hb 10 dX7_putLetters_9 rfl 2 rfl ?_
    refine r_aload_n hb 11 dX7_putLetters_10 rfl 1 rfl ?_
    refine r_get hb ho 14 dX7_putLetters_11 rfl lk_X7_21 pf_X7_1 f0 rfl ?_
    refine r_icmp_gt hb 17 31 dX7_putLetters_14 rfl (by decide) (by omega) (by omega) (fun c14 => ?_) (fun c14 => ?_)
    · exfalso; omega
    · refine r_iload_n hb 18 dX7_putLetters_17 rfl 0 rfl ?_
      refine r_aload_n hb 19 dX7_putLetters_18 rfl 1 rfl ?_
      refine r_get hb ho 22 dX7_putLetters_19 rfl lk_X7_15 pf_X7_0 f0 rfl ?_
      refine r_alen hb 23 dX7_putLetters_22 rfl f2 (by decide) (((R : Nat) : Int)) rfl ?_
      refine r_aload_n hb 24 dX7_putLetters_23 rfl 1 rfl ?_
      refine r_get hb ho 27 dX7_putLetters_24 rfl lk_X7_21 pf_X7_1 f0 rfl ?_
      refine r_isubZ hb 28 (((R : Nat) : Int) - ((L.length : Nat) : Int)) dX7_putLetters_27 rfl (by omega) ?_
      refine r_icmp_le hb 31 32 dX7_putLetters_28 rfl (by decide) (by omega) (by omega) (fun c28 => ?_) (fun c28 => ?_)
      · refine r_aload_n hb 33 dX7_putLetters_32 rfl 1 rfl ?_
        refine r_get hb ho 36 dX7_putLetters_33 rfl lk_X7_21 pf_X7_1 f0 rfl ?_
        refine r_iconst hb 37 dX7_putLetters_36 rfl ?_
        refine r_isubZ hb 38 (((L.length : Nat) : Int) - 1) dX7_putLetters_37 rfl (by omega) ?_
        refine r_istore [(4, .int (iI (((L.length : Nat) : Int) - 1))), (3, .int (iI (((M.length : Nat) : Int)))), (0, .ref t), (1, .int (iI (((p : Nat) : Int)))), (2, .ref u)] hb 40 5 dX7_putLetters_38 rfl hnL (by decide) rfl ?_
        have lp : ∀ (d : Nat) (i : Nat) (wi : PW) (gi : Nat → Int32), i = d → (p ≤ i) → (i ≤ L.length) → (wi t = some (eO 7 [.ref (t + 1), .int (iI ((L.length : Nat) : Int))])) → (wi (t + 1) = some (eI R gi)) → (tx wi u Ru M) → (∀ j, j < i + M.length → j < L.length → gi j = L.getD j 0) → (∀ j, i ≤ j → j < L.length → gi (j + M.length) = L.getD j 0) → (off w wi t (t + 2)) → Wp S 40 [(4, .int (iI (((i : Nat) : Int) - 1))), (3, .int (iI (((M.length : Nat) : Int)))), (0, .ref t), (1, .int (iI (((p : Nat) : Int)))), (2, .ref u)] [] wi n 0 0 := by
          intro d
          induction d using Nat.strongRecOn with
          | _ d ih_lp =>
            intro i wi gi hd_lp hi hi2 f0 f2 hM hlo hhi hO
            have hM0 := hM.1
            refine r_iload hb 42 dX7_putLetters_40 rfl 0 rfl ?_
            refine r_iload_n hb 43 dX7_putLetters_42 rfl 3 rfl ?_
            refine r_icmp_lt hb 46 68 dX7_putLetters_43 rfl (by decide) (by omega) (by omega) (fun c43 => ?_) (fun c43 => ?_)
            · refine r_iconst hb 69 dX7_putLetters_68 rfl ?_
              refine r_istore [(4, .int (iI 0)), (3, .int (iI (((M.length : Nat) : Int)))), (0, .ref t), (1, .int (iI (((p : Nat) : Int)))), (2, .ref u)] hb 71 5 dX7_putLetters_69 rfl hnL (by decide) rfl ?_
              have lq : ∀ (d : Nat) (j : Nat) (wj : PW) (gj : Nat → Int32), M.length - j = d → (j ≤ M.length) → (wj t = some (eO 7 [.ref (t + 1), .int (iI ((L.length : Nat) : Int))])) → (wj (t + 1) = some (eI R gj)) → (tx wj u Ru M) → (∀ x, x < p → gj x = L.getD x 0) → (∀ x, x < j → gj (p + x) = M.getD x 0) → (∀ x, p ≤ x → x < L.length → gj (x + M.length) = L.getD x 0) → (off w wj t (t + 2)) → Wp S 71 [(4, .int (iI (((j : Nat) : Int)))), (3, .int (iI (((M.length : Nat) : Int)))), (0, .ref t), (1, .int (iI (((p : Nat) : Int)))), (2, .ref u)] [] wj n 0 0 := by
                intro d
                induction d using Nat.strongRecOn with
                | _ d ih_lq =>
                  intro j wj gj hd_lq hj f0 f2 hM hlo2 hmi hhi2 hO
                  have hM0 := hM.1
                  refine r_iload hb 73 dX7_putLetters_71 rfl 0 rfl ?_
                  refine r_iload_n hb 74 dX7_putLetters_73 rfl 1 rfl ?_
                  refine r_icmp_ge hb 77 98 dX7_putLetters_74 rfl (by decide) (by omega) (by omega) (fun c74 => ?_) (fun c74 => ?_)
                  · refine r_aload_n hb 99 dX7_putLetters_98 rfl 2 rfl ?_
                    refine r_dup hb 100 dX7_putLetters_99 rfl rfl ?_
                    refine r_get hb ho 103 dX7_putLetters_100 rfl lk_X7_21 pf_X7_1 f0 rfl ?_
                    refine r_iload_n hb 104 dX7_putLetters_103 rfl 1 rfl ?_
                    refine r_iaddZ hb 105 ((((L.length + M.length : Nat) : Nat) : Int)) dX7_putLetters_104 rfl (by omega) ?_
                    refine r_put hb ho 108 dX7_putLetters_105 rfl lk_X7_21 pf_X7_1 f0 (Nat.le_of_ble_eq_true rfl) ⟨rfl, rfl⟩ (fun w_105 hw_105 => ?_)
                    have ow_105 := pset_off hw_105
                    have xw_105 : w_105 t = some (eO 7 [.ref (t + 1), .int (iI ((((L.length + M.length : Nat) : Nat) : Int)))]) := by rw [hw_105]; exact pset_eq _ _ _
                    have f2 : w_105 (t + 1) = some (eI R gj) := (ow_105 _ (by omega)).trans f2
                    have hM0 : w_105 u = some (eO 7 [.ref (u + 1), .int (iI (((M.length : Nat) : Int)))]) := (ow_105 _ (by omega)).trans hM0
                    have hM : tx w_105 u Ru M := hM.off ow_105 (by omega)
                    refine r_vret hS dX7_putLetters_108 rfl (Nat.zero_le _) (Nat.zero_le _) ?_
                    refine ⟨rfl, rfl, ⟨?_, by rw [putL_len hp]; omega, gj, f2, ?_⟩, hO.trans (ow_105.mono (by omega) (by omega))⟩
                    · rw [xw_105, putL_len hp]
                    · intro x hx
                      rw [putL_len hp] at hx
                      rw [putL_get hp]
                      split
                      · exact hlo2 x (by omega)
                      · split
                        · rw [← hmi (x - p) (by omega), show p + (x - p) = x by omega]
                        · rw [← hhi2 (x - M.length) (by omega) (by omega), show x - M.length + M.length = x by omega]
                  · refine r_aload_n hb 78 dX7_putLetters_77 rfl 2 rfl ?_
                    refine r_get hb ho 81 dX7_putLetters_78 rfl lk_X7_15 pf_X7_0 f0 rfl ?_
                    refine r_iload_n hb 82 dX7_putLetters_81 rfl 3 rfl ?_
                    refine r_iload hb 84 dX7_putLetters_82 rfl 0 rfl ?_
                    refine r_iaddZ hb 85 ((((p + j : Nat) : Nat) : Int)) dX7_putLetters_84 rfl (by omega) ?_
                    refine r_aload_n hb 86 dX7_putLetters_85 rfl 4 rfl ?_
                    refine r_iload hb 88 dX7_putLetters_86 rfl 0 rfl ?_
                    refine r_callVR (st := [.int (iI ((((p + j : Nat) : Nat) : Int))), .ref (t + 1)]) hb ho 91 dX7_putLetters_88 rfl ck_X7_29 (c_X7_at (u) Ru M (((j : Nat) : Int)) hM (hRu) (by omega)) rfl rfl (hM0) rfl rfl (by rw [hR0]; exact ⟨Nat.le_of_ble_eq_true rfl, Nat.le_of_ble_eq_true rfl⟩) (Nat.le_of_ble_eq_true rfl) ⟨rfl, rfl⟩ (by rw [hR0]; exact Nat.zero_le _) (by rw [hR0]; exact Nat.zero_le _) ?_
                    refine r_iast hb 92 dX7_putLetters_91 rfl f2 (((p + j : Nat))) (by omega) (⟨by omega, by omega⟩) (fun w_91 hw_91 => ?_)
                    have ow_91 := pset_off hw_91
                    have xw_91 : w_91 (t + 1) = some (eI R (upd gj (((p + j : Nat))) ((textAt M (j : Int))))) := by rw [hw_91]; exact pset_eq _ _ _
                    have f0 : w_91 t = some (eO 7 [.ref (t + 1), .int (iI (((L.length : Nat) : Int)))]) := (ow_91 _ (by omega)).trans f0
                    have hM0 : w_91 u = some (eO 7 [.ref (u + 1), .int (iI (((M.length : Nat) : Int)))]) := (ow_91 _ (by omega)).trans hM0
                    have hM : tx w_91 u Ru M := hM.off ow_91 (by omega)
                    refine r_iinc [(4, .int (iI (((j : Nat) : Int) + 1))), (3, .int (iI (((M.length : Nat) : Int)))), (0, .ref t), (1, .int (iI (((p : Nat) : Int)))), (2, .ref u)] hb 95 5 0 dX7_putLetters_92 rfl rfl hnL (by decide) (((j : Nat) : Int) + 1) (by omega) rfl ?_
                    refine r_goto hb 71 dX7_putLetters_95 (by decide) ?_
                    refine r_lv [(4, .int (iI (((j + 1 : Nat)) : Int))), (3, .int (iI ((M.length : Nat) : Int))), (0, .ref t), (1, .int (iI ((p : Nat) : Int))), (2, .ref u)] [0, 1, 2, 3, 4] rfl ?_
                    refine ih_lq (M.length - (j + 1)) (by omega) (j + 1) _ _ rfl (by omega) f0 xw_91 hM ?_ ?_ ?_ (hO.trans (ow_91.mono (by omega) (by omega)))
                    · intro x hx
                      rw [← hlo2 x hx]
                      exact pk_un (by omega)
                    · intro x hx
                      by_cases h : x = j
                      · subst h
                        simp only [upd, if_true]
                        exact textAt_nat (by omega)
                      · rw [← hmi x (by omega)]
                        exact pk_un (by omega)
                    · intro x hx hx2
                      rw [← hhi2 x hx hx2]
                      exact pk_un (by omega)
              exact lq _ 0 _ _ rfl (Nat.zero_le _) f0 f2 hM (fun x hx => hlo x (by omega) (by omega)) (fun x hx => absurd hx (Nat.not_lt_zero _)) (fun x hx hx2 => hhi x (by omega) hx2) hO
            · refine r_aload_n hb 47 dX7_putLetters_46 rfl 2 rfl ?_
              refine r_get hb ho 50 dX7_putLetters_47 rfl lk_X7_15 pf_X7_0 f0 rfl ?_
              refine r_iload hb 52 dX7_putLetters_50 rfl 0 rfl ?_
              refine r_iload_n hb 53 dX7_putLetters_52 rfl 1 rfl ?_
              refine r_iaddZ hb 54 ((((i - 1 + M.length : Nat) : Nat) : Int)) dX7_putLetters_53 rfl (by omega) ?_
              refine r_aload_n hb 55 dX7_putLetters_54 rfl 2 rfl ?_
              refine r_get hb ho 58 dX7_putLetters_55 rfl lk_X7_15 pf_X7_0 f0 rfl ?_
              refine r_iload hb 60 dX7_putLetters_58 rfl 0 rfl ?_
              refine r_iald hb 61 dX7_putLetters_60 rfl f2 (i - 1) (by omega) (⟨by omega, by omega⟩) ?_
              refine r_iast hb 62 dX7_putLetters_61 rfl f2 (i - 1 + M.length) (by omega) (⟨by omega, by omega⟩) (fun w_61 hw_61 => ?_)
              have ow_61 := pset_off hw_61
              have xw_61 : w_61 (t + 1) = some (eI R (upd gi (i - 1 + M.length) ((gi (i - 1))))) := by rw [hw_61]; exact pset_eq _ _ _
              have f0 : w_61 t = some (eO 7 [.ref (t + 1), .int (iI (((L.length : Nat) : Int)))]) := (ow_61 _ (by omega)).trans f0
              have hM0 : w_61 u = some (eO 7 [.ref (u + 1), .int (iI (((M.length : Nat) : Int)))]) := (ow_61 _ (by omega)).trans hM0
              have hM : tx w_61 u Ru M := hM.off ow_61 (by omega)
              refine r_iinc [(4, .int (iI (((i : Nat) : Int) - 2))), (3, .int (iI (((M.length : Nat) : Int)))), (0, .ref t), (1, .int (iI (((p : Nat) : Int)))), (2, .ref u)] hb 65 5 0 dX7_putLetters_62 rfl rfl hnL (by decide) (((i : Nat) : Int) - 2) (by omega) rfl ?_
              refine r_goto hb 40 dX7_putLetters_65 (by decide) ?_
              refine r_lv [(4, .int (iI ((((i - 1 : Nat)) : Int) - 1))), (3, .int (iI ((M.length : Nat) : Int))), (0, .ref t), (1, .int (iI ((p : Nat) : Int))), (2, .ref u)] [0, 1, 2, 3, 4] (by rw [show (((i - 1 : Nat)) : Int) - 1 = (i : Int) - 2 by omega]; rfl) ?_
              refine ih_lp (i - 1) (by omega) (i - 1) _ _ rfl (by omega) (by omega) f0 xw_61 hM ?_ ?_ (hO.trans (ow_61.mono (by omega) (by omega)))
              · intro j hj hj2
                rw [← hlo j (by omega) hj2]
                exact pk_un (by omega)
              · intro j hj hj2
                by_cases h : j = i - 1
                · subst h
                  simp only [upd, if_true]
                  exact hlo (i - 1) (by omega) (by omega)
                · rw [← hhi j (by omega) hj2]
                  exact pk_un (by omega)
        refine r_lv [(4, .int (iI ((((L.length : Nat)) : Int) - 1))), (3, .int (iI ((M.length : Nat) : Int))), (0, .ref t), (1, .int (iI ((p : Nat) : Int))), (2, .ref u)] [0, 1, 2, 3, 4] rfl ?_
        exact lp _ L.length _ _ rfl hp (Nat.le_refl _) f0 f2 hM (fun j _ hj => f3 j hj) (fun j hj hj2 => absurd hj2 (by omega)) (off.rfl' _ _ _)
      · exfalso; omega

abbrev rm_X7_init (R : Nat) : Room := { frames := 1, cells := 1, slots := R, locals := 21 }
set_option maxHeartbeats 4000000 in
set_option maxRecDepth 100000 in
theorem c_X7_init (t R : Nat) {w : PW}  (hT : w t = some (eO 7 [.null, .int (iI 0)])) (hR : R ≤ 200) : Ct0 yX7_init cX7_init 2 none (rm_X7_init R) [.ref t, .int (iI (((R : Nat) : Int)))] w (t + 1) (fun w1 n1 => n1 = t + 2 ∧ tx w1 t R [] ∧ off w w1 t (t + 2)) := by
  refine Ctr.of rfl (Nat.le_of_ble_eq_true rfl) fun S hS => ?_
  have hb : S.1.1 = cX7_init := by rw [hS]; rfl
  have ho : S.1.2.1 = RX7 := by rw [hS]; rfl
  have hnL : S.1.2.2.1 = 2 := by rw [hS]; rfl
  have hR0 : S.2.1 = rm_X7_init R := by rw [hS]; rfl
  have hnm : S.1.2.2.2.2 = "<init>" := by rw [hS]; rfl
  show Wp S 0 [(0, .ref t), (1, .int (iI (((R : Nat) : Int))))] [] w (t + 1) 0 0
  refine r_aload_n hb 1 dX7_init_0 rfl 0 rfl ?_
  refine r_objInit hb ho 4 dX7_init_1 rfl ck_X7_3 ob_i ob_c (by rw [hR0]; exact Nat.le_of_ble_eq_true rfl) (by rw [hR0]; exact Nat.le_of_ble_eq_true rfl) ?_
  refine r_aload_n hb 5 dX7_init_4 rfl 0 rfl ?_
  refine r_iconst hb 6 dX7_init_5 rfl ?_
  refine r_iload_n hb 7 dX7_init_6 rfl 1 rfl ?_
  refine r_max hb ho 10 dX7_init_7 rfl ck_X7_9 (by rw [hR0]; exact Nat.le_of_ble_eq_true rfl) (by rw [hR0]; exact Nat.le_of_ble_eq_true rfl) (by rw [hR0]; exact Nat.zero_le _) (by rw [hR0]; exact Nat.zero_le _) (by omega) (by omega) (((R : Nat) : Int)) (by omega) ?_
  refine r_newI (N := R) hb 12 dX7_init_10 rfl ka_int (rfl) (by omega) (by rw [hR0]; exact Nat.le_refl _) (by rw [hR0]; exact Nat.le_of_eq (Nat.zero_add _)) (fun w_10 hw_10 => ?_)
  have ow_10 := pset_off hw_10
  have fw_10 : w_10 (t + 1) = some (eI R (fun _ => 0)) := by rw [hw_10]; exact pset_eq _ _ _
  have hT : w_10 t = some (eO 7 [.null, .int (iI 0)]) := (ow_10 _ (by omega)).trans hT
  refine r_putF hb ho hnm rfl 15 dX7_init_12 rfl lkw_X7_15 pf_X7_0 hT (Nat.le_of_ble_eq_true rfl) ⟨rfl, rfl⟩ (fun w_12 hw_12 => ?_)
  have ow_12 := pset_off hw_12
  have xw_12 : w_12 t = some (eO 7 [.ref ((t + 1)), .int (iI 0)]) := by rw [hw_12]; exact pset_eq _ _ _
  have fw_10 : w_12 (t + 1) = some (eI R (fun _ => 0)) := (ow_12 _ (by omega)).trans fw_10
  refine r_aload_n hb 16 dX7_init_15 rfl 0 rfl ?_
  refine r_iconst hb 17 dX7_init_16 rfl ?_
  refine r_put hb ho 20 dX7_init_17 rfl lk_X7_21 pf_X7_1 xw_12 (Nat.le_of_ble_eq_true rfl) ⟨rfl, rfl⟩ (fun w_17 hw_17 => ?_)
  have ow_17 := pset_off hw_17
  have xw_17 : w_17 t = some (eO 7 [.ref ((t + 1)), .int (iI 0)]) := by rw [hw_17]; exact pset_eq _ _ _
  have fw_10 : w_17 (t + 1) = some (eI R (fun _ => 0)) := (ow_17 _ (by omega)).trans fw_10
  refine r_vret hS dX7_init_20 rfl (Nat.le_refl _) (Nat.le_of_eq (Nat.zero_add _)) ?_
  exact ⟨rfl, rfl, ⟨xw_17, Nat.zero_le _, _, fw_10, fun i hi => absurd hi (Nat.not_lt_zero _)⟩, ((ow_10.mono (by omega) (by omega)).trans (ow_12.mono (by omega) (by omega))).trans (ow_17.mono (by omega) (by omega))⟩
end
section
abbrev rm_X3_attachTo : Room := { frames := 0, cells := 0, slots := 0, locals := 0 }
set_option maxHeartbeats 4000000 in
set_option maxRecDepth 100000 in
theorem c_X3_attachTo (a : Nat) (x : Nt) (b e : Nat) {w : PW} {n : Nat} (hN : nt w a x) (hb2 : b ≤ 200) (he2 : e ≤ 200) : Ct0 yX3_attachTo cX3_attachTo 3 none rm_X3_attachTo [.ref a, .int (iI (((b : Nat) : Int))), .int (iI (((e : Nat) : Int)))] w n (fun w1 n1 => n = n1 ∧ nt w1 a (atN b e x) ∧ off w w1 a (a + 7)) := by
  obtain ⟨h0, tP, tQ, tS, hnum, hB, hE⟩ := id hN
  refine Ctr.of rfl (Nat.le_of_ble_eq_true rfl) fun S hS => ?_
  have hb : S.1.1 = cX3_attachTo := by rw [hS]; rfl
  have ho : S.1.2.1 = RX3 := by rw [hS]; rfl
  have hnL : S.1.2.2.1 = 3 := by rw [hS]; rfl
  have hR0 : S.2.1 = rm_X3_attachTo := by rw [hS]; rfl
  show Wp S 0 [(0, .ref a), (1, .int (iI (((b : Nat) : Int)))), (2, .int (iI (((e : Nat) : Int))))] [] w n 0 0
  refine r_aload_n hb 1 dX3_attachTo_0 rfl 0 rfl ?_
  refine r_iload_n hb 2 dX3_attachTo_1 rfl 1 rfl ?_
  refine r_put hb ho 5 dX3_attachTo_2 rfl lk_X3_37 pf_X3_5 h0 (Nat.le_of_ble_eq_true rfl) ⟨rfl, rfl⟩ (fun w_2 hw_2 => ?_)
  have ow_2 := pset_off hw_2
  have xw_2 : w_2 a = some (eO 3 [.ref (a + 1), .ref (a + 3), .ref (a + 5), .int (iI (((nNum x : Nat) : Int))), .int (bI (nK x)), .int (iI (((b : Nat) : Int))), .int (iI (((nE x : Nat) : Int))), .int (nW x)]) := by rw [hw_2]; exact pset_eq _ _ _
  have tP : tx w_2 (a + 1) 6 (nP x) := tP.off ow_2 (by omega)
  have tQ : tx w_2 (a + 3) 16 (nQ x) := tQ.off ow_2 (by omega)
  have tS : tx w_2 (a + 5) 6 (nS x) := tS.off ow_2 (by omega)
  refine r_aload_n hb 6 dX3_attachTo_5 rfl 0 rfl ?_
  refine r_iload_n hb 7 dX3_attachTo_6 rfl 2 rfl ?_
  refine r_put hb ho 10 dX3_attachTo_7 rfl lk_X3_40 pf_X3_6 xw_2 (Nat.le_of_ble_eq_true rfl) ⟨rfl, rfl⟩ (fun w_7 hw_7 => ?_)
  have ow_7 := pset_off hw_7
  have xw_7 : w_7 a = some (eO 3 [.ref (a + 1), .ref (a + 3), .ref (a + 5), .int (iI (((nNum x : Nat) : Int))), .int (bI (nK x)), .int (iI (((b : Nat) : Int))), .int (iI (((e : Nat) : Int))), .int (nW x)]) := by rw [hw_7]; exact pset_eq _ _ _
  have tP : tx w_7 (a + 1) 6 (nP x) := tP.off ow_7 (by omega)
  have tQ : tx w_7 (a + 3) 16 (nQ x) := tQ.off ow_7 (by omega)
  have tS : tx w_7 (a + 5) 6 (nS x) := tS.off ow_7 (by omega)
  refine r_aload_n hb 11 dX3_attachTo_10 rfl 0 rfl ?_
  refine r_iconst hb 12 dX3_attachTo_11 rfl ?_
  refine r_topv (.int (bI true)) rfl ?_
  refine r_put hb ho 15 dX3_attachTo_12 rfl lk_X3_34 pf_X3_4 xw_7 (Nat.le_of_ble_eq_true rfl) ⟨rfl, rfl⟩ (fun w_12 hw_12 => ?_)
  have ow_12 := pset_off hw_12
  have xw_12 : w_12 a = some (eO 3 [.ref (a + 1), .ref (a + 3), .ref (a + 5), .int (iI (((nNum x : Nat) : Int))), .int (bI (true)), .int (iI (((b : Nat) : Int))), .int (iI (((e : Nat) : Int))), .int (nW x)]) := by rw [hw_12]; exact pset_eq _ _ _
  have tP : tx w_12 (a + 1) 6 (nP x) := tP.off ow_12 (by omega)
  have tQ : tx w_12 (a + 3) 16 (nQ x) := tQ.off ow_12 (by omega)
  have tS : tx w_12 (a + 5) 6 (nS x) := tS.off ow_12 (by omega)
  refine r_vret hS dX3_attachTo_15 rfl (Nat.zero_le _) (Nat.zero_le _) ?_
  exact ⟨rfl, rfl, ⟨xw_12, tP, tQ, tS, hnum, hb2, he2⟩, ((ow_2.mono (by omega) (by omega)).trans (ow_7.mono (by omega) (by omega))).trans (ow_12.mono (by omega) (by omega))⟩

abbrev rm_X3_covers : Room := { frames := 0, cells := 0, slots := 0, locals := 0 }
set_option maxHeartbeats 4000000 in
set_option maxRecDepth 100000 in
theorem c_X3_covers (a : Nat) (x : Nt) (i : Int) {w : PW} {n : Nat} (hN : nt w a x) (hi : -2147483648 ≤ i ∧ i < 2147483648) : CtR yX3_covers cX3_covers 2 (some .boolean) rm_X3_covers [.ref a, .int (iI (i))] w n (.int (bI (cvN x i))) := by
  obtain ⟨h0, tP, tQ, tS, hnum, hB, hE⟩ := id hN
  refine Ctr.of rfl (Nat.le_of_ble_eq_true rfl) fun S hS => ?_
  have hb : S.1.1 = cX3_covers := by rw [hS]; rfl
  have ho : S.1.2.1 = RX3 := by rw [hS]; rfl
  have hnL : S.1.2.2.1 = 2 := by rw [hS]; rfl
  have hR0 : S.2.1 = rm_X3_covers := by rw [hS]; rfl
  show Wp S 0 [(0, .ref a), (1, .int (iI (i)))] [] w n 0 0
  refine r_aload_n hb 1 dX3_covers_0 rfl 0 rfl ?_
  refine r_get hb ho 4 dX3_covers_1 rfl lk_X3_34 pf_X3_4 h0 rfl ?_
  refine r_iconst hb 5 dX3_covers_4 rfl ?_
  refine r_icmpB_ne hb 8 28 dX3_covers_5 rfl (by decide) (fun c5 => ?_) (fun c5 => ?_)
  · refine r_iconst hb 29 dX3_covers_28 rfl ?_
    refine r_iret hS dX3_covers_29 rfl rfl (Nat.zero_le _) (Nat.zero_le _) ?_
    exact ⟨_, rfl, congrArg Value.int (bI_F (decide_eq_false fun h => absurd (c5.symm.trans h.1) (by decide))), rfl, rfl⟩
  · refine r_aload_n hb 9 dX3_covers_8 rfl 0 rfl ?_
    refine r_get hb ho 12 dX3_covers_9 rfl lk_X3_37 pf_X3_5 h0 rfl ?_
    refine r_iload_n hb 13 dX3_covers_12 rfl 1 rfl ?_
    refine r_icmp_gt hb 16 28 dX3_covers_13 rfl (by decide) (by omega) (by omega) (fun c13 => ?_) (fun c13 => ?_)
    · refine r_iconst hb 29 dX3_covers_28 rfl ?_
      refine r_iret hS dX3_covers_29 rfl rfl (Nat.zero_le _) (Nat.zero_le _) ?_
      exact ⟨_, rfl, congrArg Value.int (bI_F (decide_eq_false fun h => by omega)), rfl, rfl⟩
    · refine r_iload_n hb 17 dX3_covers_16 rfl 1 rfl ?_
      refine r_aload_n hb 18 dX3_covers_17 rfl 0 rfl ?_
      refine r_get hb ho 21 dX3_covers_18 rfl lk_X3_40 pf_X3_6 h0 rfl ?_
      refine r_icmp_ge hb 24 28 dX3_covers_21 rfl (by decide) (by omega) (by omega) (fun c21 => ?_) (fun c21 => ?_)
      · refine r_iconst hb 29 dX3_covers_28 rfl ?_
        refine r_iret hS dX3_covers_29 rfl rfl (Nat.zero_le _) (Nat.zero_le _) ?_
        exact ⟨_, rfl, congrArg Value.int (bI_F (decide_eq_false fun h => by omega)), rfl, rfl⟩
      · refine r_iconst hb 25 dX3_covers_24 rfl ?_
        refine r_goto hb 29 dX3_covers_25 (by decide) ?_
        refine r_iret hS dX3_covers_29 rfl rfl (Nat.zero_le _) (Nat.zero_le _) ?_
        exact ⟨_, rfl, congrArg Value.int (bI_T (decide_eq_true ⟨c5, by omega, by omega⟩)), rfl, rfl⟩

abbrev rm_X3_isTwinOf : Room := { frames := 0, cells := 0, slots := 0, locals := 0 }
set_option maxHeartbeats 4000000 in
set_option maxRecDepth 100000 in
theorem c_X3_isTwinOf (a b : Nat) (x y : Nt) {w : PW} {n : Nat} (hN : nt w a x) (hM : nt w b y) : CtR yX3_isTwinOf cX3_isTwinOf 2 (some .boolean) rm_X3_isTwinOf [.ref a, .ref b] w n (.int (bI (twN x y))) := by
  obtain ⟨h0, tP, tQ, tS, hnum, hB, hE⟩ := id hN
  obtain ⟨g0, gP, gQ, gS, gnum, gB, gE⟩ := id hM
  refine Ctr.of rfl (Nat.le_of_ble_eq_true rfl) fun S hS => ?_
  have hb : S.1.1 = cX3_isTwinOf := by rw [hS]; rfl
  have ho : S.1.2.1 = RX3 := by rw [hS]; rfl
  have hnL : S.1.2.2.1 = 2 := by rw [hS]; rfl
  have hR0 : S.2.1 = rm_X3_isTwinOf := by rw [hS]; rfl
  show Wp S 0 [(0, .ref a), (1, .ref b)] [] w n 0 0
  refine r_aload_n hb 1 dX3_isTwinOf_0 rfl 0 rfl ?_
  refine r_get hb ho 4 dX3_isTwinOf_1 rfl lk_X3_34 pf_X3_4 h0 rfl ?_
  refine r_iconst hb 5 dX3_isTwinOf_4 rfl ?_
  refine r_icmpB_ne hb 8 42 dX3_isTwinOf_5 rfl (by decide) (fun c5 => ?_) (fun c5 => ?_)
  · refine r_iconst hb 43 dX3_isTwinOf_42 rfl ?_
    refine r_iret hS dX3_isTwinOf_43 rfl rfl (Nat.zero_le _) (Nat.zero_le _) ?_
    exact ⟨_, rfl, congrArg Value.int (bI_F (decide_eq_false fun h => absurd (c5.symm.trans h.1) (by decide))), rfl, rfl⟩
  · refine r_aload_n hb 9 dX3_isTwinOf_8 rfl 1 rfl ?_
    refine r_get hb ho 12 dX3_isTwinOf_9 rfl lk_X3_34 pf_X3_4 g0 rfl ?_
    refine r_iconst hb 13 dX3_isTwinOf_12 rfl ?_
    refine r_icmpB_ne hb 16 42 dX3_isTwinOf_13 rfl (by decide) (fun c13 => ?_) (fun c13 => ?_)
    · refine r_iconst hb 43 dX3_isTwinOf_42 rfl ?_
      refine r_iret hS dX3_isTwinOf_43 rfl rfl (Nat.zero_le _) (Nat.zero_le _) ?_
      exact ⟨_, rfl, congrArg Value.int (bI_F (decide_eq_false fun h => absurd (c13.symm.trans h.2.1) (by decide))), rfl, rfl⟩
    · refine r_aload_n hb 17 dX3_isTwinOf_16 rfl 0 rfl ?_
      refine r_get hb ho 20 dX3_isTwinOf_17 rfl lk_X3_37 pf_X3_5 h0 rfl ?_
      refine r_aload_n hb 21 dX3_isTwinOf_20 rfl 1 rfl ?_
      refine r_get hb ho 24 dX3_isTwinOf_21 rfl lk_X3_37 pf_X3_5 g0 rfl ?_
      refine r_icmp_ne hb 27 42 dX3_isTwinOf_24 rfl (by decide) (by omega) (by omega) (fun c24 => ?_) (fun c24 => ?_)
      · refine r_iconst hb 43 dX3_isTwinOf_42 rfl ?_
        refine r_iret hS dX3_isTwinOf_43 rfl rfl (Nat.zero_le _) (Nat.zero_le _) ?_
        exact ⟨_, rfl, congrArg Value.int (bI_F (decide_eq_false fun h => by omega)), rfl, rfl⟩
      · refine r_aload_n hb 28 dX3_isTwinOf_27 rfl 0 rfl ?_
        refine r_get hb ho 31 dX3_isTwinOf_28 rfl lk_X3_40 pf_X3_6 h0 rfl ?_
        refine r_aload_n hb 32 dX3_isTwinOf_31 rfl 1 rfl ?_
        refine r_get hb ho 35 dX3_isTwinOf_32 rfl lk_X3_40 pf_X3_6 g0 rfl ?_
        refine r_icmp_ne hb 38 42 dX3_isTwinOf_35 rfl (by decide) (by omega) (by omega) (fun c35 => ?_) (fun c35 => ?_)
        · refine r_iconst hb 43 dX3_isTwinOf_42 rfl ?_
          refine r_iret hS dX3_isTwinOf_43 rfl rfl (Nat.zero_le _) (Nat.zero_le _) ?_
          exact ⟨_, rfl, congrArg Value.int (bI_F (decide_eq_false fun h => by omega)), rfl, rfl⟩
        · refine r_iconst hb 39 dX3_isTwinOf_38 rfl ?_
          refine r_goto hb 43 dX3_isTwinOf_39 (by decide) ?_
          refine r_iret hS dX3_isTwinOf_43 rfl rfl (Nat.zero_le _) (Nat.zero_le _) ?_
          exact ⟨_, rfl, congrArg Value.int (bI_T (decide_eq_true ⟨c5, c13, by omega, by omega⟩)), rfl, rfl⟩

abbrev rm_X3_standsBefore : Room := { frames := 0, cells := 0, slots := 0, locals := 0 }
set_option maxHeartbeats 4000000 in
set_option maxRecDepth 100000 in
theorem c_X3_standsBefore (a b : Nat) (x y : Nt) {w : PW} {n : Nat} (hN : nt w a x) (hM : nt w b y) : CtR yX3_standsBefore cX3_standsBefore 2 (some .boolean) rm_X3_standsBefore [.ref a, .ref b] w n (.int (bI (sbN x y))) := by
  obtain ⟨h0, tP, tQ, tS, hnum, hB, hE⟩ := id hN
  obtain ⟨g0, gP, gQ, gS, gnum, gB, gE⟩ := id hM
  refine Ctr.of rfl (Nat.le_of_ble_eq_true rfl) fun S hS => ?_
  have hb : S.1.1 = cX3_standsBefore := by rw [hS]; rfl
  have ho : S.1.2.1 = RX3 := by rw [hS]; rfl
  have hnL : S.1.2.2.1 = 2 := by rw [hS]; rfl
  have hR0 : S.2.1 = rm_X3_standsBefore := by rw [hS]; rfl
  show Wp S 0 [(0, .ref a), (1, .ref b)] [] w n 0 0
  refine r_aload_n hb 1 dX3_standsBefore_0 rfl 0 rfl ?_
  refine r_get hb ho 4 dX3_standsBefore_1 rfl lk_X3_37 pf_X3_5 h0 rfl ?_
  refine r_aload_n hb 5 dX3_standsBefore_4 rfl 1 rfl ?_
  refine r_get hb ho 8 dX3_standsBefore_5 rfl lk_X3_37 pf_X3_5 g0 rfl ?_
  refine r_icmp_eq hb 11 28 dX3_standsBefore_8 rfl (by decide) (by omega) (by omega) (fun c8 => ?_) (fun c8 => ?_)
  · refine r_aload_n hb 29 dX3_standsBefore_28 rfl 0 rfl ?_
    refine r_get hb ho 32 dX3_standsBefore_29 rfl lk_X3_40 pf_X3_6 h0 rfl ?_
    refine r_aload_n hb 33 dX3_standsBefore_32 rfl 1 rfl ?_
    refine r_get hb ho 36 dX3_standsBefore_33 rfl lk_X3_40 pf_X3_6 g0 rfl ?_
    refine r_icmp_eq hb 39 58 dX3_standsBefore_36 rfl (by decide) (by omega) (by omega) (fun c36 => ?_) (fun c36 => ?_)
    · refine r_aload_n hb 59 dX3_standsBefore_58 rfl 0 rfl ?_
      refine r_get hb ho 62 dX3_standsBefore_59 rfl lk_X3_30 pf_X3_3 h0 rfl ?_
      refine r_aload_n hb 63 dX3_standsBefore_62 rfl 1 rfl ?_
      refine r_get hb ho 66 dX3_standsBefore_63 rfl lk_X3_30 pf_X3_3 g0 rfl ?_
      refine r_icmp_ge hb 69 73 dX3_standsBefore_66 rfl (by decide) (by omega) (by omega) (fun c66 => ?_) (fun c66 => ?_)
      · refine r_iconst hb 74 dX3_standsBefore_73 rfl ?_
        refine r_iret hS dX3_standsBefore_74 rfl rfl (Nat.zero_le _) (Nat.zero_le _) ?_
        exact ⟨_, rfl, congrArg Value.int (bI_F (decide_eq_false (by omega))), rfl, rfl⟩
      · refine r_iconst hb 70 dX3_standsBefore_69 rfl ?_
        refine r_goto hb 74 dX3_standsBefore_70 (by decide) ?_
        refine r_iret hS dX3_standsBefore_74 rfl rfl (Nat.zero_le _) (Nat.zero_le _) ?_
        exact ⟨_, rfl, congrArg Value.int (bI_T (decide_eq_true (by omega))), rfl, rfl⟩
    · refine r_aload_n hb 40 dX3_standsBefore_39 rfl 0 rfl ?_
      refine r_get hb ho 43 dX3_standsBefore_40 rfl lk_X3_40 pf_X3_6 h0 rfl ?_
      refine r_aload_n hb 44 dX3_standsBefore_43 rfl 1 rfl ?_
      refine r_get hb ho 47 dX3_standsBefore_44 rfl lk_X3_40 pf_X3_6 g0 rfl ?_
      refine r_icmp_le hb 50 54 dX3_standsBefore_47 rfl (by decide) (by omega) (by omega) (fun c47 => ?_) (fun c47 => ?_)
      · refine r_iconst hb 55 dX3_standsBefore_54 rfl ?_
        refine r_goto hb 74 dX3_standsBefore_55 (by decide) ?_
        refine r_iret hS dX3_standsBefore_74 rfl rfl (Nat.zero_le _) (Nat.zero_le _) ?_
        exact ⟨_, rfl, congrArg Value.int (bI_F (decide_eq_false (by omega))), rfl, rfl⟩
      · refine r_iconst hb 51 dX3_standsBefore_50 rfl ?_
        refine r_goto hb 74 dX3_standsBefore_51 (by decide) ?_
        refine r_iret hS dX3_standsBefore_74 rfl rfl (Nat.zero_le _) (Nat.zero_le _) ?_
        exact ⟨_, rfl, congrArg Value.int (bI_T (decide_eq_true (by omega))), rfl, rfl⟩
  · refine r_aload_n hb 12 dX3_standsBefore_11 rfl 0 rfl ?_
    refine r_get hb ho 15 dX3_standsBefore_12 rfl lk_X3_37 pf_X3_5 h0 rfl ?_
    refine r_aload_n hb 16 dX3_standsBefore_15 rfl 1 rfl ?_
    refine r_get hb ho 19 dX3_standsBefore_16 rfl lk_X3_37 pf_X3_5 g0 rfl ?_
    refine r_icmp_ge hb 22 26 dX3_standsBefore_19 rfl (by decide) (by omega) (by omega) (fun c19 => ?_) (fun c19 => ?_)
    · refine r_iconst hb 27 dX3_standsBefore_26 rfl ?_
      refine r_iret hS dX3_standsBefore_27 rfl rfl (Nat.zero_le _) (Nat.zero_le _) ?_
      exact ⟨_, rfl, congrArg Value.int (bI_F (decide_eq_false (by omega))), rfl, rfl⟩
    · refine r_iconst hb 23 dX3_standsBefore_22 rfl ?_
      refine r_goto hb 27 dX3_standsBefore_23 (by decide) ?_
      refine r_iret hS dX3_standsBefore_27 rfl rfl (Nat.zero_le _) (Nat.zero_le _) ?_
      exact ⟨_, rfl, congrArg Value.int (bI_T (decide_eq_true (by omega))), rfl, rfl⟩

abbrev rm_X3_boundAfterDelete : Room := { frames := 1, cells := 0, slots := 0, locals := 21 }
set_option maxHeartbeats 4000000 in
set_option maxRecDepth 100000 in
theorem c_X3_boundAfterDelete (b p m : Nat) {w : PW} {n : Nat} (h1 : b ≤ 200) (h2 : p ≤ 200) (h3 : m ≤ 200) : CtR yX3_boundAfterDelete cX3_boundAfterDelete 3 (some .int) rm_X3_boundAfterDelete [.int (iI (((b : Nat) : Int))), .int (iI (((p : Nat) : Int))), .int (iI (((m : Nat) : Int)))] w n (.int (iI (((bndD b p m : Nat) : Int)))) := by
  refine Ctr.of rfl (Nat.le_of_ble_eq_true rfl) fun S hS => ?_
  have hb : S.1.1 = cX3_boundAfterDelete := by rw [hS]; rfl
  have ho : S.1.2.1 = RX3 := by rw [hS]; rfl
  have hnL : S.1.2.2.1 = 3 := by rw [hS]; rfl
  have hR0 : S.2.1 = rm_X3_boundAfterDelete := by rw [hS]; rfl
  show Wp S 0 [(0, .int (iI (((b : Nat) : Int)))), (1, .int (iI (((p : Nat) : Int)))), (2, .int (iI (((m : Nat) : Int))))] [] w n 0 0
  refine r_iload_n hb 1 dX3_boundAfterDelete_0 rfl 0 rfl ?_
  refine r_iload_n hb 2 dX3_boundAfterDelete_1 rfl 1 rfl ?_
  refine r_iload_n hb 3 dX3_boundAfterDelete_2 rfl 2 rfl ?_
  refine r_iaddZ hb 4 (((p : Nat) : Int) + ((m : Nat) : Int)) dX3_boundAfterDelete_3 rfl (by omega) ?_
  refine r_icmp_lt hb 7 13 dX3_boundAfterDelete_4 rfl (by decide) (by omega) (by omega) (fun c4 => ?_) (fun c4 => ?_)
  · refine r_iload_n hb 14 dX3_boundAfterDelete_13 rfl 0 rfl ?_
    refine r_iload_n hb 15 dX3_boundAfterDelete_14 rfl 1 rfl ?_
    refine r_min hb ho 18 dX3_boundAfterDelete_15 rfl ck_X3_61 (by rw [hR0]; exact Nat.le_of_ble_eq_true rfl) (by rw [hR0]; exact Nat.le_of_ble_eq_true rfl) (by rw [hR0]; exact Nat.zero_le _) (by rw [hR0]; exact Nat.zero_le _) (by omega) (by omega) (((min b p : Nat) : Int)) (by omega) ?_
    refine r_iret hS dX3_boundAfterDelete_18 rfl rfl (Nat.zero_le _) (Nat.zero_le _) ?_
    exact ⟨_, rfl, by rw [bndD, if_neg (by omega)], rfl, rfl⟩
  · refine r_iload_n hb 8 dX3_boundAfterDelete_7 rfl 0 rfl ?_
    refine r_iload_n hb 9 dX3_boundAfterDelete_8 rfl 2 rfl ?_
    refine r_isubZ hb 10 ((((b - m : Nat) : Nat) : Int)) dX3_boundAfterDelete_9 rfl (by omega) ?_
    refine r_goto hb 18 dX3_boundAfterDelete_10 (by decide) ?_
    refine r_iret hS dX3_boundAfterDelete_18 rfl rfl (Nat.zero_le _) (Nat.zero_le _) ?_
    exact ⟨_, rfl, by rw [bndD, if_pos (by omega)], rfl, rfl⟩

abbrev rm_X3_moveForInsert : Room := { frames := 0, cells := 0, slots := 0, locals := 0 }
set_option maxHeartbeats 4000000 in
set_option maxRecDepth 100000 in
theorem c_X3_moveForInsert (a : Nat) (x : Nt) (p m : Nat) {w : PW} {n : Nat} (hN : nt w a x) (hp : p ≤ 200) (hm : nB x + m ≤ 200) (hm2 : nE x + m ≤ 200) : Ct0 yX3_moveForInsert cX3_moveForInsert 3 none rm_X3_moveForInsert [.ref a, .int (iI (((p : Nat) : Int))), .int (iI (((m : Nat) : Int)))] w n (fun w1 n1 => n = n1 ∧ nt w1 a (mvIns p m x) ∧ off w w1 a (a + 7)) := by
  obtain ⟨h0, tP, tQ, tS, hnum, hB, hE⟩ := id hN
  refine Ctr.of rfl (Nat.le_of_ble_eq_true rfl) fun S hS => ?_
  have hb : S.1.1 = cX3_moveForInsert := by rw [hS]; rfl
  have ho : S.1.2.1 = RX3 := by rw [hS]; rfl
  have hnL : S.1.2.2.1 = 3 := by rw [hS]; rfl
  have hR0 : S.2.1 = rm_X3_moveForInsert := by rw [hS]; rfl
  show Wp S 0 [(0, .ref a), (1, .int (iI (((p : Nat) : Int)))), (2, .int (iI (((m : Nat) : Int))))] [] w n 0 0
  refine r_aload_n hb 1 dX3_moveForInsert_0 rfl 0 rfl ?_
  refine r_get hb ho 4 dX3_moveForInsert_1 rfl lk_X3_37 pf_X3_5 h0 rfl ?_
  refine r_iload_n hb 5 dX3_moveForInsert_4 rfl 1 rfl ?_
  refine r_icmp_lt hb 8 31 dX3_moveForInsert_5 rfl (by decide) (by omega) (by omega) (fun c5 => ?_) (fun c5 => ?_)
  · refine r_aload_n hb 32 dX3_moveForInsert_31 rfl 0 rfl ?_
    refine r_get hb ho 35 dX3_moveForInsert_32 rfl lk_X3_40 pf_X3_6 h0 rfl ?_
    refine r_iload_n hb 36 dX3_moveForInsert_35 rfl 1 rfl ?_
    refine r_icmp_le hb 39 49 dX3_moveForInsert_36 rfl (by decide) (by omega) (by omega) (fun c36 => ?_) (fun c36 => ?_)
    · refine r_vret hS dX3_moveForInsert_49 rfl (Nat.zero_le _) (Nat.zero_le _) ?_
      rw [show mvIns p m x = x by unfold mvIns; rw [if_neg (by omega), if_neg (by omega)]; rfl]
      exact ⟨rfl, rfl, hN, off.rfl' _ _ _⟩
    · refine r_aload_n hb 40 dX3_moveForInsert_39 rfl 0 rfl ?_
      refine r_dup hb 41 dX3_moveForInsert_40 rfl rfl ?_
      refine r_get hb ho 44 dX3_moveForInsert_41 rfl lk_X3_40 pf_X3_6 h0 rfl ?_
      refine r_iload_n hb 45 dX3_moveForInsert_44 rfl 2 rfl ?_
      refine r_iaddZ hb 46 ((((nE x + m : Nat) : Nat) : Int)) dX3_moveForInsert_45 rfl (by omega) ?_
      refine r_put hb ho 49 dX3_moveForInsert_46 rfl lk_X3_40 pf_X3_6 h0 (Nat.le_of_ble_eq_true rfl) ⟨rfl, rfl⟩ (fun w_46 hw_46 => ?_)
      have ow_46 := pset_off hw_46
      have xw_46 : w_46 a = some (eO 3 [.ref (a + 1), .ref (a + 3), .ref (a + 5), .int (iI (((nNum x : Nat) : Int))), .int (bI (nK x)), .int (iI (((nB x : Nat) : Int))), .int (iI ((((nE x + m : Nat) : Nat) : Int))), .int (nW x)]) := by rw [hw_46]; exact pset_eq _ _ _
      have tP : tx w_46 (a + 1) 6 (nP x) := tP.off ow_46 (by omega)
      have tQ : tx w_46 (a + 3) 16 (nQ x) := tQ.off ow_46 (by omega)
      have tS : tx w_46 (a + 5) 6 (nS x) := tS.off ow_46 (by omega)
      refine r_vret hS dX3_moveForInsert_49 rfl (Nat.zero_le _) (Nat.zero_le _) ?_
      rw [show mvIns p m x = (x.1, nNum x, nK x, nB x, nE x + m, nW x) by unfold mvIns; rw [if_neg (by omega), if_pos (by omega)]]
      exact ⟨rfl, rfl, ⟨xw_46, tP, tQ, tS, hnum, hB, hm2⟩, ow_46.mono (by omega) (by omega)⟩
  · refine r_aload_n hb 9 dX3_moveForInsert_8 rfl 0 rfl ?_
    refine r_dup hb 10 dX3_moveForInsert_9 rfl rfl ?_
    refine r_get hb ho 13 dX3_moveForInsert_10 rfl lk_X3_37 pf_X3_5 h0 rfl ?_
    refine r_iload_n hb 14 dX3_moveForInsert_13 rfl 2 rfl ?_
    refine r_iaddZ hb 15 ((((nB x + m : Nat) : Nat) : Int)) dX3_moveForInsert_14 rfl (by omega) ?_
    refine r_put hb ho 18 dX3_moveForInsert_15 rfl lk_X3_37 pf_X3_5 h0 (Nat.le_of_ble_eq_true rfl) ⟨rfl, rfl⟩ (fun w_15 hw_15 => ?_)
    have ow_15 := pset_off hw_15
    have xw_15 : w_15 a = some (eO 3 [.ref (a + 1), .ref (a + 3), .ref (a + 5), .int (iI (((nNum x : Nat) : Int))), .int (bI (nK x)), .int (iI ((((nB x + m : Nat) : Nat) : Int))), .int (iI (((nE x : Nat) : Int))), .int (nW x)]) := by rw [hw_15]; exact pset_eq _ _ _
    have tP : tx w_15 (a + 1) 6 (nP x) := tP.off ow_15 (by omega)
    have tQ : tx w_15 (a + 3) 16 (nQ x) := tQ.off ow_15 (by omega)
    have tS : tx w_15 (a + 5) 6 (nS x) := tS.off ow_15 (by omega)
    refine r_aload_n hb 19 dX3_moveForInsert_18 rfl 0 rfl ?_
    refine r_dup hb 20 dX3_moveForInsert_19 rfl rfl ?_
    refine r_get hb ho 23 dX3_moveForInsert_20 rfl lk_X3_40 pf_X3_6 xw_15 rfl ?_
    refine r_iload_n hb 24 dX3_moveForInsert_23 rfl 2 rfl ?_
    refine r_iaddZ hb 25 ((((nE x + m : Nat) : Nat) : Int)) dX3_moveForInsert_24 rfl (by omega) ?_
    refine r_put hb ho 28 dX3_moveForInsert_25 rfl lk_X3_40 pf_X3_6 xw_15 (Nat.le_of_ble_eq_true rfl) ⟨rfl, rfl⟩ (fun w_25 hw_25 => ?_)
    have ow_25 := pset_off hw_25
    have xw_25 : w_25 a = some (eO 3 [.ref (a + 1), .ref (a + 3), .ref (a + 5), .int (iI (((nNum x : Nat) : Int))), .int (bI (nK x)), .int (iI ((((nB x + m : Nat) : Nat) : Int))), .int (iI ((((nE x + m : Nat) : Nat) : Int))), .int (nW x)]) := by rw [hw_25]; exact pset_eq _ _ _
    have tP : tx w_25 (a + 1) 6 (nP x) := tP.off ow_25 (by omega)
    have tQ : tx w_25 (a + 3) 16 (nQ x) := tQ.off ow_25 (by omega)
    have tS : tx w_25 (a + 5) 6 (nS x) := tS.off ow_25 (by omega)
    refine r_goto hb 49 dX3_moveForInsert_28 (by decide) ?_
    refine r_vret hS dX3_moveForInsert_49 rfl (Nat.zero_le _) (Nat.zero_le _) ?_
    rw [show mvIns p m x = (x.1, nNum x, nK x, nB x + m, nE x + m, nW x) by unfold mvIns; rw [if_pos (by omega), if_pos (by omega)]]
    exact ⟨rfl, rfl, ⟨xw_25, tP, tQ, tS, hnum, hm, hm2⟩, (ow_15.mono (by omega) (by omega)).trans (ow_25.mono (by omega) (by omega))⟩

abbrev rm_X3_moveForDelete : Room := { frames := 2, cells := 0, slots := 0, locals := 43 }
set_option maxHeartbeats 4000000 in
set_option maxRecDepth 100000 in
theorem c_X3_moveForDelete (a : Nat) (x : Nt) (p m : Nat) {w : PW} {n : Nat} (hN : nt w a x) (hp : p ≤ 200) (hm : m ≤ 200) : Ct1 yX3_moveForDelete cX3_moveForDelete 3 (some .boolean) rm_X3_moveForDelete [.ref a, .int (iI (((p : Nat) : Int))), .int (iI (((m : Nat) : Int)))] w n (fun v w1 n1 => v = .int (bI (nK x && !(decide (bndD (nB x) p m < bndD (nE x) p m)))) ∧ n = n1 ∧ nt w1 a (mvDel p m x) ∧ off w w1 a (a + 7)) := by
  obtain ⟨h0, tP, tQ, tS, hnum, hB, hE⟩ := id hN
  refine Ctr.of rfl (Nat.le_of_ble_eq_true rfl) fun S hS => ?_
  have hb : S.1.1 = cX3_moveForDelete := by rw [hS]; rfl
  have ho : S.1.2.1 = RX3 := by rw [hS]; rfl
  have hnL : S.1.2.2.1 = 3 := by rw [hS]; rfl
  have hR0 : S.2.1 = rm_X3_moveForDelete := by rw [hS]; rfl
  show Wp S 0 [(0, .ref a), (1, .int (iI (((p : Nat) : Int)))), (2, .int (iI (((m : Nat) : Int))))] [] w n 0 0
  refine r_aload_n hb 1 dX3_moveForDelete_0 rfl 0 rfl ?_
  refine r_aload_n hb 2 dX3_moveForDelete_1 rfl 0 rfl ?_
  refine r_get hb ho 5 dX3_moveForDelete_2 rfl lk_X3_37 pf_X3_5 h0 rfl ?_
  refine r_iload_n hb 6 dX3_moveForDelete_5 rfl 1 rfl ?_
  refine r_iload_n hb 7 dX3_moveForDelete_6 rfl 2 rfl ?_
  refine r_callSR (st := [.ref a]) hb ho 10 dX3_moveForDelete_7 rfl ck_X3_57 (c_X3_boundAfterDelete ((nB x)) p m (by omega) (by omega) (by omega)) rfl rfl (by rw [hR0]; exact ⟨Nat.le_of_ble_eq_true rfl, Nat.le_of_ble_eq_true rfl⟩) (Nat.le_of_ble_eq_true rfl) ⟨rfl, rfl⟩ (by rw [hR0]; exact Nat.zero_le _) (by rw [hR0]; exact Nat.zero_le _) ?_
  refine r_put hb ho 13 dX3_moveForDelete_10 rfl lk_X3_37 pf_X3_5 h0 (Nat.le_of_ble_eq_true rfl) ⟨rfl, rfl⟩ (fun w_10 hw_10 => ?_)
  have ow_10 := pset_off hw_10
  have xw_10 : w_10 a = some (eO 3 [.ref (a + 1), .ref (a + 3), .ref (a + 5), .int (iI (((nNum x : Nat) : Int))), .int (bI (nK x)), .int (iI (((bndD ((nB x)) p m : Nat) : Int))), .int (iI (((nE x : Nat) : Int))), .int (nW x)]) := by rw [hw_10]; exact pset_eq _ _ _
  have tP : tx w_10 (a + 1) 6 (nP x) := tP.off ow_10 (by omega)
  have tQ : tx w_10 (a + 3) 16 (nQ x) := tQ.off ow_10 (by omega)
  have tS : tx w_10 (a + 5) 6 (nS x) := tS.off ow_10 (by omega)
  refine r_aload_n hb 14 dX3_moveForDelete_13 rfl 0 rfl ?_
  refine r_aload_n hb 15 dX3_moveForDelete_14 rfl 0 rfl ?_
  refine r_get hb ho 18 dX3_moveForDelete_15 rfl lk_X3_40 pf_X3_6 xw_10 rfl ?_
  refine r_iload_n hb 19 dX3_moveForDelete_18 rfl 1 rfl ?_
  refine r_iload_n hb 20 dX3_moveForDelete_19 rfl 2 rfl ?_
  refine r_callSR (st := [.ref a]) hb ho 23 dX3_moveForDelete_20 rfl ck_X3_57 (c_X3_boundAfterDelete ((nE x)) p m (by omega) (by omega) (by omega)) rfl rfl (by rw [hR0]; exact ⟨Nat.le_of_ble_eq_true rfl, Nat.le_of_ble_eq_true rfl⟩) (Nat.le_of_ble_eq_true rfl) ⟨rfl, rfl⟩ (by rw [hR0]; exact Nat.zero_le _) (by rw [hR0]; exact Nat.zero_le _) ?_
  refine r_put hb ho 26 dX3_moveForDelete_23 rfl lk_X3_40 pf_X3_6 xw_10 (Nat.le_of_ble_eq_true rfl) ⟨rfl, rfl⟩ (fun w_23 hw_23 => ?_)
  have ow_23 := pset_off hw_23
  have xw_23 : w_23 a = some (eO 3 [.ref (a + 1), .ref (a + 3), .ref (a + 5), .int (iI (((nNum x : Nat) : Int))), .int (bI (nK x)), .int (iI (((bndD ((nB x)) p m : Nat) : Int))), .int (iI (((bndD ((nE x)) p m : Nat) : Int))), .int (nW x)]) := by rw [hw_23]; exact pset_eq _ _ _
  have tP : tx w_23 (a + 1) 6 (nP x) := tP.off ow_23 (by omega)
  have tQ : tx w_23 (a + 3) 16 (nQ x) := tQ.off ow_23 (by omega)
  have tS : tx w_23 (a + 5) 6 (nS x) := tS.off ow_23 (by omega)
  refine r_aload_n hb 27 dX3_moveForDelete_26 rfl 0 rfl ?_
  refine r_get hb ho 30 dX3_moveForDelete_27 rfl lk_X3_34 pf_X3_4 xw_23 rfl ?_
  have hb1 : bndD (nB x) p m ≤ 200 := by unfold bndD; split <;> omega
  have hb2 : bndD (nE x) p m ≤ 200 := by unfold bndD; split <;> omega
  refine r_ifb_eq hb 33 44 dX3_moveForDelete_30 rfl (by decide) (fun c30 => ?_) (fun c30 => ?_)
  · refine r_iconst hb 45 dX3_moveForDelete_44 rfl ?_
    refine r_iret hS dX3_moveForDelete_45 rfl rfl (Nat.zero_le _) (Nat.zero_le _) ?_
    refine ⟨_, rfl, congrArg Value.int (bI_F (by rw [c30]; rfl)), rfl, ?_, (ow_10.mono (by omega) (by omega)).trans (ow_23.mono (by omega) (by omega))⟩
    rw [show mvDel p m x = (x.1, nNum x, nK x, bndD (nB x) p m, bndD (nE x) p m, nW x) by unfold mvDel; rw [c30]; rfl]
    exact ⟨xw_23, tP, tQ, tS, hnum, hb1, hb2⟩
  · refine r_aload_n hb 34 dX3_moveForDelete_33 rfl 0 rfl ?_
    refine r_get hb ho 37 dX3_moveForDelete_34 rfl lk_X3_37 pf_X3_5 xw_23 rfl ?_
    refine r_aload_n hb 38 dX3_moveForDelete_37 rfl 0 rfl ?_
    refine r_get hb ho 41 dX3_moveForDelete_38 rfl lk_X3_40 pf_X3_6 xw_23 rfl ?_
    refine r_icmp_ge hb 44 46 dX3_moveForDelete_41 rfl (by decide) (by omega) (by omega) (fun c41 => ?_) (fun c41 => ?_)
    · refine r_aload_n hb 47 dX3_moveForDelete_46 rfl 0 rfl ?_
      refine r_iconst hb 48 dX3_moveForDelete_47 rfl ?_
      refine r_topv (.int (bI false)) rfl ?_
      refine r_put hb ho 51 dX3_moveForDelete_48 rfl lk_X3_34 pf_X3_4 xw_23 (Nat.le_of_ble_eq_true rfl) ⟨rfl, rfl⟩ (fun w_48 hw_48 => ?_)
      have ow_48 := pset_off hw_48
      have xw_48 : w_48 a = some (eO 3 [.ref (a + 1), .ref (a + 3), .ref (a + 5), .int (iI (((nNum x : Nat) : Int))), .int (bI (false)), .int (iI (((bndD ((nB x)) p m : Nat) : Int))), .int (iI (((bndD ((nE x)) p m : Nat) : Int))), .int (nW x)]) := by rw [hw_48]; exact pset_eq _ _ _
      have tP : tx w_48 (a + 1) 6 (nP x) := tP.off ow_48 (by omega)
      have tQ : tx w_48 (a + 3) 16 (nQ x) := tQ.off ow_48 (by omega)
      have tS : tx w_48 (a + 5) 6 (nS x) := tS.off ow_48 (by omega)
      refine r_iconst hb 52 dX3_moveForDelete_51 rfl ?_
      refine r_iret hS dX3_moveForDelete_52 rfl rfl (Nat.zero_le _) (Nat.zero_le _) ?_
      refine ⟨_, rfl, congrArg Value.int (bI_T (by rw [c30, decide_eq_false (by omega)]; rfl)), rfl, ?_, ((ow_10.mono (by omega) (by omega)).trans (ow_23.mono (by omega) (by omega))).trans (ow_48.mono (by omega) (by omega))⟩
      rw [show mvDel p m x = (x.1, nNum x, false, bndD (nB x) p m, bndD (nE x) p m, nW x) by unfold mvDel; rw [c30, decide_eq_false (by omega)]; rfl]
      exact ⟨xw_48, tP, tQ, tS, hnum, hb1, hb2⟩
    · refine r_iconst hb 45 dX3_moveForDelete_44 rfl ?_
      refine r_iret hS dX3_moveForDelete_45 rfl rfl (Nat.zero_le _) (Nat.zero_le _) ?_
      refine ⟨_, rfl, congrArg Value.int (bI_F (by rw [c30, decide_eq_true (by omega)]; rfl)), rfl, ?_, (ow_10.mono (by omega) (by omega)).trans (ow_23.mono (by omega) (by omega))⟩
      rw [show mvDel p m x = (x.1, nNum x, nK x, bndD (nB x) p m, bndD (nE x) p m, nW x) by unfold mvDel; rw [c30, decide_eq_true (by omega)]; rfl]
      exact ⟨xw_23, tP, tQ, tS, hnum, hb1, hb2⟩

abbrev rm_X3_moveForReplacement : Room := { frames := 1, cells := 0, slots := 0, locals := 21 }
set_option maxHeartbeats 4000000 in
set_option maxRecDepth 100000 in
theorem c_X3_moveForReplacement (a : Nat) (x : Nt) (m : Nat) {w : PW} {n : Nat} (hN : nt w a x) (hm : m ≤ 200) : Ct0 yX3_moveForReplacement cX3_moveForReplacement 2 none rm_X3_moveForReplacement [.ref a, .int (iI (((m : Nat) : Int)))] w n (fun w1 n1 => n = n1 ∧ nt w1 a (mvRep m x) ∧ off w w1 a (a + 7)) := by
  obtain ⟨h0, tP, tQ, tS, hnum, hB, hE⟩ := id hN
  refine Ctr.of rfl (Nat.le_of_ble_eq_true rfl) fun S hS => ?_
  have hb : S.1.1 = cX3_moveForReplacement := by rw [hS]; rfl
  have ho : S.1.2.1 = RX3 := by rw [hS]; rfl
  have hnL : S.1.2.2.1 = 2 := by rw [hS]; rfl
  have hR0 : S.2.1 = rm_X3_moveForReplacement := by rw [hS]; rfl
  show Wp S 0 [(0, .ref a), (1, .int (iI (((m : Nat) : Int))))] [] w n 0 0
  refine r_aload_n hb 1 dX3_moveForReplacement_0 rfl 0 rfl ?_
  refine r_iconst hb 2 dX3_moveForReplacement_1 rfl ?_
  refine r_topv (.int (bI false)) rfl ?_
  refine r_put hb ho 5 dX3_moveForReplacement_2 rfl lk_X3_34 pf_X3_4 h0 (Nat.le_of_ble_eq_true rfl) ⟨rfl, rfl⟩ (fun w_2 hw_2 => ?_)
  have ow_2 := pset_off hw_2
  have xw_2 : w_2 a = some (eO 3 [.ref (a + 1), .ref (a + 3), .ref (a + 5), .int (iI (((nNum x : Nat) : Int))), .int (bI (false)), .int (iI (((nB x : Nat) : Int))), .int (iI (((nE x : Nat) : Int))), .int (nW x)]) := by rw [hw_2]; exact pset_eq _ _ _
  have tP : tx w_2 (a + 1) 6 (nP x) := tP.off ow_2 (by omega)
  have tQ : tx w_2 (a + 3) 16 (nQ x) := tQ.off ow_2 (by omega)
  have tS : tx w_2 (a + 5) 6 (nS x) := tS.off ow_2 (by omega)
  refine r_aload_n hb 6 dX3_moveForReplacement_5 rfl 0 rfl ?_
  refine r_aload_n hb 7 dX3_moveForReplacement_6 rfl 0 rfl ?_
  refine r_get hb ho 10 dX3_moveForReplacement_7 rfl lk_X3_37 pf_X3_5 xw_2 rfl ?_
  refine r_iload_n hb 11 dX3_moveForReplacement_10 rfl 1 rfl ?_
  refine r_min hb ho 14 dX3_moveForReplacement_11 rfl ck_X3_61 (by rw [hR0]; exact Nat.le_of_ble_eq_true rfl) (by rw [hR0]; exact Nat.le_of_ble_eq_true rfl) (by rw [hR0]; exact Nat.zero_le _) (by rw [hR0]; exact Nat.zero_le _) (by omega) (by omega) (((min ((nB x)) m : Nat) : Int)) (by omega) ?_
  refine r_put hb ho 17 dX3_moveForReplacement_14 rfl lk_X3_37 pf_X3_5 xw_2 (Nat.le_of_ble_eq_true rfl) ⟨rfl, rfl⟩ (fun w_14 hw_14 => ?_)
  have ow_14 := pset_off hw_14
  have xw_14 : w_14 a = some (eO 3 [.ref (a + 1), .ref (a + 3), .ref (a + 5), .int (iI (((nNum x : Nat) : Int))), .int (bI (false)), .int (iI (((min ((nB x)) m : Nat) : Int))), .int (iI (((nE x : Nat) : Int))), .int (nW x)]) := by rw [hw_14]; exact pset_eq _ _ _
  have tP : tx w_14 (a + 1) 6 (nP x) := tP.off ow_14 (by omega)
  have tQ : tx w_14 (a + 3) 16 (nQ x) := tQ.off ow_14 (by omega)
  have tS : tx w_14 (a + 5) 6 (nS x) := tS.off ow_14 (by omega)
  refine r_aload_n hb 18 dX3_moveForReplacement_17 rfl 0 rfl ?_
  refine r_aload_n hb 19 dX3_moveForReplacement_18 rfl 0 rfl ?_
  refine r_get hb ho 22 dX3_moveForReplacement_19 rfl lk_X3_40 pf_X3_6 xw_14 rfl ?_
  refine r_iload_n hb 23 dX3_moveForReplacement_22 rfl 1 rfl ?_
  refine r_min hb ho 26 dX3_moveForReplacement_23 rfl ck_X3_61 (by rw [hR0]; exact Nat.le_of_ble_eq_true rfl) (by rw [hR0]; exact Nat.le_of_ble_eq_true rfl) (by rw [hR0]; exact Nat.zero_le _) (by rw [hR0]; exact Nat.zero_le _) (by omega) (by omega) (((min ((nE x)) m : Nat) : Int)) (by omega) ?_
  refine r_put hb ho 29 dX3_moveForReplacement_26 rfl lk_X3_40 pf_X3_6 xw_14 (Nat.le_of_ble_eq_true rfl) ⟨rfl, rfl⟩ (fun w_26 hw_26 => ?_)
  have ow_26 := pset_off hw_26
  have xw_26 : w_26 a = some (eO 3 [.ref (a + 1), .ref (a + 3), .ref (a + 5), .int (iI (((nNum x : Nat) : Int))), .int (bI (false)), .int (iI (((min ((nB x)) m : Nat) : Int))), .int (iI (((min ((nE x)) m : Nat) : Int))), .int (nW x)]) := by rw [hw_26]; exact pset_eq _ _ _
  have tP : tx w_26 (a + 1) 6 (nP x) := tP.off ow_26 (by omega)
  have tQ : tx w_26 (a + 3) 16 (nQ x) := tQ.off ow_26 (by omega)
  have tS : tx w_26 (a + 5) 6 (nS x) := tS.off ow_26 (by omega)
  refine r_vret hS dX3_moveForReplacement_29 rfl (Nat.zero_le _) (Nat.zero_le _) ?_
  exact ⟨rfl, rfl, ⟨xw_26, tP, tQ, tS, hnum, Nat.le_trans (Nat.min_le_left _ _) hB, Nat.le_trans (Nat.min_le_left _ _) hE⟩, ((ow_2.mono (by omega) (by omega)).trans (ow_14.mono (by omega) (by omega))).trans (ow_26.mono (by omega) (by omega))⟩

abbrev rm_X3_become : Room := { frames := 3, cells := 0, slots := 0, locals := 66 }
set_option maxHeartbeats 4000000 in
set_option maxRecDepth 100000 in
theorem c_X3_become (a b : Nat) (x y : Nt) {w : PW} {n : Nat} (hN : nt w a x) (hM : nt w b y) (hd : a + 7 ≤ b ∨ b + 7 ≤ a) : Ct0 yX3_become cX3_become 2 none rm_X3_become [.ref a, .ref b] w n (fun w1 n1 => n = n1 ∧ nt w1 a y ∧ off w w1 a (a + 7)) := by
  obtain ⟨h0, tP, tQ, tS, hnum, hB, hE⟩ := id hN
  obtain ⟨g0, gP, gQ, gS, gnum, gB, gE⟩ := id hM
  refine Ctr.of rfl (Nat.le_of_ble_eq_true rfl) fun S hS => ?_
  have hb : S.1.1 = cX3_become := by rw [hS]; rfl
  have ho : S.1.2.1 = RX3 := by rw [hS]; rfl
  have hnL : S.1.2.2.1 = 2 := by rw [hS]; rfl
  have hR0 : S.2.1 = rm_X3_become := by rw [hS]; rfl
  show Wp S 0 [(0, .ref a), (1, .ref b)] [] w n 0 0
  refine r_aload_n hb 1 dX3_become_0 rfl 0 rfl ?_
  refine r_get hb ho 4 dX3_become_1 rfl lk_X3_14 pf_X3_0 h0 rfl ?_
  refine r_aload_n hb 5 dX3_become_4 rfl 1 rfl ?_
  refine r_get hb ho 8 dX3_become_5 rfl lk_X3_14 pf_X3_0 g0 rfl ?_
  refine r_callV0 (st := []) hb ho 11 dX3_become_8 rfl ck_X3_26 (c_X7_become (a + 1) 6 (b + 1) 6 (nP x) (nP y) tP gP (by omega) (by omega) (by omega) gP.2.1) rfl rfl (tP.1) rfl rfl (by rw [hR0]; exact ⟨Nat.le_of_ble_eq_true rfl, Nat.le_of_ble_eq_true rfl⟩) (Nat.le_of_ble_eq_true rfl) ⟨rfl, rfl⟩ (by rw [hR0]; exact Nat.zero_le _) (by rw [hR0]; exact Nat.zero_le _) (fun w_8 nw_8 qw_8 => ?_)
  obtain ⟨rfl, tP, ow_8⟩ := qw_8
  have h0 : w_8 a = some (eO 3 [.ref (a + 1), .ref (a + 3), .ref (a + 5), .int (iI (((nNum x : Nat) : Int))), .int (bI (nK x)), .int (iI (((nB x : Nat) : Int))), .int (iI (((nE x : Nat) : Int))), .int (nW x)]) := (ow_8 _ (by omega)).trans h0
  have g0 : w_8 b = some (eO 3 [.ref (b + 1), .ref (b + 3), .ref (b + 5), .int (iI (((nNum y : Nat) : Int))), .int (bI (nK y)), .int (iI (((nB y : Nat) : Int))), .int (iI (((nE y : Nat) : Int))), .int (nW y)]) := (ow_8 _ (by omega)).trans g0
  have tQ : tx w_8 (a + 3) 16 (nQ x) := tQ.off ow_8 (by omega)
  have tS : tx w_8 (a + 5) 6 (nS x) := tS.off ow_8 (by omega)
  have gP : tx w_8 (b + 1) 6 (nP y) := gP.off ow_8 (by omega)
  have gQ : tx w_8 (b + 3) 16 (nQ y) := gQ.off ow_8 (by omega)
  have gS : tx w_8 (b + 5) 6 (nS y) := gS.off ow_8 (by omega)
  refine r_aload_n hb 12 dX3_become_11 rfl 0 rfl ?_
  refine r_get hb ho 15 dX3_become_12 rfl lk_X3_20 pf_X3_1 h0 rfl ?_
  refine r_aload_n hb 16 dX3_become_15 rfl 1 rfl ?_
  refine r_get hb ho 19 dX3_become_16 rfl lk_X3_20 pf_X3_1 g0 rfl ?_
  refine r_callV0 (st := []) hb ho 22 dX3_become_19 rfl ck_X3_26 (c_X7_become (a + 3) 16 (b + 3) 16 (nQ x) (nQ y) tQ gQ (by omega) (by omega) (by omega) gQ.2.1) rfl rfl (tQ.1) rfl rfl (by rw [hR0]; exact ⟨Nat.le_of_ble_eq_true rfl, Nat.le_of_ble_eq_true rfl⟩) (Nat.le_of_ble_eq_true rfl) ⟨rfl, rfl⟩ (by rw [hR0]; exact Nat.zero_le _) (by rw [hR0]; exact Nat.zero_le _) (fun w_19 nw_19 qw_19 => ?_)
  obtain ⟨rfl, tQ, ow_19⟩ := qw_19
  have tP : tx w_19 (a + 1) 6 (nP y) := tP.off ow_19 (by omega)
  have h0 : w_19 a = some (eO 3 [.ref (a + 1), .ref (a + 3), .ref (a + 5), .int (iI (((nNum x : Nat) : Int))), .int (bI (nK x)), .int (iI (((nB x : Nat) : Int))), .int (iI (((nE x : Nat) : Int))), .int (nW x)]) := (ow_19 _ (by omega)).trans h0
  have g0 : w_19 b = some (eO 3 [.ref (b + 1), .ref (b + 3), .ref (b + 5), .int (iI (((nNum y : Nat) : Int))), .int (bI (nK y)), .int (iI (((nB y : Nat) : Int))), .int (iI (((nE y : Nat) : Int))), .int (nW y)]) := (ow_19 _ (by omega)).trans g0
  have tS : tx w_19 (a + 5) 6 (nS x) := tS.off ow_19 (by omega)
  have gP : tx w_19 (b + 1) 6 (nP y) := gP.off ow_19 (by omega)
  have gQ : tx w_19 (b + 3) 16 (nQ y) := gQ.off ow_19 (by omega)
  have gS : tx w_19 (b + 5) 6 (nS y) := gS.off ow_19 (by omega)
  refine r_aload_n hb 23 dX3_become_22 rfl 0 rfl ?_
  refine r_get hb ho 26 dX3_become_23 rfl lk_X3_23 pf_X3_2 h0 rfl ?_
  refine r_aload_n hb 27 dX3_become_26 rfl 1 rfl ?_
  refine r_get hb ho 30 dX3_become_27 rfl lk_X3_23 pf_X3_2 g0 rfl ?_
  refine r_callV0 (st := []) hb ho 33 dX3_become_30 rfl ck_X3_26 (c_X7_become (a + 5) 6 (b + 5) 6 (nS x) (nS y) tS gS (by omega) (by omega) (by omega) gS.2.1) rfl rfl (tS.1) rfl rfl (by rw [hR0]; exact ⟨Nat.le_of_ble_eq_true rfl, Nat.le_of_ble_eq_true rfl⟩) (Nat.le_of_ble_eq_true rfl) ⟨rfl, rfl⟩ (by rw [hR0]; exact Nat.zero_le _) (by rw [hR0]; exact Nat.zero_le _) (fun w_30 nw_30 qw_30 => ?_)
  obtain ⟨rfl, tS, ow_30⟩ := qw_30
  have tQ : tx w_30 (a + 3) 16 (nQ y) := tQ.off ow_30 (by omega)
  have tP : tx w_30 (a + 1) 6 (nP y) := tP.off ow_30 (by omega)
  have h0 : w_30 a = some (eO 3 [.ref (a + 1), .ref (a + 3), .ref (a + 5), .int (iI (((nNum x : Nat) : Int))), .int (bI (nK x)), .int (iI (((nB x : Nat) : Int))), .int (iI (((nE x : Nat) : Int))), .int (nW x)]) := (ow_30 _ (by omega)).trans h0
  have g0 : w_30 b = some (eO 3 [.ref (b + 1), .ref (b + 3), .ref (b + 5), .int (iI (((nNum y : Nat) : Int))), .int (bI (nK y)), .int (iI (((nB y : Nat) : Int))), .int (iI (((nE y : Nat) : Int))), .int (nW y)]) := (ow_30 _ (by omega)).trans g0
  have gP : tx w_30 (b + 1) 6 (nP y) := gP.off ow_30 (by omega)
  have gQ : tx w_30 (b + 3) 16 (nQ y) := gQ.off ow_30 (by omega)
  have gS : tx w_30 (b + 5) 6 (nS y) := gS.off ow_30 (by omega)
  refine r_aload_n hb 34 dX3_become_33 rfl 0 rfl ?_
  refine r_aload_n hb 35 dX3_become_34 rfl 1 rfl ?_
  refine r_get hb ho 38 dX3_become_35 rfl lk_X3_30 pf_X3_3 g0 rfl ?_
  refine r_put hb ho 41 dX3_become_38 rfl lk_X3_30 pf_X3_3 h0 (Nat.le_of_ble_eq_true rfl) ⟨rfl, rfl⟩ (fun w_38 hw_38 => ?_)
  have ow_38 := pset_off hw_38
  have xw_38 : w_38 a = some (eO 3 [.ref (a + 1), .ref (a + 3), .ref (a + 5), .int (iI (((nNum y : Nat) : Int))), .int (bI (nK x)), .int (iI (((nB x : Nat) : Int))), .int (iI (((nE x : Nat) : Int))), .int (nW x)]) := by rw [hw_38]; exact pset_eq _ _ _
  have tS : tx w_38 (a + 5) 6 (nS y) := tS.off ow_38 (by omega)
  have tQ : tx w_38 (a + 3) 16 (nQ y) := tQ.off ow_38 (by omega)
  have tP : tx w_38 (a + 1) 6 (nP y) := tP.off ow_38 (by omega)
  have g0 : w_38 b = some (eO 3 [.ref (b + 1), .ref (b + 3), .ref (b + 5), .int (iI (((nNum y : Nat) : Int))), .int (bI (nK y)), .int (iI (((nB y : Nat) : Int))), .int (iI (((nE y : Nat) : Int))), .int (nW y)]) := (ow_38 _ (by omega)).trans g0
  have gP : tx w_38 (b + 1) 6 (nP y) := gP.off ow_38 (by omega)
  have gQ : tx w_38 (b + 3) 16 (nQ y) := gQ.off ow_38 (by omega)
  have gS : tx w_38 (b + 5) 6 (nS y) := gS.off ow_38 (by omega)
  refine r_aload_n hb 42 dX3_become_41 rfl 0 rfl ?_
  refine r_aload_n hb 43 dX3_become_42 rfl 1 rfl ?_
  refine r_get hb ho 46 dX3_become_43 rfl lk_X3_34 pf_X3_4 g0 rfl ?_
  refine r_put hb ho 49 dX3_become_46 rfl lk_X3_34 pf_X3_4 xw_38 (Nat.le_of_ble_eq_true rfl) ⟨rfl, rfl⟩ (fun w_46 hw_46 => ?_)
  have ow_46 := pset_off hw_46
  have xw_46 : w_46 a = some (eO 3 [.ref (a + 1), .ref (a + 3), .ref (a + 5), .int (iI (((nNum y : Nat) : Int))), .int (bI (nK y)), .int (iI (((nB x : Nat) : Int))), .int (iI (((nE x : Nat) : Int))), .int (nW x)]) := by rw [hw_46]; exact pset_eq _ _ _
  have tS : tx w_46 (a + 5) 6 (nS y) := tS.off ow_46 (by omega)
  have tQ : tx w_46 (a + 3) 16 (nQ y) := tQ.off ow_46 (by omega)
  have tP : tx w_46 (a + 1) 6 (nP y) := tP.off ow_46 (by omega)
  have g0 : w_46 b = some (eO 3 [.ref (b + 1), .ref (b + 3), .ref (b + 5), .int (iI (((nNum y : Nat) : Int))), .int (bI (nK y)), .int (iI (((nB y : Nat) : Int))), .int (iI (((nE y : Nat) : Int))), .int (nW y)]) := (ow_46 _ (by omega)).trans g0
  have gP : tx w_46 (b + 1) 6 (nP y) := gP.off ow_46 (by omega)
  have gQ : tx w_46 (b + 3) 16 (nQ y) := gQ.off ow_46 (by omega)
  have gS : tx w_46 (b + 5) 6 (nS y) := gS.off ow_46 (by omega)
  refine r_aload_n hb 50 dX3_become_49 rfl 0 rfl ?_
  refine r_aload_n hb 51 dX3_become_50 rfl 1 rfl ?_
  refine r_get hb ho 54 dX3_become_51 rfl lk_X3_37 pf_X3_5 g0 rfl ?_
  refine r_put hb ho 57 dX3_become_54 rfl lk_X3_37 pf_X3_5 xw_46 (Nat.le_of_ble_eq_true rfl) ⟨rfl, rfl⟩ (fun w_54 hw_54 => ?_)
  have ow_54 := pset_off hw_54
  have xw_54 : w_54 a = some (eO 3 [.ref (a + 1), .ref (a + 3), .ref (a + 5), .int (iI (((nNum y : Nat) : Int))), .int (bI (nK y)), .int (iI (((nB y : Nat) : Int))), .int (iI (((nE x : Nat) : Int))), .int (nW x)]) := by rw [hw_54]; exact pset_eq _ _ _
  have tS : tx w_54 (a + 5) 6 (nS y) := tS.off ow_54 (by omega)
  have tQ : tx w_54 (a + 3) 16 (nQ y) := tQ.off ow_54 (by omega)
  have tP : tx w_54 (a + 1) 6 (nP y) := tP.off ow_54 (by omega)
  have g0 : w_54 b = some (eO 3 [.ref (b + 1), .ref (b + 3), .ref (b + 5), .int (iI (((nNum y : Nat) : Int))), .int (bI (nK y)), .int (iI (((nB y : Nat) : Int))), .int (iI (((nE y : Nat) : Int))), .int (nW y)]) := (ow_54 _ (by omega)).trans g0
  have gP : tx w_54 (b + 1) 6 (nP y) := gP.off ow_54 (by omega)
  have gQ : tx w_54 (b + 3) 16 (nQ y) := gQ.off ow_54 (by omega)
  have gS : tx w_54 (b + 5) 6 (nS y) := gS.off ow_54 (by omega)
  refine r_aload_n hb 58 dX3_become_57 rfl 0 rfl ?_
  refine r_aload_n hb 59 dX3_become_58 rfl 1 rfl ?_
  refine r_get hb ho 62 dX3_become_59 rfl lk_X3_40 pf_X3_6 g0 rfl ?_
  refine r_put hb ho 65 dX3_become_62 rfl lk_X3_40 pf_X3_6 xw_54 (Nat.le_of_ble_eq_true rfl) ⟨rfl, rfl⟩ (fun w_62 hw_62 => ?_)
  have ow_62 := pset_off hw_62
  have xw_62 : w_62 a = some (eO 3 [.ref (a + 1), .ref (a + 3), .ref (a + 5), .int (iI (((nNum y : Nat) : Int))), .int (bI (nK y)), .int (iI (((nB y : Nat) : Int))), .int (iI (((nE y : Nat) : Int))), .int (nW x)]) := by rw [hw_62]; exact pset_eq _ _ _
  have tS : tx w_62 (a + 5) 6 (nS y) := tS.off ow_62 (by omega)
  have tQ : tx w_62 (a + 3) 16 (nQ y) := tQ.off ow_62 (by omega)
  have tP : tx w_62 (a + 1) 6 (nP y) := tP.off ow_62 (by omega)
  have g0 : w_62 b = some (eO 3 [.ref (b + 1), .ref (b + 3), .ref (b + 5), .int (iI (((nNum y : Nat) : Int))), .int (bI (nK y)), .int (iI (((nB y : Nat) : Int))), .int (iI (((nE y : Nat) : Int))), .int (nW y)]) := (ow_62 _ (by omega)).trans g0
  have gP : tx w_62 (b + 1) 6 (nP y) := gP.off ow_62 (by omega)
  have gQ : tx w_62 (b + 3) 16 (nQ y) := gQ.off ow_62 (by omega)
  have gS : tx w_62 (b + 5) 6 (nS y) := gS.off ow_62 (by omega)
  refine r_aload_n hb 66 dX3_become_65 rfl 0 rfl ?_
  refine r_aload_n hb 67 dX3_become_66 rfl 1 rfl ?_
  refine r_get hb ho 70 dX3_become_67 rfl lk_X3_43 pf_X3_7 g0 rfl ?_
  refine r_put hb ho 73 dX3_become_70 rfl lk_X3_43 pf_X3_7 xw_62 (Nat.le_of_ble_eq_true rfl) ⟨rfl, rfl⟩ (fun w_70 hw_70 => ?_)
  have ow_70 := pset_off hw_70
  have xw_70 : w_70 a = some (eO 3 [.ref (a + 1), .ref (a + 3), .ref (a + 5), .int (iI (((nNum y : Nat) : Int))), .int (bI (nK y)), .int (iI (((nB y : Nat) : Int))), .int (iI (((nE y : Nat) : Int))), .int (nW y)]) := by rw [hw_70]; exact pset_eq _ _ _
  have tS : tx w_70 (a + 5) 6 (nS y) := tS.off ow_70 (by omega)
  have tQ : tx w_70 (a + 3) 16 (nQ y) := tQ.off ow_70 (by omega)
  have tP : tx w_70 (a + 1) 6 (nP y) := tP.off ow_70 (by omega)
  have g0 : w_70 b = some (eO 3 [.ref (b + 1), .ref (b + 3), .ref (b + 5), .int (iI (((nNum y : Nat) : Int))), .int (bI (nK y)), .int (iI (((nB y : Nat) : Int))), .int (iI (((nE y : Nat) : Int))), .int (nW y)]) := (ow_70 _ (by omega)).trans g0
  have gP : tx w_70 (b + 1) 6 (nP y) := gP.off ow_70 (by omega)
  have gQ : tx w_70 (b + 3) 16 (nQ y) := gQ.off ow_70 (by omega)
  have gS : tx w_70 (b + 5) 6 (nS y) := gS.off ow_70 (by omega)
  refine r_vret hS dX3_become_73 rfl (Nat.zero_le _) (Nat.zero_le _) ?_
  exact ⟨rfl, rfl, ⟨xw_70, tP, tQ, tS, gnum, gB, gE⟩, (((((((ow_8.mono (by omega) (by omega)).trans (ow_19.mono (by omega) (by omega))).trans (ow_30.mono (by omega) (by omega))).trans (ow_38.mono (by omega) (by omega))).trans (ow_46.mono (by omega) (by omega))).trans (ow_54.mono (by omega) (by omega))).trans (ow_62.mono (by omega) (by omega))).trans (ow_70.mono (by omega) (by omega))⟩

abbrev rm_X3_quoteFrom : Room := { frames := 2, cells := 0, slots := 0, locals := 45 }
set_option maxHeartbeats 4000000 in
set_option maxRecDepth 100000 in
theorem c_X3_quoteFrom (a u : Nat) (x : Nt) (D : List Int32) {w : PW} {n : Nat} (hN : nt w a x) (hD : tx w u 120 D) (hd : a + 7 ≤ u ∨ u + 2 ≤ a) (he : nE x - nB x ≤ 16) : Ct0 yX3_quoteFrom cX3_quoteFrom 2 none rm_X3_quoteFrom [.ref a, .ref u] w n (fun w1 n1 => n = n1 ∧ nt w1 a (qtN D x) ∧ off w w1 a (a + 7)) := by
  obtain ⟨h0, tP, tQ, tS, hnum, hB, hE⟩ := id hN
  refine Ctr.of rfl (Nat.le_of_ble_eq_true rfl) fun S hS => ?_
  have hb : S.1.1 = cX3_quoteFrom := by rw [hS]; rfl
  have ho : S.1.2.1 = RX3 := by rw [hS]; rfl
  have hnL : S.1.2.2.1 = 2 := by rw [hS]; rfl
  have hR0 : S.2.1 = rm_X3_quoteFrom := by rw [hS]; rfl
  show Wp S 0 [(0, .ref a), (1, .ref u)] [] w n 0 0
  refine r_aload_n hb 1 dX3_quoteFrom_0 rfl 0 rfl ?_
  refine r_get hb ho 4 dX3_quoteFrom_1 rfl lk_X3_14 pf_X3_0 h0 rfl ?_
  refine r_aload_n hb 5 dX3_quoteFrom_4 rfl 1 rfl ?_
  refine r_aload_n hb 6 dX3_quoteFrom_5 rfl 0 rfl ?_
  refine r_get hb ho 9 dX3_quoteFrom_6 rfl lk_X3_37 pf_X3_5 h0 rfl ?_
  refine r_bipush 6 hb 11 dX3_quoteFrom_9 rfl rfl ?_
  refine r_isubZ hb 12 (((nB x : Nat) : Int) - 6) dX3_quoteFrom_11 rfl (by omega) ?_
  refine r_aload_n hb 13 dX3_quoteFrom_12 rfl 0 rfl ?_
  refine r_get hb ho 16 dX3_quoteFrom_13 rfl lk_X3_37 pf_X3_5 h0 rfl ?_
  refine r_callV0 (st := []) hb ho 19 dX3_quoteFrom_16 rfl ck_X3_53 (c_X7_copyPart (a + 1) 6 u 120 (nP x) D (((nB x : Nat) : Int) - 6) (((nB x : Nat) : Int)) (nB x - 6) (nB x) tP hD (by omega) (by omega) (by omega) (by omega) (by omega) (by omega) (by omega) (by omega)) rfl rfl (tP.1) rfl rfl (by rw [hR0]; exact ⟨Nat.le_of_ble_eq_true rfl, Nat.le_of_ble_eq_true rfl⟩) (Nat.le_of_ble_eq_true rfl) ⟨rfl, rfl⟩ (by rw [hR0]; exact Nat.zero_le _) (by rw [hR0]; exact Nat.zero_le _) (fun w_16 nw_16 qw_16 => ?_)
  obtain ⟨rfl, tP, ow_16⟩ := qw_16
  have h0 : w_16 a = some (eO 3 [.ref (a + 1), .ref (a + 3), .ref (a + 5), .int (iI (((nNum x : Nat) : Int))), .int (bI (nK x)), .int (iI (((nB x : Nat) : Int))), .int (iI (((nE x : Nat) : Int))), .int (nW x)]) := (ow_16 _ (by omega)).trans h0
  have hD : tx w_16 u 120 D := hD.off ow_16 (by omega)
  have tQ : tx w_16 (a + 3) 16 (nQ x) := tQ.off ow_16 (by omega)
  have tS : tx w_16 (a + 5) 6 (nS x) := tS.off ow_16 (by omega)
  refine r_aload_n hb 20 dX3_quoteFrom_19 rfl 0 rfl ?_
  refine r_get hb ho 23 dX3_quoteFrom_20 rfl lk_X3_20 pf_X3_1 h0 rfl ?_
  refine r_aload_n hb 24 dX3_quoteFrom_23 rfl 1 rfl ?_
  refine r_aload_n hb 25 dX3_quoteFrom_24 rfl 0 rfl ?_
  refine r_get hb ho 28 dX3_quoteFrom_25 rfl lk_X3_37 pf_X3_5 h0 rfl ?_
  refine r_aload_n hb 29 dX3_quoteFrom_28 rfl 0 rfl ?_
  refine r_get hb ho 32 dX3_quoteFrom_29 rfl lk_X3_40 pf_X3_6 h0 rfl ?_
  refine r_callV0 (st := []) hb ho 35 dX3_quoteFrom_32 rfl ck_X3_53 (c_X7_copyPart (a + 3) 16 u 120 (nQ x) D (((nB x : Nat) : Int)) (((nE x : Nat) : Int)) (nB x) (nE x) tQ hD (by omega) (by omega) (by omega) (by omega) (by omega) (by omega) (by omega) (by omega)) rfl rfl (tQ.1) rfl rfl (by rw [hR0]; exact ⟨Nat.le_of_ble_eq_true rfl, Nat.le_of_ble_eq_true rfl⟩) (Nat.le_of_ble_eq_true rfl) ⟨rfl, rfl⟩ (by rw [hR0]; exact Nat.zero_le _) (by rw [hR0]; exact Nat.zero_le _) (fun w_32 nw_32 qw_32 => ?_)
  obtain ⟨rfl, tQ, ow_32⟩ := qw_32
  have tP : tx w_32 (a + 1) 6 (slice D (nB x - 6) (nB x)) := tP.off ow_32 (by omega)
  have h0 : w_32 a = some (eO 3 [.ref (a + 1), .ref (a + 3), .ref (a + 5), .int (iI (((nNum x : Nat) : Int))), .int (bI (nK x)), .int (iI (((nB x : Nat) : Int))), .int (iI (((nE x : Nat) : Int))), .int (nW x)]) := (ow_32 _ (by omega)).trans h0
  have hD : tx w_32 u 120 D := hD.off ow_32 (by omega)
  have tS : tx w_32 (a + 5) 6 (nS x) := tS.off ow_32 (by omega)
  refine r_aload_n hb 36 dX3_quoteFrom_35 rfl 0 rfl ?_
  refine r_get hb ho 39 dX3_quoteFrom_36 rfl lk_X3_23 pf_X3_2 h0 rfl ?_
  refine r_aload_n hb 40 dX3_quoteFrom_39 rfl 1 rfl ?_
  refine r_aload_n hb 41 dX3_quoteFrom_40 rfl 0 rfl ?_
  refine r_get hb ho 44 dX3_quoteFrom_41 rfl lk_X3_40 pf_X3_6 h0 rfl ?_
  refine r_aload_n hb 45 dX3_quoteFrom_44 rfl 0 rfl ?_
  refine r_get hb ho 48 dX3_quoteFrom_45 rfl lk_X3_40 pf_X3_6 h0 rfl ?_
  refine r_bipush 6 hb 50 dX3_quoteFrom_48 rfl rfl ?_
  refine r_iaddZ hb 51 (((nE x : Nat) : Int) + 6) dX3_quoteFrom_50 rfl (by omega) ?_
  refine r_callV0 (st := []) hb ho 54 dX3_quoteFrom_51 rfl ck_X3_53 (c_X7_copyPart (a + 5) 6 u 120 (nS x) D (((nE x : Nat) : Int)) (((nE x : Nat) : Int) + 6) (nE x) (nE x + 6) tS hD (by omega) (by omega) (by omega) (by omega) (by omega) (by omega) (by omega) (by omega)) rfl rfl (tS.1) rfl rfl (by rw [hR0]; exact ⟨Nat.le_of_ble_eq_true rfl, Nat.le_of_ble_eq_true rfl⟩) (Nat.le_of_ble_eq_true rfl) ⟨rfl, rfl⟩ (by rw [hR0]; exact Nat.zero_le _) (by rw [hR0]; exact Nat.zero_le _) (fun w_51 nw_51 qw_51 => ?_)
  obtain ⟨rfl, tS, ow_51⟩ := qw_51
  have tQ : tx w_51 (a + 3) 16 (slice D (nB x) (nE x)) := tQ.off ow_51 (by omega)
  have tP : tx w_51 (a + 1) 6 (slice D (nB x - 6) (nB x)) := tP.off ow_51 (by omega)
  have h0 : w_51 a = some (eO 3 [.ref (a + 1), .ref (a + 3), .ref (a + 5), .int (iI (((nNum x : Nat) : Int))), .int (bI (nK x)), .int (iI (((nB x : Nat) : Int))), .int (iI (((nE x : Nat) : Int))), .int (nW x)]) := (ow_51 _ (by omega)).trans h0
  have hD : tx w_51 u 120 D := hD.off ow_51 (by omega)
  refine r_vret hS dX3_quoteFrom_54 rfl (Nat.zero_le _) (Nat.zero_le _) ?_
  exact ⟨rfl, rfl, ⟨h0, tP, tQ, tS, hnum, hB, hE⟩, ((ow_16.mono (by omega) (by omega)).trans (ow_32.mono (by omega) (by omega))).trans (ow_51.mono (by omega) (by omega))⟩

abbrev rm_X3_begin : Room := { frames := 3, cells := 0, slots := 0, locals := 66 }
set_option maxHeartbeats 4000000 in
set_option maxRecDepth 100000 in
theorem c_X3_begin (a u k b e : Nat) (x : Nt) (D : List Int32) {w : PW} {n : Nat} (hN : nt w a x) (hD : tx w u 120 D) (hd : a + 7 ≤ u ∨ u + 2 ≤ a) (hk : k < 1000000) (hb2 : b ≤ 200) (he2 : e ≤ 200) (he : e - b ≤ 16) : Ct0 yX3_begin cX3_begin 5 none rm_X3_begin [.ref a, .int (iI (((k : Nat) : Int))), .int (iI (((b : Nat) : Int))), .int (iI (((e : Nat) : Int))), .ref u] w n (fun w1 n1 => n = n1 ∧ nt w1 a (qtN D (x.1, k, true, b, e, 1)) ∧ off w w1 a (a + 7)) := by
  obtain ⟨h0, tP, tQ, tS, hnum, hB, hE⟩ := id hN
  refine Ctr.of rfl (Nat.le_of_ble_eq_true rfl) fun S hS => ?_
  have hb : S.1.1 = cX3_begin := by rw [hS]; rfl
  have ho : S.1.2.1 = RX3 := by rw [hS]; rfl
  have hnL : S.1.2.2.1 = 5 := by rw [hS]; rfl
  have hR0 : S.2.1 = rm_X3_begin := by rw [hS]; rfl
  show Wp S 0 [(0, .ref a), (1, .int (iI (((k : Nat) : Int)))), (2, .int (iI (((b : Nat) : Int)))), (3, .int (iI (((e : Nat) : Int)))), (4, .ref u)] [] w n 0 0
  refine r_aload_n hb 1 dX3_begin_0 rfl 0 rfl ?_
  refine r_iload_n hb 2 dX3_begin_1 rfl 1 rfl ?_
  refine r_put hb ho 5 dX3_begin_2 rfl lk_X3_30 pf_X3_3 h0 (Nat.le_of_ble_eq_true rfl) ⟨rfl, rfl⟩ (fun w_2 hw_2 => ?_)
  have ow_2 := pset_off hw_2
  have xw_2 : w_2 a = some (eO 3 [.ref (a + 1), .ref (a + 3), .ref (a + 5), .int (iI (((k : Nat) : Int))), .int (bI (nK x)), .int (iI (((nB x : Nat) : Int))), .int (iI (((nE x : Nat) : Int))), .int (nW x)]) := by rw [hw_2]; exact pset_eq _ _ _
  have hD : tx w_2 u 120 D := hD.off ow_2 (by omega)
  have tP : tx w_2 (a + 1) 6 (nP x) := tP.off ow_2 (by omega)
  have tQ : tx w_2 (a + 3) 16 (nQ x) := tQ.off ow_2 (by omega)
  have tS : tx w_2 (a + 5) 6 (nS x) := tS.off ow_2 (by omega)
  refine r_aload_n hb 6 dX3_begin_5 rfl 0 rfl ?_
  refine r_iconst hb 7 dX3_begin_6 rfl ?_
  refine r_topv (.int 1) rfl ?_
  refine r_put hb ho 10 dX3_begin_7 rfl lk_X3_43 pf_X3_7 xw_2 (Nat.le_of_ble_eq_true rfl) ⟨rfl, rfl⟩ (fun w_7 hw_7 => ?_)
  have ow_7 := pset_off hw_7
  have xw_7 : w_7 a = some (eO 3 [.ref (a + 1), .ref (a + 3), .ref (a + 5), .int (iI (((k : Nat) : Int))), .int (bI (nK x)), .int (iI (((nB x : Nat) : Int))), .int (iI (((nE x : Nat) : Int))), .int 1]) := by rw [hw_7]; exact pset_eq _ _ _
  have hD : tx w_7 u 120 D := hD.off ow_7 (by omega)
  have tP : tx w_7 (a + 1) 6 (nP x) := tP.off ow_7 (by omega)
  have tQ : tx w_7 (a + 3) 16 (nQ x) := tQ.off ow_7 (by omega)
  have tS : tx w_7 (a + 5) 6 (nS x) := tS.off ow_7 (by omega)
  refine r_aload_n hb 11 dX3_begin_10 rfl 0 rfl ?_
  refine r_iload_n hb 12 dX3_begin_11 rfl 2 rfl ?_
  refine r_iload_n hb 13 dX3_begin_12 rfl 3 rfl ?_
  refine r_callV0 (st := []) hb ho 16 dX3_begin_13 rfl ck_X3_46 (c_X3_attachTo a (x.1, k, nK x, nB x, nE x, 1) b e ⟨xw_7, tP, tQ, tS, hk, hB, hE⟩ hb2 he2) rfl rfl (xw_7) rfl rfl (by rw [hR0]; exact ⟨Nat.le_of_ble_eq_true rfl, Nat.le_of_ble_eq_true rfl⟩) (Nat.le_of_ble_eq_true rfl) ⟨rfl, rfl⟩ (by rw [hR0]; exact Nat.zero_le _) (by rw [hR0]; exact Nat.zero_le _) (fun w_13 nw_13 qw_13 => ?_)
  obtain ⟨rfl, hN, ow_13⟩ := qw_13
  have hD : tx w_13 u 120 D := hD.off ow_13 (by omega)
  refine r_aload_n hb 17 dX3_begin_16 rfl 0 rfl ?_
  refine r_aload hb 19 dX3_begin_17 rfl 4 rfl ?_
  refine r_callV0 (st := []) hb ho 22 dX3_begin_19 rfl ck_X3_50 (c_X3_quoteFrom a u (x.1, k, true, b, e, 1) D hN hD hd he) rfl rfl (hN.1) rfl rfl (by rw [hR0]; exact ⟨Nat.le_of_ble_eq_true rfl, Nat.le_of_ble_eq_true rfl⟩) (Nat.le_of_ble_eq_true rfl) ⟨rfl, rfl⟩ (by rw [hR0]; exact Nat.zero_le _) (by rw [hR0]; exact Nat.zero_le _) (fun w_19 nw_19 qw_19 => ?_)
  obtain ⟨rfl, hN, ow_19⟩ := qw_19
  have hD : tx w_19 u 120 D := hD.off ow_19 (by omega)
  refine r_vret hS dX3_begin_22 rfl (Nat.zero_le _) (Nat.zero_le _) ?_
  exact ⟨rfl, rfl, hN, (((ow_2.mono (by omega) (by omega)).trans (ow_7.mono (by omega) (by omega))).trans (ow_13.mono (by omega) (by omega))).trans (ow_19.mono (by omega) (by omega))⟩

abbrev rm_X3_likeBefore : Room := { frames := 1, cells := 0, slots := 0, locals := 21 }
set_option maxHeartbeats 4000000 in
set_option maxRecDepth 100000 in
theorem c_X3_likeBefore (a u s : Nat) (x : Nt) (D : List Int32) {w : PW} {n : Nat} (hN : nt w a x) (hD : tx w u 120 D) (hs : s ≤ D.length) (hok : okL (nP x)) : CtR yX3_likeBefore cX3_likeBefore 4 (some .int) rm_X3_likeBefore [.ref a, .ref u, .int (iI (((s : Nat) : Int)))] w n (.int (iI (((lkB (nP x) D s : Nat) : Int)))) := by
  obtain ⟨h0, tP, tQ, tS, hnum, hB, hE⟩ := id hN
  have p0 := tP.1
  have p1 := tP.2.1
  have d0 := hD.1
  have d1 := hD.2.1
  refine Ctr.of rfl (Nat.le_of_ble_eq_true rfl) fun S hS => ?_
  have hb : S.1.1 = cX3_likeBefore := by rw [hS]; rfl
  have ho : S.1.2.1 = RX3 := by rw [hS]; rfl
  have hnL : S.1.2.2.1 = 4 := by rw [hS]; rfl
  have hR0 : S.2.1 = rm_X3_likeBefore := by rw [hS]; rfl
  show Wp S 0 [(0, .ref a), (1, .ref u), (2, .int (iI (((s : Nat) : Int))))] [] w n 0 0
  refine r_iconst hb 1 dX3_likeBefore_0 rfl ?_
  refine r_istore_n [(3, .int (iI 0)), (0, .ref a), (1, .ref u), (2, .int (iI (((s : Nat) : Int))))] hb 2 4 dX3_likeBefore_1 rfl rfl hnL (by decide) rfl ?_
  have lp : ∀ (d : Nat) (i : Nat), (nP x).length - i = d → (i ≤ (nP x).length) → (runL (lkcB (nP x) D s) ((nP x).length - i) i = lkB (nP x) D s) → Wp S 2 [(3, .int (iI (((i : Nat) : Int)))), (0, .ref a), (1, .ref u), (2, .int (iI (((s : Nat) : Int))))] [] w n 0 0 := by
    intro d
    induction d using Nat.strongRecOn with
    | _ d ih_lp =>
      intro i hd_lp hi hr
      refine r_iload_n hb 3 dX3_likeBefore_2 rfl 0 rfl ?_
      refine r_aload_n hb 4 dX3_likeBefore_3 rfl 1 rfl ?_
      refine r_get hb ho 7 dX3_likeBefore_4 rfl lk_X3_14 pf_X3_0 h0 rfl ?_
      refine r_get hb ho 10 dX3_likeBefore_7 rfl lk_X3_78 pf_X7_1 p0 rfl ?_
      refine r_icmp_ge hb 13 49 dX3_likeBefore_10 rfl (by decide) (by omega) (by omega) (fun c10 => ?_) (fun c10 => ?_)
      · refine r_iload_n hb 50 dX3_likeBefore_49 rfl 0 rfl ?_
        refine r_iret hS dX3_likeBefore_50 rfl rfl (Nat.zero_le _) (Nat.zero_le _) ?_
        have e := runL_f (c := lkcB (nP x) D s) (N := (nP x).length) (a := i) (Or.inl (by omega))
        exact ⟨_, rfl, by rw [← hr, e], rfl, rfl⟩
      · refine r_aload_n hb 14 dX3_likeBefore_13 rfl 1 rfl ?_
        refine r_get hb ho 17 dX3_likeBefore_14 rfl lk_X3_14 pf_X3_0 h0 rfl ?_
        refine r_aload_n hb 18 dX3_likeBefore_17 rfl 1 rfl ?_
        refine r_get hb ho 21 dX3_likeBefore_18 rfl lk_X3_14 pf_X3_0 h0 rfl ?_
        refine r_get hb ho 24 dX3_likeBefore_21 rfl lk_X3_78 pf_X7_1 p0 rfl ?_
        refine r_iconst hb 25 dX3_likeBefore_24 rfl ?_
        refine r_isubZ hb 26 ((((nP x).length : Nat) : Int) - 1) dX3_likeBefore_25 rfl (by omega) ?_
        refine r_iload_n hb 27 dX3_likeBefore_26 rfl 0 rfl ?_
        refine r_isubZ hb 28 ((((nP x).length : Nat) : Int) - ((i : Nat) : Int) - 1) dX3_likeBefore_27 rfl (by omega) ?_
        refine r_callVR (st := []) hb ho 31 dX3_likeBefore_28 rfl ck_X3_81 (c_X7_at (a + 1) 6 (nP x) ((((nP x).length : Nat) : Int) - ((i : Nat) : Int) - 1) tP (by omega) (by omega)) rfl rfl (p0) rfl rfl (by rw [hR0]; exact ⟨Nat.le_of_ble_eq_true rfl, Nat.le_of_ble_eq_true rfl⟩) (Nat.le_of_ble_eq_true rfl) ⟨rfl, rfl⟩ (by rw [hR0]; exact Nat.zero_le _) (by rw [hR0]; exact Nat.zero_le _) ?_
        refine r_aload_n hb 32 dX3_likeBefore_31 rfl 2 rfl ?_
        refine r_iload_n hb 33 dX3_likeBefore_32 rfl 3 rfl ?_
        refine r_iconst hb 34 dX3_likeBefore_33 rfl ?_
        refine r_isubZ hb 35 (((s : Nat) : Int) - 1) dX3_likeBefore_34 rfl (by omega) ?_
        refine r_iload_n hb 36 dX3_likeBefore_35 rfl 0 rfl ?_
        refine r_isubZ hb 37 (((s : Nat) : Int) - ((i : Nat) : Int) - 1) dX3_likeBefore_36 rfl (by omega) ?_
        refine r_callVR (st := [.int (textAt (nP x) ((((nP x).length : Nat) : Int) - ((i : Nat) : Int) - 1))]) hb ho 40 dX3_likeBefore_37 rfl ck_X3_81 (c_X7_at (u) 120 D (((s : Nat) : Int) - ((i : Nat) : Int) - 1) hD (by omega) (by omega)) rfl rfl (d0) rfl rfl (by rw [hR0]; exact ⟨Nat.le_of_ble_eq_true rfl, Nat.le_of_ble_eq_true rfl⟩) (Nat.le_of_ble_eq_true rfl) ⟨rfl, rfl⟩ (by rw [hR0]; exact Nat.zero_le _) (by rw [hR0]; exact Nat.zero_le _) ?_
        refine r_icmpR_ne hb 43 49 dX3_likeBefore_40 rfl (by decide) (fun c40 => ?_) (fun c40 => ?_)
        · refine r_iload_n hb 50 dX3_likeBefore_49 rfl 0 rfl ?_
          refine r_iret hS dX3_likeBefore_50 rfl rfl (Nat.zero_le _) (Nat.zero_le _) ?_
          have e := runL_f (c := lkcB (nP x) D s) (N := (nP x).length) (a := i) (Or.inr (decide_eq_false (fun ⟨h3, h4⟩ => c40 (by
              rw [textAt_in (by omega) (by omega), textAt_in (by omega) (by omega), show ((((nP x).length : Nat) : Int) - ((i : Nat) : Int) - 1).toNat = (nP x).length - 1 - i by omega, show ((s : Int) - ((i : Nat) : Int) - 1).toNat = s - 1 - i by omega]
              exact h4))))
          exact ⟨_, rfl, by rw [← hr, e], rfl, rfl⟩
        · refine r_iinc [(3, .int (iI (((i : Nat) : Int) + 1))), (0, .ref a), (1, .ref u), (2, .int (iI (((s : Nat) : Int))))] hb 46 4 0 dX3_likeBefore_43 rfl rfl hnL (by decide) (((i : Nat) : Int) + 1) (by omega) rfl ?_
          refine r_goto hb 2 dX3_likeBefore_46 (by decide) ?_
          have hc : lkcB (nP x) D s i = true := decide_eq_true (by
              have h2 := c40
              have hok := hok.get (i := (nP x).length - 1 - i) (by omega)
              rw [textAt_in (by omega) (by omega), show ((((nP x).length : Nat) : Int) - ((i : Nat) : Int) - 1).toNat = (nP x).length - 1 - i by omega] at h2
              by_cases h3 : i < s
              · rw [textAt_in (by omega) (by omega), show ((s : Int) - ((i : Nat) : Int) - 1).toNat = s - 1 - i by omega] at h2
                exact ⟨h3, h2⟩
              · rw [textAt_out (by omega)] at h2
                exact absurd h2 hok)
          refine r_lv [(3, .int (iI (((i + 1 : Nat)) : Int))), (0, .ref a), (1, .ref u), (2, .int (iI ((s : Nat) : Int)))] [0, 1, 2, 3] rfl ?_
          exact ih_lp ((nP x).length - (i + 1)) (by omega) (i + 1) rfl (by omega) (by rw [← runL_t (by omega) hc]; exact hr)
  refine r_lv [(3, .int (iI (((0 : Nat)) : Int))), (0, .ref a), (1, .ref u), (2, .int (iI ((s : Nat) : Int)))] [0, 1, 2, 3] rfl ?_
  exact lp _ 0 rfl (Nat.zero_le _) rfl

abbrev rm_X3_likeBehind : Room := { frames := 1, cells := 0, slots := 0, locals := 21 }
set_option maxHeartbeats 4000000 in
set_option maxRecDepth 100000 in
theorem c_X3_likeBehind (a u s : Nat) (x : Nt) (D : List Int32) {w : PW} {n : Nat} (hN : nt w a x) (hD : tx w u 120 D) (hs : s ≤ D.length) (hok : okL (nS x)) : CtR yX3_likeBehind cX3_likeBehind 4 (some .int) rm_X3_likeBehind [.ref a, .ref u, .int (iI (((s : Nat) : Int)))] w n (.int (iI (((lkS (nS x) D s : Nat) : Int)))) := by
  obtain ⟨h0, tP, tQ, tS, hnum, hB, hE⟩ := id hN
  have p0 := tS.1
  have p1 := tS.2.1
  have d0 := hD.1
  have d1 := hD.2.1
  refine Ctr.of rfl (Nat.le_of_ble_eq_true rfl) fun S hS => ?_
  have hb : S.1.1 = cX3_likeBehind := by rw [hS]; rfl
  have ho : S.1.2.1 = RX3 := by rw [hS]; rfl
  have hnL : S.1.2.2.1 = 4 := by rw [hS]; rfl
  have hR0 : S.2.1 = rm_X3_likeBehind := by rw [hS]; rfl
  show Wp S 0 [(0, .ref a), (1, .ref u), (2, .int (iI (((s : Nat) : Int))))] [] w n 0 0
  refine r_iconst hb 1 dX3_likeBehind_0 rfl ?_
  refine r_istore_n [(3, .int (iI 0)), (0, .ref a), (1, .ref u), (2, .int (iI (((s : Nat) : Int))))] hb 2 4 dX3_likeBehind_1 rfl rfl hnL (by decide) rfl ?_
  have lp : ∀ (d : Nat) (i : Nat), (nS x).length - i = d → (i ≤ (nS x).length) → (runL (lkcS (nS x) D s) ((nS x).length - i) i = lkS (nS x) D s) → Wp S 2 [(3, .int (iI (((i : Nat) : Int)))), (0, .ref a), (1, .ref u), (2, .int (iI (((s : Nat) : Int))))] [] w n 0 0 := by
    intro d
    induction d using Nat.strongRecOn with
    | _ d ih_lp =>
      intro i hd_lp hi hr
      refine r_iload_n hb 3 dX3_likeBehind_2 rfl 0 rfl ?_
      refine r_aload_n hb 4 dX3_likeBehind_3 rfl 1 rfl ?_
      refine r_get hb ho 7 dX3_likeBehind_4 rfl lk_X3_23 pf_X3_2 h0 rfl ?_
      refine r_get hb ho 10 dX3_likeBehind_7 rfl lk_X3_78 pf_X7_1 p0 rfl ?_
      refine r_icmp_ge hb 13 37 dX3_likeBehind_10 rfl (by decide) (by omega) (by omega) (fun c10 => ?_) (fun c10 => ?_)
      · refine r_iload_n hb 38 dX3_likeBehind_37 rfl 0 rfl ?_
        refine r_iret hS dX3_likeBehind_38 rfl rfl (Nat.zero_le _) (Nat.zero_le _) ?_
        have e := runL_f (c := lkcS (nS x) D s) (N := (nS x).length) (a := i) (Or.inl (by omega))
        exact ⟨_, rfl, by rw [← hr, e], rfl, rfl⟩
      · refine r_aload_n hb 14 dX3_likeBehind_13 rfl 1 rfl ?_
        refine r_get hb ho 17 dX3_likeBehind_14 rfl lk_X3_23 pf_X3_2 h0 rfl ?_
        refine r_iload_n hb 18 dX3_likeBehind_17 rfl 0 rfl ?_
        refine r_callVR (st := []) hb ho 21 dX3_likeBehind_18 rfl ck_X3_81 (c_X7_at (a + 5) 6 (nS x) (((i : Nat) : Int)) tS (by omega) (by omega)) rfl rfl (p0) rfl rfl (by rw [hR0]; exact ⟨Nat.le_of_ble_eq_true rfl, Nat.le_of_ble_eq_true rfl⟩) (Nat.le_of_ble_eq_true rfl) ⟨rfl, rfl⟩ (by rw [hR0]; exact Nat.zero_le _) (by rw [hR0]; exact Nat.zero_le _) ?_
        refine r_aload_n hb 22 dX3_likeBehind_21 rfl 2 rfl ?_
        refine r_iload_n hb 23 dX3_likeBehind_22 rfl 3 rfl ?_
        refine r_iload_n hb 24 dX3_likeBehind_23 rfl 0 rfl ?_
        refine r_iaddZ hb 25 (((s : Nat) : Int) + ((i : Nat) : Int)) dX3_likeBehind_24 rfl (by omega) ?_
        refine r_callVR (st := [.int (textAt (nS x) (((i : Nat) : Int)))]) hb ho 28 dX3_likeBehind_25 rfl ck_X3_81 (c_X7_at (u) 120 D (((s : Nat) : Int) + ((i : Nat) : Int)) hD (by omega) (by omega)) rfl rfl (d0) rfl rfl (by rw [hR0]; exact ⟨Nat.le_of_ble_eq_true rfl, Nat.le_of_ble_eq_true rfl⟩) (Nat.le_of_ble_eq_true rfl) ⟨rfl, rfl⟩ (by rw [hR0]; exact Nat.zero_le _) (by rw [hR0]; exact Nat.zero_le _) ?_
        refine r_icmpR_ne hb 31 37 dX3_likeBehind_28 rfl (by decide) (fun c28 => ?_) (fun c28 => ?_)
        · refine r_iload_n hb 38 dX3_likeBehind_37 rfl 0 rfl ?_
          refine r_iret hS dX3_likeBehind_38 rfl rfl (Nat.zero_le _) (Nat.zero_le _) ?_
          have e := runL_f (c := lkcS (nS x) D s) (N := (nS x).length) (a := i) (Or.inr (decide_eq_false (fun ⟨h3, h4⟩ => c28 (by
              rw [textAt_nat (by omega), textAt_in (by omega) (by omega), show ((s : Int) + ((i : Nat) : Int)).toNat = s + i by omega]
              exact h4))))
          exact ⟨_, rfl, by rw [← hr, e], rfl, rfl⟩
        · refine r_iinc [(3, .int (iI (((i : Nat) : Int) + 1))), (0, .ref a), (1, .ref u), (2, .int (iI (((s : Nat) : Int))))] hb 34 4 0 dX3_likeBehind_31 rfl rfl hnL (by decide) (((i : Nat) : Int) + 1) (by omega) rfl ?_
          refine r_goto hb 2 dX3_likeBehind_34 (by decide) ?_
          have hc : lkcS (nS x) D s i = true := decide_eq_true (by
              have h2 := c28
              have hok := hok.get (i := i) (by omega)
              rw [textAt_nat (by omega)] at h2
              by_cases h3 : s + i < D.length
              · rw [textAt_in (by omega) (by omega), show ((s : Int) + ((i : Nat) : Int)).toNat = s + i by omega] at h2
                exact ⟨h3, h2⟩
              · rw [textAt_out (by omega)] at h2
                exact absurd h2 hok)
          refine r_lv [(3, .int (iI (((i + 1 : Nat)) : Int))), (0, .ref a), (1, .ref u), (2, .int (iI ((s : Nat) : Int)))] [0, 1, 2, 3] rfl ?_
          exact ih_lp ((nS x).length - (i + 1)) (by omega) (i + 1) rfl (by omega) (by rw [← runL_t (by omega) hc]; exact hr)
  refine r_lv [(3, .int (iI (((0 : Nat)) : Int))), (0, .ref a), (1, .ref u), (2, .int (iI ((s : Nat) : Int)))] [0, 1, 2, 3] rfl ?_
  exact lp _ 0 rfl (Nat.zero_le _) rfl

abbrev rm_X3_scoreOf : Room := { frames := 2, cells := 0, slots := 0, locals := 44 }
set_option maxHeartbeats 4000000 in
set_option maxRecDepth 100000 in
theorem c_X3_scoreOf (a u d s e : Nat) (x : Nt) (D : List Int32) {w : PW} {n : Nat} (hN : nt w a x) (hD : tx w u 120 D) (hs : s ≤ D.length) (he : e ≤ D.length) (hd : d ≤ 1000) (hok : okL (nP x)) (hok2 : okL (nS x)) : CtR yX3_scoreOf cX3_scoreOf 6 (some .int) rm_X3_scoreOf [.ref a, .int (iI (((d : Nat) : Int))), .ref u, .int (iI (((s : Nat) : Int))), .int (iI (((e : Nat) : Int)))] w n (.int (iI ((scN x D s e d)))) := by
  obtain ⟨h0, tP, tQ, tS, hnum, hB, hE⟩ := id hN
  refine Ctr.of rfl (Nat.le_of_ble_eq_true rfl) fun S hS => ?_
  have hb : S.1.1 = cX3_scoreOf := by rw [hS]; rfl
  have ho : S.1.2.1 = RX3 := by rw [hS]; rfl
  have hnL : S.1.2.2.1 = 6 := by rw [hS]; rfl
  have hR0 : S.2.1 = rm_X3_scoreOf := by rw [hS]; rfl
  show Wp S 0 [(0, .ref a), (1, .int (iI (((d : Nat) : Int)))), (2, .ref u), (3, .int (iI (((s : Nat) : Int)))), (4, .int (iI (((e : Nat) : Int))))] [] w n 0 0
  refine r_aload_n hb 1 dX3_scoreOf_0 rfl 0 rfl ?_
  refine r_aload_n hb 2 dX3_scoreOf_1 rfl 2 rfl ?_
  refine r_iload_n hb 3 dX3_scoreOf_2 rfl 3 rfl ?_
  refine r_callVR (st := []) hb ho 6 dX3_scoreOf_3 rfl ck_X3_67 (c_X3_likeBefore a u s x D hN hD hs hok) rfl rfl (h0) rfl rfl (by rw [hR0]; exact ⟨Nat.le_of_ble_eq_true rfl, Nat.le_of_ble_eq_true rfl⟩) (Nat.le_of_ble_eq_true rfl) ⟨rfl, rfl⟩ (by rw [hR0]; exact Nat.zero_le _) (by rw [hR0]; exact Nat.zero_le _) ?_
  refine r_aload_n hb 7 dX3_scoreOf_6 rfl 0 rfl ?_
  refine r_aload_n hb 8 dX3_scoreOf_7 rfl 2 rfl ?_
  refine r_iload hb 10 dX3_scoreOf_8 rfl 4 rfl ?_
  refine r_callVR (st := [.int (iI (((lkB (nP x) D s : Nat) : Int)))]) hb ho 13 dX3_scoreOf_10 rfl ck_X3_71 (c_X3_likeBehind a u e x D hN hD he hok2) rfl rfl (h0) rfl rfl (by rw [hR0]; exact ⟨Nat.le_of_ble_eq_true rfl, Nat.le_of_ble_eq_true rfl⟩) (Nat.le_of_ble_eq_true rfl) ⟨rfl, rfl⟩ (by rw [hR0]; exact Nat.zero_le _) (by rw [hR0]; exact Nat.zero_le _) ?_
  refine r_iaddZ hb 14 (((lkB (nP x) D s : Nat) : Int) + ((lkS (nS x) D e : Nat) : Int)) dX3_scoreOf_13 rfl (by omega) ?_
  refine r_istore [(5, .int (iI (((lkB (nP x) D s : Nat) : Int) + ((lkS (nS x) D e : Nat) : Int)))), (0, .ref a), (1, .int (iI (((d : Nat) : Int)))), (2, .ref u), (3, .int (iI (((s : Nat) : Int)))), (4, .int (iI (((e : Nat) : Int))))] hb 16 6 dX3_scoreOf_14 rfl hnL (by decide) rfl ?_
  refine r_bipush 60 hb 18 dX3_scoreOf_16 rfl rfl ?_
  refine r_bipush 10 hb 20 dX3_scoreOf_18 rfl rfl ?_
  refine r_iload_n hb 21 dX3_scoreOf_20 rfl 2 rfl ?_
  refine r_imulZ hb 22 (10 * ((d : Nat) : Int)) dX3_scoreOf_21 rfl (by omega) ?_
  refine r_isubZ hb 23 ((-10) * ((d : Nat) : Int) + 60) dX3_scoreOf_22 rfl (by omega) ?_
  refine r_iconst hb 24 dX3_scoreOf_23 rfl ?_
  refine r_iload hb 26 dX3_scoreOf_24 rfl 0 rfl ?_
  refine r_imulZ hb 27 (4 * ((lkB (nP x) D s : Nat) : Int) + 4 * ((lkS (nS x) D e : Nat) : Int)) dX3_scoreOf_26 rfl (by omega) ?_
  refine r_iaddZ hb 28 ((-10) * ((d : Nat) : Int) + 4 * ((lkB (nP x) D s : Nat) : Int) + 4 * ((lkS (nS x) D e : Nat) : Int) + 60) dX3_scoreOf_27 rfl (by omega) ?_
  refine r_iload_n hb 29 dX3_scoreOf_28 rfl 4 rfl ?_
  refine r_aload_n hb 30 dX3_scoreOf_29 rfl 1 rfl ?_
  refine r_get hb ho 33 dX3_scoreOf_30 rfl lk_X3_37 pf_X3_5 h0 rfl ?_
  refine r_isubZ hb 34 (((s : Nat) : Int) - ((nB x : Nat) : Int)) dX3_scoreOf_33 rfl (by omega) ?_
  have l1 := lkB_le (nP x) D s
  have l2 := lkS_le (nS x) D e
  have d1 := hD.2.1
  refine r_abs hb ho 37 dX3_scoreOf_34 rfl ck_X3_74 (by rw [hR0]; exact Nat.le_of_ble_eq_true rfl) (by rw [hR0]; exact Nat.le_of_ble_eq_true rfl) (by rw [hR0]; exact Nat.zero_le _) (by rw [hR0]; exact Nat.zero_le _) (by omega) (((((s : Int) - (nB x : Int)).natAbs : Nat) : Int)) (by omega) ?_
  refine r_iconst hb 38 dX3_scoreOf_37 rfl ?_
  refine r_idiv hb 39 dX3_scoreOf_38 rfl (by decide) ?_
  refine r_topz (((((s : Int) - (nB x : Int)).natAbs / 5 : Nat) : Int)) (iI_tdiv5 (by omega)) ?_
  refine r_isubZ hb 40 ((-10) * ((d : Nat) : Int) + 4 * ((lkB (nP x) D s : Nat) : Int) + 4 * ((lkS (nS x) D e : Nat) : Int) - ((((s : Int) - (nB x : Int)).natAbs / 5 : Nat) : Int) + 60) dX3_scoreOf_39 rfl (by omega) ?_
  refine r_iret hS dX3_scoreOf_40 rfl rfl (Nat.zero_le _) (Nat.zero_le _) ?_
  exact ⟨_, rfl, congrArg (fun z => Value.int (iI z)) (by unfold scN; omega), rfl, rfl⟩

abbrev rm_X3_init : Room := { frames := 2, cells := 6, slots := 34, locals := 42 }
set_option maxHeartbeats 4000000 in
set_option maxRecDepth 100000 in
theorem c_X3_init (a : Nat) {w : PW}  (h0 : w a = some (eO 3 [.null, .null, .null, .int (iI 0), .int (iI 0), .int (iI 0), .int (iI 0), .int (iI 0)])) : Ct0 yX3_init cX3_init 1 none rm_X3_init [.ref a] w (a + 1) (fun w1 n1 => n1 = a + 7 ∧ nt w1 a (([], [], []), 0, false, 0, 0, 0) ∧ off w w1 a (a + 7)) := by
  refine Ctr.of rfl (Nat.le_of_ble_eq_true rfl) fun S hS => ?_
  have hb : S.1.1 = cX3_init := by rw [hS]; rfl
  have ho : S.1.2.1 = RX3 := by rw [hS]; rfl
  have hnL : S.1.2.2.1 = 1 := by rw [hS]; rfl
  have hR0 : S.2.1 = rm_X3_init := by rw [hS]; rfl
  have hnm : S.1.2.2.2.2 = "<init>" := by rw [hS]; rfl
  show Wp S 0 [(0, .ref a)] [] w (a + 1) 0 0
  refine r_aload_n hb 1 dX3_init_0 rfl 0 rfl ?_
  refine r_objInit hb ho 4 dX3_init_1 rfl ck_X3_3 ob_i ob_c (by rw [hR0]; exact Nat.le_of_ble_eq_true rfl) (by rw [hR0]; exact Nat.le_of_ble_eq_true rfl) ?_
  refine r_aload_n hb 5 dX3_init_4 rfl 0 rfl ?_
  refine r_new hb ho 8 dX3_init_5 rfl (kn_X7 kc_X3_9) (by rw [hR0]; exact Nat.le_of_ble_eq_true rfl) (by rw [hR0]; exact Nat.le_of_ble_eq_true rfl) (fun w_5 hw_5 => ?_)
  have ow_5 := pset_off hw_5
  have fw_5 : w_5 (a + 1) = some (eO 7 [.null, .int (iI 0)]) := by rw [hw_5]; exact pset_eq _ _ _
  have h0 : w_5 a = some (eO 3 [.null, .null, .null, .int (iI 0), .int (iI 0), .int (iI 0), .int (iI 0), .int (iI 0)]) := (ow_5 _ (by omega)).trans h0
  refine r_dup hb 9 dX3_init_8 rfl rfl ?_
  refine r_bipush 6 hb 11 dX3_init_9 rfl rfl ?_
  refine r_callN0 (st := [.ref ((a + 1)), .ref a]) hb ho 14 dX3_init_11 rfl ck_X3_11 (c_X7_init (a + 1) 6 fw_5 (by omega)) rfl rfl (by rw [hR0]; exact ⟨Nat.le_of_ble_eq_true rfl, Nat.le_of_ble_eq_true rfl⟩) (Nat.le_of_ble_eq_true rfl) (by rw [hR0]; exact Nat.le_of_ble_eq_true rfl) (by rw [hR0]; exact Nat.le_of_ble_eq_true rfl) (fun w_11 nw_11 qw_11 => ?_)
  obtain ⟨rfl, tP, ow_11⟩ := qw_11
  have h0 : w_11 a = some (eO 3 [.null, .null, .null, .int (iI 0), .int (iI 0), .int (iI 0), .int (iI 0), .int (iI 0)]) := (ow_11 _ (by omega)).trans h0
  refine r_putF hb ho hnm rfl 17 dX3_init_14 rfl lkw_X3_14 pf_X3_0 h0 (Nat.le_of_ble_eq_true rfl) ⟨rfl, rfl⟩ (fun w_14 hw_14 => ?_)
  have ow_14 := pset_off hw_14
  have xw_14 : w_14 a = some (eO 3 [.ref ((a + 1)), .null, .null, .int (iI 0), .int (iI 0), .int (iI 0), .int (iI 0), .int (iI 0)]) := by rw [hw_14]; exact pset_eq _ _ _
  have tP : tx w_14 (a + 1) 6 [] := tP.off ow_14 (by omega)
  refine r_aload_n hb 18 dX3_init_17 rfl 0 rfl ?_
  refine r_new hb ho 21 dX3_init_18 rfl (kn_X7 kc_X3_9) (by rw [hR0]; exact Nat.le_of_ble_eq_true rfl) (by rw [hR0]; exact Nat.le_of_ble_eq_true rfl) (fun w_18 hw_18 => ?_)
  have ow_18 := pset_off hw_18
  have fw_18 : w_18 (a + 3) = some (eO 7 [.null, .int (iI 0)]) := by rw [hw_18]; exact pset_eq _ _ _
  have xw_14 : w_18 a = some (eO 3 [.ref ((a + 1)), .null, .null, .int (iI 0), .int (iI 0), .int (iI 0), .int (iI 0), .int (iI 0)]) := (ow_18 _ (by omega)).trans xw_14
  have tP : tx w_18 (a + 1) 6 [] := tP.off ow_18 (by omega)
  refine r_dup hb 22 dX3_init_21 rfl rfl ?_
  refine r_bipush 16 hb 24 dX3_init_22 rfl rfl ?_
  refine r_callN0 (st := [.ref ((a + 3)), .ref a]) hb ho 27 dX3_init_24 rfl ck_X3_11 (c_X7_init (a + 3) 16 fw_18 (by omega)) rfl rfl (by rw [hR0]; exact ⟨Nat.le_of_ble_eq_true rfl, Nat.le_of_ble_eq_true rfl⟩) (Nat.le_of_ble_eq_true rfl) (by rw [hR0]; exact Nat.le_of_ble_eq_true rfl) (by rw [hR0]; exact Nat.le_of_ble_eq_true rfl) (fun w_24 nw_24 qw_24 => ?_)
  obtain ⟨rfl, tQ, ow_24⟩ := qw_24
  have xw_14 : w_24 a = some (eO 3 [.ref ((a + 1)), .null, .null, .int (iI 0), .int (iI 0), .int (iI 0), .int (iI 0), .int (iI 0)]) := (ow_24 _ (by omega)).trans xw_14
  have tP : tx w_24 (a + 1) 6 [] := tP.off ow_24 (by omega)
  refine r_putF hb ho hnm rfl 30 dX3_init_27 rfl lkw_X3_20 pf_X3_1 xw_14 (Nat.le_of_ble_eq_true rfl) ⟨rfl, rfl⟩ (fun w_27 hw_27 => ?_)
  have ow_27 := pset_off hw_27
  have xw_27 : w_27 a = some (eO 3 [.ref ((a + 1)), .ref ((a + 3)), .null, .int (iI 0), .int (iI 0), .int (iI 0), .int (iI 0), .int (iI 0)]) := by rw [hw_27]; exact pset_eq _ _ _
  have tQ : tx w_27 (a + 3) 16 [] := tQ.off ow_27 (by omega)
  have tP : tx w_27 (a + 1) 6 [] := tP.off ow_27 (by omega)
  refine r_aload_n hb 31 dX3_init_30 rfl 0 rfl ?_
  refine r_new hb ho 34 dX3_init_31 rfl (kn_X7 kc_X3_9) (by rw [hR0]; exact Nat.le_of_ble_eq_true rfl) (by rw [hR0]; exact Nat.le_of_ble_eq_true rfl) (fun w_31 hw_31 => ?_)
  have ow_31 := pset_off hw_31
  have fw_31 : w_31 (a + 5) = some (eO 7 [.null, .int (iI 0)]) := by rw [hw_31]; exact pset_eq _ _ _
  have xw_27 : w_31 a = some (eO 3 [.ref ((a + 1)), .ref ((a + 3)), .null, .int (iI 0), .int (iI 0), .int (iI 0), .int (iI 0), .int (iI 0)]) := (ow_31 _ (by omega)).trans xw_27
  have tQ : tx w_31 (a + 3) 16 [] := tQ.off ow_31 (by omega)
  have tP : tx w_31 (a + 1) 6 [] := tP.off ow_31 (by omega)
  refine r_dup hb 35 dX3_init_34 rfl rfl ?_
  refine r_bipush 6 hb 37 dX3_init_35 rfl rfl ?_
  refine r_callN0 (st := [.ref ((a + 5)), .ref a]) hb ho 40 dX3_init_37 rfl ck_X3_11 (c_X7_init (a + 5) 6 fw_31 (by omega)) rfl rfl (by rw [hR0]; exact ⟨Nat.le_of_ble_eq_true rfl, Nat.le_of_ble_eq_true rfl⟩) (Nat.le_of_ble_eq_true rfl) (by rw [hR0]; exact Nat.le_of_ble_eq_true rfl) (by rw [hR0]; exact Nat.le_of_ble_eq_true rfl) (fun w_37 nw_37 qw_37 => ?_)
  obtain ⟨rfl, tS, ow_37⟩ := qw_37
  have xw_27 : w_37 a = some (eO 3 [.ref ((a + 1)), .ref ((a + 3)), .null, .int (iI 0), .int (iI 0), .int (iI 0), .int (iI 0), .int (iI 0)]) := (ow_37 _ (by omega)).trans xw_27
  have tQ : tx w_37 (a + 3) 16 [] := tQ.off ow_37 (by omega)
  have tP : tx w_37 (a + 1) 6 [] := tP.off ow_37 (by omega)
  refine r_putF hb ho hnm rfl 43 dX3_init_40 rfl lkw_X3_23 pf_X3_2 xw_27 (Nat.le_of_ble_eq_true rfl) ⟨rfl, rfl⟩ (fun w_40 hw_40 => ?_)
  have ow_40 := pset_off hw_40
  have xw_40 : w_40 a = some (eO 3 [.ref ((a + 1)), .ref ((a + 3)), .ref ((a + 5)), .int (iI 0), .int (iI 0), .int (iI 0), .int (iI 0), .int (iI 0)]) := by rw [hw_40]; exact pset_eq _ _ _
  have tS : tx w_40 (a + 5) 6 [] := tS.off ow_40 (by omega)
  have tQ : tx w_40 (a + 3) 16 [] := tQ.off ow_40 (by omega)
  have tP : tx w_40 (a + 1) 6 [] := tP.off ow_40 (by omega)
  refine r_vret hS dX3_init_43 rfl (Nat.le_of_ble_eq_true rfl) (Nat.le_of_ble_eq_true rfl) ?_
  exact ⟨rfl, rfl, ⟨xw_40, tP, tQ, tS, by decide, by decide, by decide⟩, ((((((((ow_5.mono (by omega) (by omega)).trans (ow_11.mono (by omega) (by omega))).trans (ow_14.mono (by omega) (by omega))).trans (ow_18.mono (by omega) (by omega))).trans (ow_24.mono (by omega) (by omega))).trans (ow_27.mono (by omega) (by omega))).trans (ow_31.mono (by omega) (by omega))).trans (ow_37.mono (by omega) (by omega))).trans (ow_40.mono (by omega) (by omega))⟩
end
section
/-! pure: edit distances, best candidates -/
def rowS (q : List Int32) (c : Int32) (r : Nat → Nat) : Nat → Nat
  | 0 => r 0 + 1
  | j + 1 => min (if q.getD j 0 = c then r j else r j + 1) (min (r (j + 1)) (rowS q c r j) + 1)
theorem rowS_le (q : List Int32) (c : Int32) (r : Nat → Nat) (j : Nat) : rowS q c r j ≤ r j + 1 := by
  cases j with
  | zero => exact Nat.le_refl _
  | succ j => simp only [rowS]; omega
/-- the row behind k letters of D from s on -/
def edK (q D : List Int32) (s : Nat) : Nat → Nat → Nat
  | 0 => fun j => j
  | k + 1 => rowS q (D.getD (s + k) 0) (edK q D s k)
theorem edK_le (q D : List Int32) (s : Nat) : ∀ k j, edK q D s k j ≤ j + k := by
  intro k
  induction k with
  | zero => intro j; exact Nat.le_refl _
  | succ k ih => intro j; have := rowS_le q (D.getD (s + k) 0) (edK q D s k) j; have := ih j; simp only [edK]; omega
theorem rowS_congr (q : List Int32) (c : Int32) {r r' : Nat → Nat} {m : Nat} (h : ∀ j, j ≤ m → r j = r' j) : ∀ j, j ≤ m → rowS q c r j = rowS q c r' j := by
  intro j
  induction j with
  | zero => intro hj; simp only [rowS]; rw [h 0 hj]
  | succ j ih => intro hj; simp only [rowS]; rw [h j (by omega), h (j + 1) hj, ih (by omega)]
def edD (q D : List Int32) (s e : Nat) : Nat := edK q D s (e - s) q.length
def bAt (x : Nt) (D : List Int32) (s : Nat) : Nat → Option (Int × Nat)
  | 0 => none
  | k + 1 =>
    if (nQ x).length ≤ k + 1 + 3 then
      match bAt x D s k with
      | none => some (scN x D s (s + (k + 1)) (edK (nQ x) D s (k + 1) (nQ x).length), k + 1)
      | some p => if p.1 < scN x D s (s + (k + 1)) (edK (nQ x) D s (k + 1) (nQ x).length) then some (scN x D s (s + (k + 1)) (edK (nQ x) D s (k + 1) (nQ x).length), k + 1) else some p
    else bAt x D s k
/-- the best candidate that starts at s: its score and length -/
def bA (x : Nt) (D : List Int32) (s : Nat) : Option (Int × Nat) := bAt x D s (min ((nQ x).length + 3) (D.length - s))
def gI (o : Option (Int × Nat)) : Int := match o with
  | none => -1005
  | some p => p.1
def gE (s : Nat) (o : Option (Int × Nat)) : Int := match o with
  | none => -1005
  | some p => ((s + p.2 : Nat) : Int)
def fBt (x : Nt) (D : List Int32) : Nat → Option (Int × Nat × Nat)
  | 0 => none
  | s + 1 => match bA x D s with
    | none => fBt x D s
    | some p => match fBt x D s with
      | none => some (p.1, s, p.2)
      | some r => if r.1 < p.1 then some (p.1, s, p.2) else some r
/-- the best candidate: score, start, length -/
def fB (x : Nt) (D : List Int32) : Option (Int × Nat × Nat) := fBt x D D.length
def gB0 (o : Option (Int × Nat × Nat)) : Int := match o with
  | none => -1005
  | some r => r.1
def gB1 (o : Option (Int × Nat × Nat)) : Int := match o with
  | none => -1005
  | some r => ((r.2.1 : Nat) : Int)
def gB2 (o : Option (Int × Nat × Nat)) : Int := match o with
  | none => -1005
  | some r => ((r.2.1 + r.2.2 : Nat) : Int)
/-- what every comment keeps to -/
def nOk (x : Nt) : Prop := (nP x).length ≤ 6 ∧ (nQ x).length ≤ 16 ∧ (nS x).length ≤ 6 ∧ nB x ≤ 200 ∧ okL (nP x) ∧ okL (nS x)
theorem scN_bd {x : Nt} (hx : nOk x) (D : List Int32) {s e d : Nat} (hd : d ≤ 60) (hs : s ≤ 200) : -700 ≤ scN x D s e d ∧ scN x D s e d ≤ 108 := by
  obtain ⟨h1, -, h3, h4, -⟩ := hx
  have l1 := lkB_le (nP x) D s
  have l2 := lkS_le (nS x) D e
  unfold scN
  omega
theorem bAt_bd {x : Nt} (hx : nOk x) (D : List Int32) {s : Nat} (hs : s ≤ 200) : ∀ k, k ≤ 40 → ∀ p, bAt x D s k = some p → -700 ≤ p.1 ∧ p.1 ≤ 108 ∧ 1 ≤ p.2 ∧ p.2 ≤ k := by
  intro k
  induction k with
  | zero => intro _ p h; simp [bAt] at h
  | succ k ih =>
    intro hk p h
    have hd := edK_le (nQ x) D s (k + 1) (nQ x).length
    have hb := scN_bd hx D (s := s) (e := s + (k + 1)) (d := edK (nQ x) D s (k + 1) (nQ x).length) (by have := hx.2.1; omega) hs
    simp only [bAt] at h
    split at h
    · split at h
      · cases h; exact ⟨hb.1, hb.2, by omega, by omega⟩
      · rename_i r hr
        split at h
        · cases h; exact ⟨hb.1, hb.2, by omega, by omega⟩
        · cases h; have := ih (by omega) _ hr; omega
    · have := ih (by omega) _ h; omega
theorem bA_bd {x : Nt} (hx : nOk x) (D : List Int32) {s : Nat} (hs : s ≤ 200) {p : Int × Nat} (h : bA x D s = some p) : -700 ≤ p.1 ∧ p.1 ≤ 108 ∧ 1 ≤ p.2 ∧ s + p.2 ≤ D.length ∧ p.2 ≤ 19 := by
  have := bAt_bd hx D hs _ (by have := hx.2.1; omega) p h
  have := hx.2.1
  omega
theorem gI_bd {x : Nt} (hx : nOk x) (D : List Int32) {s : Nat} (hs : s ≤ 200) : -1005 ≤ gI (bA x D s) ∧ gI (bA x D s) ≤ 108 := by
  cases h : bA x D s with
  | none => simp [gI]
  | some p => have := bA_bd hx D hs h; simp only [gI]; omega
theorem gIt_bd {x : Nt} (hx : nOk x) (D : List Int32) {s : Nat} (hs : s ≤ 200) {k : Nat} (hk : k ≤ 40) : -1005 ≤ gI (bAt x D s k) ∧ gI (bAt x D s k) ≤ 108 := by
  cases h : bAt x D s k with
  | none => simp [gI]
  | some p => have := bAt_bd hx D hs k hk p h; simp only [gI]; omega
theorem bAt_up {x : Nt} {D : List Int32} {s k : Nat} (hx : nOk x) (hs : s ≤ 200) (hk : k < 40) (hm : (nQ x).length ≤ k + 1 + 3) (h : gI (bAt x D s k) < scN x D s (s + (k + 1)) (edK (nQ x) D s (k + 1) (nQ x).length)) : bAt x D s (k + 1) = some (scN x D s (s + (k + 1)) (edK (nQ x) D s (k + 1) (nQ x).length), k + 1) := by
  simp only [bAt]
  rw [if_pos hm]
  cases h2 : bAt x D s k with
  | none => rfl
  | some p => rw [h2] at h; simp only [gI] at h; simp only [h, if_true]
theorem bAt_keep {x : Nt} {D : List Int32} {s k : Nat} (hx : nOk x) (hs : s ≤ 200) (hk : k < 40) (hm : (nQ x).length ≤ k + 1 + 3) (h : scN x D s (s + (k + 1)) (edK (nQ x) D s (k + 1) (nQ x).length) ≤ gI (bAt x D s k)) : bAt x D s (k + 1) = bAt x D s k := by
  have hd := edK_le (nQ x) D s (k + 1) (nQ x).length
  have hb := scN_bd hx D (s := s) (e := s + (k + 1)) (d := edK (nQ x) D s (k + 1) (nQ x).length) (by have := hx.2.1; omega) hs
  simp only [bAt]
  rw [if_pos hm]
  cases h2 : bAt x D s k with
  | none => rw [h2] at h; simp only [gI] at h; omega
  | some p => rw [h2] at h; simp only [gI] at h; simp only [show ¬ (p.1 < scN x D s (s + (k + 1)) (edK (nQ x) D s (k + 1) (nQ x).length)) by omega, if_false]
theorem bAt_short {x : Nt} {D : List Int32} {s k : Nat} (hm : ¬ (nQ x).length ≤ k + 1 + 3) : bAt x D s (k + 1) = bAt x D s k := by
  simp only [bAt]; rw [if_neg hm]
theorem fBt_bd {x : Nt} (hx : nOk x) (D : List Int32) : ∀ s, s ≤ 200 → ∀ r, fBt x D s = some r → -700 ≤ r.1 ∧ r.1 ≤ 108 ∧ r.2.1 < s ∧ 1 ≤ r.2.2 ∧ r.2.1 + r.2.2 ≤ D.length ∧ r.2.2 ≤ 19 := by
  intro s
  induction s with
  | zero => intro _ r h; simp [fBt] at h
  | succ s ih =>
    intro hs r h
    simp only [fBt] at h
    split at h
    · have := ih (by omega) _ h; omega
    · rename_i p hp
      have hb := bA_bd hx D (by omega) hp
      split at h
      · cases h; simp only; omega
      · rename_i r' hr
        split at h
        · cases h; simp only; omega
        · cases h; have := ih (by omega) _ hr; omega
theorem gB0_bd {x : Nt} (hx : nOk x) (D : List Int32) {s : Nat} (hs : s ≤ 200) : -1005 ≤ gB0 (fBt x D s) ∧ gB0 (fBt x D s) ≤ 108 := by
  cases h : fBt x D s with
  | none => simp [gB0]
  | some p => have := fBt_bd hx D s hs p h; simp only [gB0]; omega
theorem fBt_up {x : Nt} {D : List Int32} {s : Nat} (hx : nOk x) (hs : s < 200) (h : gB0 (fBt x D s) < gI (bA x D s)) : ∃ p, bA x D s = some p ∧ fBt x D (s + 1) = some (p.1, s, p.2) := by
  have h0 := gB0_bd hx D (s := s) (by omega)
  cases h2 : bA x D s with
  | none => rw [h2] at h; simp only [gI] at h; omega
  | some p =>
    refine ⟨p, rfl, ?_⟩
    rw [h2] at h
    simp only [fBt, h2]
    cases h3 : fBt x D s with
    | none => rfl
    | some r => rw [h3] at h; simp only [gI, gB0] at h; simp only [h, if_true]
theorem fBt_keep {x : Nt} {D : List Int32} {s : Nat} (hx : nOk x) (hs : s < 200) (h : gI (bA x D s) ≤ gB0 (fBt x D s)) : fBt x D (s + 1) = fBt x D s := by
  simp only [fBt]
  cases h2 : bA x D s with
  | none => rfl
  | some p =>
    have hb := bA_bd hx D (s := s) (by omega) h2
    rw [h2] at h
    cases h3 : fBt x D s with
    | none => rw [h3] at h; simp only [gI, gB0] at h; omega
    | some r => rw [h3] at h; simp only [gI, gB0] at h; simp only [show ¬ (r.1 < p.1) by omega, if_false]
/-! the Finder at f, f + 1 -/
def fd (w : PW) (f : Nat) (b0 b1 b2 eh : Int) : Prop := w f = some (eO 1 [.ref (f + 1), .int (iI b0), .int (iI b1), .int (iI b2), .int (iI eh)])
def fr (w : PW) (f m : Nat) (r : Nat → Nat) : Prop := ∃ g : Nat → Nat, w (f + 1) = some (eI 17 (fun i => iI ((g i : Nat) : Int))) ∧ ∀ j, j ≤ m → g j = r j
theorem fd.off {w w1 : PW} {f lo hi : Nat} {b0 b1 b2 eh : Int} (h : fd w f b0 b1 b2 eh) (o : off w w1 lo hi) (d : f + 1 ≤ lo ∨ hi ≤ f) : fd w1 f b0 b1 b2 eh := (o _ (by omega)).trans h
theorem fr.off {w w1 : PW} {f m lo hi : Nat} {r : Nat → Nat} (h : fr w f m r) (o : off w w1 lo hi) (d : f + 2 ≤ lo ∨ hi ≤ f + 1) : fr w1 f m r := by
  obtain ⟨g, h1, h2⟩ := h
  exact ⟨g, (o _ (by omega)).trans h1, h2⟩
end
section
abbrev rm_X1_beginRow : Room := { frames := 0, cells := 0, slots := 0, locals := 0 }
set_option maxHeartbeats 4000000 in
set_option maxRecDepth 100000 in
theorem c_X1_beginRow (f m0 : Nat) (r0 : Nat → Nat) (b0 b1 b2 eh : Int) {w : PW} {n : Nat} (hF : fd w f b0 b1 b2 eh) (hR : fr w f m0 r0) : Ct0 yX1_beginRow cX1_beginRow 2 none rm_X1_beginRow [.ref f] w n (fun w1 n1 => n = n1 ∧ fr w1 f 16 (fun j => j) ∧ off w w1 (f + 1) (f + 2)) := by
  have fc := hF
  obtain ⟨g, fg, fg2⟩ := id hR
  refine Ctr.of rfl (Nat.le_of_ble_eq_true rfl) fun S hS => ?_
  have hb : S.1.1 = cX1_beginRow := by rw [hS]; rfl
  have ho : S.1.2.1 = RX1 := by rw [hS]; rfl
  have hnL : S.1.2.2.1 = 2 := by rw [hS]; rfl
  have hR0 : S.2.1 = rm_X1_beginRow := by rw [hS]; rfl
  show Wp S 0 [(0, .ref f)] [] w n 0 0
  refine r_iconst hb 1 dX1_beginRow_0 rfl ?_
  refine r_istore_n [(1, .int (iI 0)), (0, .ref f)] hb 2 2 dX1_beginRow_1 rfl rfl hnL (by decide) rfl ?_
  have lp : ∀ (d : Nat) (i : Nat) (wi : PW) (gi : Nat → Nat), 17 - i = d → (i ≤ 17) → (fd wi f b0 b1 b2 eh) → (wi (f + 1) = some (eI 17 (fun i => iI ((gi i : Nat) : Int)))) → (∀ j, j < i → gi j = j) → (off w wi (f + 1) (f + 2)) → Wp S 2 [(1, .int (iI (((i : Nat) : Int)))), (0, .ref f)] [] wi n 0 0 := by
    intro d
    induction d using Nat.strongRecOn with
    | _ d ih_lp =>
      intro i wi gi hd_lp hi fc fg hg hO
      refine r_iload_n hb 3 dX1_beginRow_2 rfl 0 rfl ?_
      refine r_aload_n hb 4 dX1_beginRow_3 rfl 1 rfl ?_
      refine r_get hb ho 7 dX1_beginRow_4 rfl lk_X1_9 pf_X1_0 fc rfl ?_
      refine r_alen hb 8 dX1_beginRow_7 rfl fg (by decide) 17 rfl ?_
      refine r_icmp_ge hb 11 24 dX1_beginRow_8 rfl (by decide) (by omega) (by omega) (fun c8 => ?_) (fun c8 => ?_)
      · refine r_vret hS dX1_beginRow_24 rfl (Nat.zero_le _) (Nat.zero_le _) ?_
        exact ⟨rfl, rfl, ⟨gi, fg, fun j hj => hg j (by omega)⟩, hO⟩
      · refine r_aload_n hb 12 dX1_beginRow_11 rfl 1 rfl ?_
        refine r_get hb ho 15 dX1_beginRow_12 rfl lk_X1_9 pf_X1_0 fc rfl ?_
        refine r_iload_n hb 16 dX1_beginRow_15 rfl 0 rfl ?_
        refine r_iload_n hb 17 dX1_beginRow_16 rfl 0 rfl ?_
        refine r_iastN (x := i) (by omega) hb 18 dX1_beginRow_17 rfl fg i (by omega) (⟨by omega, by omega⟩) (fun w_17 hw_17 => ?_)
        have ow_17 := pset_off hw_17
        have xw_17 : w_17 (f + 1) = some (eI 17 (fun ii => iI (((updN gi i i) ii : Nat) : Int))) := by rw [hw_17]; exact pset_eq _ _ _
        have fc : w_17 f = some (eO 1 [.ref (f + 1), .int (iI (b0)), .int (iI (b1)), .int (iI (b2)), .int (iI (eh))]) := (ow_17 _ (by omega)).trans fc
        refine r_iinc [(1, .int (iI (((i : Nat) : Int) + 1))), (0, .ref f)] hb 21 2 0 dX1_beginRow_18 rfl rfl hnL (by decide) (((i : Nat) : Int) + 1) (by omega) rfl ?_
        refine r_goto hb 2 dX1_beginRow_21 (by decide) ?_
        refine r_lv [(1, .int (iI (((i + 1 : Nat)) : Int))), (0, .ref f)] [0, 1] rfl ?_
        refine ih_lp (17 - (i + 1)) (by omega) (i + 1) _ _ rfl (by omega) fc xw_17 ?_ (hO.trans (ow_17.mono (by omega) (by omega)))
        intro j hj
        by_cases h : j = i
        · subst h; exact updN_s _ _ _
        · rw [updN_n _ _ h]; exact hg j (by omega)
  refine r_lv [(1, .int (iI (((0 : Nat)) : Int))), (0, .ref f)] [0, 1] rfl ?_
  exact lp _ 0 _ g rfl (Nat.zero_le _) fc fg (fun j hj => absurd hj (Nat.not_lt_zero _)) (off.rfl' _ _ _)

abbrev rm_X1_takeLetter : Room := { frames := 1, cells := 0, slots := 0, locals := 21 }
set_option maxHeartbeats 4000000 in
set_option maxRecDepth 100000 in
theorem c_X1_takeLetter (f t : Nat) (r : Nat → Nat) (q : List Int32) (c : Int32) (b0 b1 b2 eh : Int) {w : PW} {n : Nat} (hF : fd w f b0 b1 b2 eh) (hR : fr w f q.length r) (hQ : tx w t 16 q) (hd : f + 2 ≤ t ∨ t + 2 ≤ f) (hr : ∀ j, j ≤ q.length → r j ≤ 100) : Ct0 yX1_takeLetter cX1_takeLetter 10 none rm_X1_takeLetter [.ref f, .ref t, .int c] w n (fun w1 n1 => n = n1 ∧ fr w1 f q.length (rowS q c r) ∧ off w w1 (f + 1) (f + 2)) := by
  have fc := hF
  obtain ⟨g, fg, fg2⟩ := id hR
  obtain ⟨q0, q1, qg, q2, q3⟩ := id hQ
  refine Ctr.of rfl (Nat.le_of_ble_eq_true rfl) fun S hS => ?_
  have hb : S.1.1 = cX1_takeLetter := by rw [hS]; rfl
  have ho : S.1.2.1 = RX1 := by rw [hS]; rfl
  have hnL : S.1.2.2.1 = 10 := by rw [hS]; rfl
  have hR0 : S.2.1 = rm_X1_takeLetter := by rw [hS]; rfl
  show Wp S 0 [(0, .ref f), (1, .ref t), (2, .int c)] [] w n 0 0
  refine r_aload_n hb 1 dX1_takeLetter_0 rfl 1 rfl ?_
  refine r_get hb ho 4 dX1_takeLetter_1 rfl lk_X1_71 pf_X7_0 q0 rfl ?_
  refine r_astore_n [(3, .ref (t + 1)), (0, .ref f), (1, .ref t), (2, .int c)] hb 5 10 dX1_takeLetter_4 rfl rfl hnL (by decide) rfl ?_
  refine r_aload_n hb 6 dX1_takeLetter_5 rfl 2 rfl ?_
  refine r_get hb ho 9 dX1_takeLetter_6 rfl lk_X1_48 pf_X7_1 q0 rfl ?_
  refine r_aload_n hb 10 dX1_takeLetter_9 rfl 0 rfl ?_
  refine r_alen hb 11 dX1_takeLetter_10 rfl q2 (by decide) 16 rfl ?_
  refine r_aload_n hb 12 dX1_takeLetter_11 rfl 1 rfl ?_
  refine r_get hb ho 15 dX1_takeLetter_12 rfl lk_X1_9 pf_X1_0 fc rfl ?_
  refine r_alen hb 16 dX1_takeLetter_15 rfl fg (by decide) 17 rfl ?_
  refine r_iconst hb 17 dX1_takeLetter_16 rfl ?_
  refine r_isubZ hb 18 16 dX1_takeLetter_17 rfl (by omega) ?_
  refine r_min hb ho 21 dX1_takeLetter_18 rfl ck_X1_64 (by rw [hR0]; exact Nat.le_of_ble_eq_true rfl) (by rw [hR0]; exact Nat.le_of_ble_eq_true rfl) (by rw [hR0]; exact Nat.zero_le _) (by rw [hR0]; exact Nat.zero_le _) (by omega) (by omega) 16 (by omega) ?_
  refine r_min hb ho 24 dX1_takeLetter_21 rfl ck_X1_64 (by rw [hR0]; exact Nat.le_of_ble_eq_true rfl) (by rw [hR0]; exact Nat.le_of_ble_eq_true rfl) (by rw [hR0]; exact Nat.zero_le _) (by rw [hR0]; exact Nat.zero_le _) (by omega) (by omega) (((q.length : Nat) : Int)) (by omega) ?_
  refine r_istore [(4, .int (iI (((q.length : Nat) : Int)))), (3, .ref (t + 1)), (0, .ref f), (1, .ref t), (2, .int c)] hb 26 10 dX1_takeLetter_24 rfl hnL (by decide) rfl ?_
  refine r_aload_n hb 27 dX1_takeLetter_26 rfl 2 rfl ?_
  refine r_get hb ho 30 dX1_takeLetter_27 rfl lk_X1_9 pf_X1_0 fc rfl ?_
  refine r_iconst hb 31 dX1_takeLetter_30 rfl ?_
  refine r_ialdN hb 32 dX1_takeLetter_31 rfl fg 0 (by omega) (⟨by omega, by omega⟩) ?_
  refine r_topv (.int (iI (((r 0 : Nat) : Int)))) (by rw [fg2 0 (Nat.zero_le _)]) ?_
  refine r_istore [(5, .int (iI (((r 0 : Nat) : Int)))), (4, .int (iI (((q.length : Nat) : Int)))), (3, .ref (t + 1)), (0, .ref f), (1, .ref t), (2, .int c)] hb 34 10 dX1_takeLetter_32 rfl hnL (by decide) rfl ?_
  have hr0 := hr 0 (Nat.zero_le _)
  refine r_iload hb 36 dX1_takeLetter_34 rfl 0 rfl ?_
  refine r_iconst hb 37 dX1_takeLetter_36 rfl ?_
  refine r_iaddZ hb 38 (((r 0 : Nat) : Int) + 1) dX1_takeLetter_37 rfl (by omega) ?_
  refine r_istore [(6, .int (iI (((r 0 : Nat) : Int) + 1))), (5, .int (iI (((r 0 : Nat) : Int)))), (4, .int (iI (((q.length : Nat) : Int)))), (3, .ref (t + 1)), (0, .ref f), (1, .ref t), (2, .int c)] hb 40 10 dX1_takeLetter_38 rfl hnL (by decide) rfl ?_
  refine r_aload_n hb 41 dX1_takeLetter_40 rfl 4 rfl ?_
  refine r_get hb ho 44 dX1_takeLetter_41 rfl lk_X1_9 pf_X1_0 fc rfl ?_
  refine r_iconst hb 45 dX1_takeLetter_44 rfl ?_
  refine r_iload hb 47 dX1_takeLetter_45 rfl 0 rfl ?_
  refine r_iastN (x := (r 0 + 1)) (by omega) hb 48 dX1_takeLetter_47 rfl fg 0 (by omega) (⟨by omega, by omega⟩) (fun w_47 hw_47 => ?_)
  have ow_47 := pset_off hw_47
  have xw_47 : w_47 (f + 1) = some (eI 17 (fun ii => iI (((updN g 0 (r 0 + 1)) ii : Nat) : Int))) := by rw [hw_47]; exact pset_eq _ _ _
  have fc : w_47 f = some (eO 1 [.ref (f + 1), .int (iI (b0)), .int (iI (b1)), .int (iI (b2)), .int (iI (eh))]) := (ow_47 _ (by omega)).trans fc
  have q0 : w_47 t = some (eO 7 [.ref (t + 1), .int (iI (((q.length : Nat) : Int)))]) := (ow_47 _ (by omega)).trans q0
  have q2 : w_47 (t + 1) = some (eI 16 qg) := (ow_47 _ (by omega)).trans q2
  refine r_iconst hb 49 dX1_takeLetter_48 rfl ?_
  refine r_istore [(7, .int (iI 1)), (6, .int (iI (((r 0 : Nat) : Int) + 1))), (5, .int (iI (((r 0 : Nat) : Int)))), (4, .int (iI (((q.length : Nat) : Int)))), (3, .ref (t + 1)), (0, .ref f), (1, .ref t), (2, .int c)] hb 51 10 dX1_takeLetter_49 rfl hnL (by decide) rfl ?_
  have lp : ∀ (d : Nat) (k : Nat) (wi : PW) (gi : Nat → Nat), q.length - k = d → (k ≤ q.length) → (fd wi f b0 b1 b2 eh) → (wi (f + 1) = some (eI 17 (fun i => iI ((gi i : Nat) : Int)))) → (wi t = some (eO 7 [.ref (t + 1), .int (iI ((q.length : Nat) : Int))])) → (wi (t + 1) = some (eI 16 qg)) → (∀ j, j ≤ k → gi j = rowS q c r j) → (∀ j, k < j → j ≤ q.length → gi j = r j) → (off w wi (f + 1) (f + 2)) → Wp S 51 [(7, .int (iI (((k : Nat) : Int) + 1))), (6, .int (iI (((rowS q c r k : Nat) : Int)))), (5, .int (iI (((r k : Nat) : Int)))), (4, .int (iI (((q.length : Nat) : Int)))), (3, .ref (t + 1)), (0, .ref f), (1, .ref t), (2, .int c)] [] wi n 0 0 := by
    intro d
    induction d using Nat.strongRecOn with
    | _ d ih_lp =>
      intro k wi gi hd_lp hk fc fg q0 q2 hlo hhi hO
      have hrk := hr k hk
      have hsk := rowS_le q c r k
      refine r_iload hb 53 dX1_takeLetter_51 rfl 0 rfl ?_
      refine r_iload hb 55 dX1_takeLetter_53 rfl 3 rfl ?_
      refine r_icmp_gt hb 58 123 dX1_takeLetter_55 rfl (by decide) (by omega) (by omega) (fun c55 => ?_) (fun c55 => ?_)
      · refine r_vret hS dX1_takeLetter_123 rfl (Nat.zero_le _) (Nat.zero_le _) ?_
        exact ⟨rfl, rfl, ⟨gi, fg, fun j hj => hlo j (by omega)⟩, hO⟩
      · refine r_aload_n hb 59 dX1_takeLetter_58 rfl 5 rfl ?_
        refine r_get hb ho 62 dX1_takeLetter_59 rfl lk_X1_9 pf_X1_0 fc rfl ?_
        refine r_iload hb 64 dX1_takeLetter_62 rfl 0 rfl ?_
        refine r_ialdN hb 65 dX1_takeLetter_64 rfl fg (k + 1) (by omega) (⟨by omega, by omega⟩) ?_
        refine r_topv (.int (iI (((r (k + 1) : Nat) : Int)))) (by rw [hhi (k + 1) (by omega) (by omega)]) ?_
        have hrk1 := hr (k + 1) (by omega)
        refine r_istore [(8, .int (iI (((r (k + 1) : Nat) : Int)))), (7, .int (iI (((k : Nat) : Int) + 1))), (6, .int (iI (((rowS q c r k : Nat) : Int)))), (5, .int (iI (((r k : Nat) : Int)))), (4, .int (iI (((q.length : Nat) : Int)))), (3, .ref (t + 1)), (0, .ref f), (1, .ref t), (2, .int c)] hb 67 10 dX1_takeLetter_65 rfl hnL (by decide) rfl ?_
        refine r_aload_n hb 68 dX1_takeLetter_67 rfl 5 rfl ?_
        refine r_iload hb 70 dX1_takeLetter_68 rfl 1 rfl ?_
        refine r_iconst hb 71 dX1_takeLetter_70 rfl ?_
        refine r_isubZ hb 72 (((k : Nat) : Int)) dX1_takeLetter_71 rfl (by omega) ?_
        refine r_iald hb 73 dX1_takeLetter_72 rfl q2 k (by omega) (⟨by omega, by omega⟩) ?_
        refine r_iload_n hb 74 dX1_takeLetter_73 rfl 8 rfl ?_
        refine r_icmpR_ne hb 77 82 dX1_takeLetter_74 rfl (by decide) (fun c74 => ?_) (fun c74 => ?_)
        · refine r_iload hb 84 dX1_takeLetter_82 rfl 3 rfl ?_
          refine r_iconst hb 85 dX1_takeLetter_84 rfl ?_
          refine r_iaddZ hb 86 (((r k : Nat) : Int) + 1) dX1_takeLetter_85 rfl (by omega) ?_
          refine r_istore [(9, .int (iI (((r k : Nat) : Int) + 1))), (8, .int (iI (((r (k + 1) : Nat) : Int)))), (7, .int (iI (((k : Nat) : Int) + 1))), (6, .int (iI (((rowS q c r k : Nat) : Int)))), (5, .int (iI (((r k : Nat) : Int)))), (4, .int (iI (((q.length : Nat) : Int)))), (3, .ref (t + 1)), (0, .ref f), (1, .ref t), (2, .int c)] hb 88 10 dX1_takeLetter_86 rfl hnL (by decide) rfl ?_
          refine r_iload hb 90 dX1_takeLetter_88 rfl 0 rfl ?_
          refine r_iconst hb 91 dX1_takeLetter_90 rfl ?_
          refine r_iload hb 93 dX1_takeLetter_91 rfl 1 rfl ?_
          refine r_iload hb 95 dX1_takeLetter_93 rfl 3 rfl ?_
          refine r_min hb ho 98 dX1_takeLetter_95 rfl ck_X1_64 (by rw [hR0]; exact Nat.le_of_ble_eq_true rfl) (by rw [hR0]; exact Nat.le_of_ble_eq_true rfl) (by rw [hR0]; exact Nat.zero_le _) (by rw [hR0]; exact Nat.zero_le _) (by omega) (by omega) (((min ((r (k + 1))) ((rowS q c r k)) : Nat) : Int)) (by omega) ?_
          refine r_iaddZ hb 99 (((min ((r (k + 1))) ((rowS q c r k)) : Nat) : Int) + 1) dX1_takeLetter_98 rfl (by omega) ?_
          refine r_min hb ho 102 dX1_takeLetter_99 rfl ck_X1_64 (by rw [hR0]; exact Nat.le_of_ble_eq_true rfl) (by rw [hR0]; exact Nat.le_of_ble_eq_true rfl) (by rw [hR0]; exact Nat.zero_le _) (by rw [hR0]; exact Nat.zero_le _) (by omega) (by omega) (((min ((r k) + 1) ((min ((r (k + 1))) ((rowS q c r k))) + 1) : Nat) : Int)) (by omega) ?_
          refine r_istore [(6, .int (iI (((min ((r k) + 1) ((min ((r (k + 1))) ((rowS q c r k))) + 1) : Nat) : Int)))), (9, .int (iI (((r k : Nat) : Int) + 1))), (8, .int (iI (((r (k + 1) : Nat) : Int)))), (7, .int (iI (((k : Nat) : Int) + 1))), (5, .int (iI (((r k : Nat) : Int)))), (4, .int (iI (((q.length : Nat) : Int)))), (3, .ref (t + 1)), (0, .ref f), (1, .ref t), (2, .int c)] hb 104 10 dX1_takeLetter_102 rfl hnL (by decide) rfl ?_
          refine r_aload_n hb 105 dX1_takeLetter_104 rfl 7 rfl ?_
          refine r_get hb ho 108 dX1_takeLetter_105 rfl lk_X1_9 pf_X1_0 fc rfl ?_
          refine r_iload hb 110 dX1_takeLetter_108 rfl 3 rfl ?_
          refine r_iload hb 112 dX1_takeLetter_110 rfl 0 rfl ?_
          refine r_iastN (x := ((min ((r k) + 1) ((min ((r (k + 1))) ((rowS q c r k))) + 1)))) (by omega) hb 113 dX1_takeLetter_112 rfl fg (k + 1) (by omega) (⟨by omega, by omega⟩) (fun w_112 hw_112 => ?_)
          have ow_112 := pset_off hw_112
          have xw_112 : w_112 (f + 1) = some (eI 17 (fun ii => iI (((updN gi (k + 1) ((min ((r k) + 1) ((min ((r (k + 1))) ((rowS q c r k))) + 1)))) ii : Nat) : Int))) := by rw [hw_112]; exact pset_eq _ _ _
          have fc : w_112 f = some (eO 1 [.ref (f + 1), .int (iI (b0)), .int (iI (b1)), .int (iI (b2)), .int (iI (eh))]) := (ow_112 _ (by omega)).trans fc
          have q0 : w_112 t = some (eO 7 [.ref (t + 1), .int (iI (((q.length : Nat) : Int)))]) := (ow_112 _ (by omega)).trans q0
          have q2 : w_112 (t + 1) = some (eI 16 qg) := (ow_112 _ (by omega)).trans q2
          refine r_iload hb 115 dX1_takeLetter_113 rfl 2 rfl ?_
          refine r_istore [(5, .int (iI (((r (k + 1) : Nat) : Int)))), (6, .int (iI (((min ((r k) + 1) ((min ((r (k + 1))) ((rowS q c r k))) + 1) : Nat) : Int)))), (9, .int (iI (((r k : Nat) : Int) + 1))), (8, .int (iI (((r (k + 1) : Nat) : Int)))), (7, .int (iI (((k : Nat) : Int) + 1))), (4, .int (iI (((q.length : Nat) : Int)))), (3, .ref (t + 1)), (0, .ref f), (1, .ref t), (2, .int c)] hb 117 10 dX1_takeLetter_115 rfl hnL (by decide) rfl ?_
          refine r_iinc [(7, .int (iI (((k : Nat) : Int) + 2))), (5, .int (iI (((r (k + 1) : Nat) : Int)))), (6, .int (iI (((min ((r k) + 1) ((min ((r (k + 1))) ((rowS q c r k))) + 1) : Nat) : Int)))), (9, .int (iI (((r k : Nat) : Int) + 1))), (8, .int (iI (((r (k + 1) : Nat) : Int)))), (4, .int (iI (((q.length : Nat) : Int)))), (3, .ref (t + 1)), (0, .ref f), (1, .ref t), (2, .int c)] hb 120 10 4 dX1_takeLetter_117 rfl rfl hnL (by decide) (((k : Nat) : Int) + 2) (by omega) rfl ?_
          refine r_goto hb 51 dX1_takeLetter_120 (by decide) ?_
          have hk2 : k + 1 ≤ q.length := by omega
          have e : rowS q c r (k + 1) = min (r k + 1) (min (r (k + 1)) (rowS q c r k) + 1) := by
            simp only [rowS]
            rw [q3 k (by omega)] at c74
            rw [if_neg c74]
          refine r_lv [(7, .int (iI (((k + 1 : Nat) : Int) + 1))), (6, .int (iI ((rowS q c r (k + 1) : Nat) : Int))), (5, .int (iI ((r (k + 1) : Nat) : Int))), (4, .int (iI ((q.length : Nat) : Int))), (3, .ref (t + 1)), (0, .ref f), (1, .ref t), (2, .int c)] [0, 2, 1, 5, 6, 7, 8, 9] (by rw [e]; rfl) ?_
          refine ih_lp (q.length - (k + 1)) (by omega) (k + 1) _ _ rfl (by omega) fc xw_112 q0 q2 ?_ ?_ (hO.trans (ow_112.mono (by omega) (by omega)))
          · intro j hj
            by_cases h : j = k + 1
            · subst h; rw [updN_s, e]
            · rw [updN_n _ _ h]; exact hlo j (by omega)
          · intro j hj hj2
            rw [updN_n _ _ (by omega)]; exact hhi j (by omega) hj2
        · refine r_iload hb 79 dX1_takeLetter_77 rfl 3 rfl ?_
          refine r_goto hb 86 dX1_takeLetter_79 (by decide) ?_
          refine r_istore [(9, .int (iI (((r k : Nat) : Int)))), (8, .int (iI (((r (k + 1) : Nat) : Int)))), (7, .int (iI (((k : Nat) : Int) + 1))), (6, .int (iI (((rowS q c r k : Nat) : Int)))), (5, .int (iI (((r k : Nat) : Int)))), (4, .int (iI (((q.length : Nat) : Int)))), (3, .ref (t + 1)), (0, .ref f), (1, .ref t), (2, .int c)] hb 88 10 dX1_takeLetter_86 rfl hnL (by decide) rfl ?_
          refine r_iload hb 90 dX1_takeLetter_88 rfl 0 rfl ?_
          refine r_iconst hb 91 dX1_takeLetter_90 rfl ?_
          refine r_iload hb 93 dX1_takeLetter_91 rfl 1 rfl ?_
          refine r_iload hb 95 dX1_takeLetter_93 rfl 3 rfl ?_
          refine r_min hb ho 98 dX1_takeLetter_95 rfl ck_X1_64 (by rw [hR0]; exact Nat.le_of_ble_eq_true rfl) (by rw [hR0]; exact Nat.le_of_ble_eq_true rfl) (by rw [hR0]; exact Nat.zero_le _) (by rw [hR0]; exact Nat.zero_le _) (by omega) (by omega) (((min ((r (k + 1))) ((rowS q c r k)) : Nat) : Int)) (by omega) ?_
          refine r_iaddZ hb 99 (((min ((r (k + 1))) ((rowS q c r k)) : Nat) : Int) + 1) dX1_takeLetter_98 rfl (by omega) ?_
          refine r_min hb ho 102 dX1_takeLetter_99 rfl ck_X1_64 (by rw [hR0]; exact Nat.le_of_ble_eq_true rfl) (by rw [hR0]; exact Nat.le_of_ble_eq_true rfl) (by rw [hR0]; exact Nat.zero_le _) (by rw [hR0]; exact Nat.zero_le _) (by omega) (by omega) (((min ((r k)) ((min ((r (k + 1))) ((rowS q c r k))) + 1) : Nat) : Int)) (by omega) ?_
          refine r_istore [(6, .int (iI (((min ((r k)) ((min ((r (k + 1))) ((rowS q c r k))) + 1) : Nat) : Int)))), (9, .int (iI (((r k : Nat) : Int)))), (8, .int (iI (((r (k + 1) : Nat) : Int)))), (7, .int (iI (((k : Nat) : Int) + 1))), (5, .int (iI (((r k : Nat) : Int)))), (4, .int (iI (((q.length : Nat) : Int)))), (3, .ref (t + 1)), (0, .ref f), (1, .ref t), (2, .int c)] hb 104 10 dX1_takeLetter_102 rfl hnL (by decide) rfl ?_
          refine r_aload_n hb 105 dX1_takeLetter_104 rfl 7 rfl ?_
          refine r_get hb ho 108 dX1_takeLetter_105 rfl lk_X1_9 pf_X1_0 fc rfl ?_
          refine r_iload hb 110 dX1_takeLetter_108 rfl 3 rfl ?_
          refine r_iload hb 112 dX1_takeLetter_110 rfl 0 rfl ?_
          refine r_iastN (x := ((min ((r k)) ((min ((r (k + 1))) ((rowS q c r k))) + 1)))) (by omega) hb 113 dX1_takeLetter_112 rfl fg (k + 1) (by omega) (⟨by omega, by omega⟩) (fun w_112 hw_112 => ?_)
          have ow_112 := pset_off hw_112
          have xw_112 : w_112 (f + 1) = some (eI 17 (fun ii => iI (((updN gi (k + 1) ((min ((r k)) ((min ((r (k + 1))) ((rowS q c r k))) + 1)))) ii : Nat) : Int))) := by rw [hw_112]; exact pset_eq _ _ _
          have fc : w_112 f = some (eO 1 [.ref (f + 1), .int (iI (b0)), .int (iI (b1)), .int (iI (b2)), .int (iI (eh))]) := (ow_112 _ (by omega)).trans fc
          have q0 : w_112 t = some (eO 7 [.ref (t + 1), .int (iI (((q.length : Nat) : Int)))]) := (ow_112 _ (by omega)).trans q0
          have q2 : w_112 (t + 1) = some (eI 16 qg) := (ow_112 _ (by omega)).trans q2
          refine r_iload hb 115 dX1_takeLetter_113 rfl 2 rfl ?_
          refine r_istore [(5, .int (iI (((r (k + 1) : Nat) : Int)))), (6, .int (iI (((min ((r k)) ((min ((r (k + 1))) ((rowS q c r k))) + 1) : Nat) : Int)))), (9, .int (iI (((r k : Nat) : Int)))), (8, .int (iI (((r (k + 1) : Nat) : Int)))), (7, .int (iI (((k : Nat) : Int) + 1))), (4, .int (iI (((q.length : Nat) : Int)))), (3, .ref (t + 1)), (0, .ref f), (1, .ref t), (2, .int c)] hb 117 10 dX1_takeLetter_115 rfl hnL (by decide) rfl ?_
          refine r_iinc [(7, .int (iI (((k : Nat) : Int) + 2))), (5, .int (iI (((r (k + 1) : Nat) : Int)))), (6, .int (iI (((min ((r k)) ((min ((r (k + 1))) ((rowS q c r k))) + 1) : Nat) : Int)))), (9, .int (iI (((r k : Nat) : Int)))), (8, .int (iI (((r (k + 1) : Nat) : Int)))), (4, .int (iI (((q.length : Nat) : Int)))), (3, .ref (t + 1)), (0, .ref f), (1, .ref t), (2, .int c)] hb 120 10 4 dX1_takeLetter_117 rfl rfl hnL (by decide) (((k : Nat) : Int) + 2) (by omega) rfl ?_
          refine r_goto hb 51 dX1_takeLetter_120 (by decide) ?_
          have hk2 : k + 1 ≤ q.length := by omega
          have e : rowS q c r (k + 1) = min (r k) (min (r (k + 1)) (rowS q c r k) + 1) := by
            simp only [rowS]
            rw [q3 k (by omega)] at c74
            rw [if_pos c74]
          refine r_lv [(7, .int (iI (((k + 1 : Nat) : Int) + 1))), (6, .int (iI ((rowS q c r (k + 1) : Nat) : Int))), (5, .int (iI ((r (k + 1) : Nat) : Int))), (4, .int (iI ((q.length : Nat) : Int))), (3, .ref (t + 1)), (0, .ref f), (1, .ref t), (2, .int c)] [0, 2, 1, 5, 6, 7, 8, 9] (by rw [e]; rfl) ?_
          refine ih_lp (q.length - (k + 1)) (by omega) (k + 1) _ _ rfl (by omega) fc xw_112 q0 q2 ?_ ?_ (hO.trans (ow_112.mono (by omega) (by omega)))
          · intro j hj
            by_cases h : j = k + 1
            · subst h; rw [updN_s, e]
            · rw [updN_n _ _ h]; exact hlo j (by omega)
          · intro j hj hj2
            rw [updN_n _ _ (by omega)]; exact hhi j (by omega) hj2
  refine r_lv [(7, .int (iI (((0 : Nat) : Int) + 1))), (6, .int (iI ((rowS q c r 0 : Nat) : Int))), (5, .int (iI ((r 0 : Nat) : Int))), (4, .int (iI ((q.length : Nat) : Int))), (3, .ref (t + 1)), (0, .ref f), (1, .ref t), (2, .int c)] [0, 1, 2, 3, 4, 5, 6, 7] rfl ?_
  refine lp _ 0 _ _ rfl (Nat.zero_le _) fc xw_47 q0 q2 ?_ ?_ (ow_47.mono (by omega) (by omega))
  · intro j hj
    rw [show j = 0 by omega, updN_s]; rfl
  · intro j hj hj2
    rw [updN_n _ _ (by omega)]; exact fg2 j hj2

abbrev rm_X1_endOfRow : Room := { frames := 0, cells := 0, slots := 0, locals := 0 }
set_option maxHeartbeats 4000000 in
set_option maxRecDepth 100000 in
theorem c_X1_endOfRow (f t : Nat) (r : Nat → Nat) (q : List Int32) (b0 b1 b2 eh : Int) {w : PW} {n : Nat} (hF : fd w f b0 b1 b2 eh) (hR : fr w f q.length r) (hQ : tx w t 16 q) : CtR yX1_endOfRow cX1_endOfRow 2 (some .int) rm_X1_endOfRow [.ref f, .ref t] w n (.int (iI (((r q.length : Nat) : Int)))) := by
  have fc := hF
  obtain ⟨g, fg, fg2⟩ := id hR
  obtain ⟨q0, q1, qg, q2, q3⟩ := id hQ
  refine Ctr.of rfl (Nat.le_of_ble_eq_true rfl) fun S hS => ?_
  have hb : S.1.1 = cX1_endOfRow := by rw [hS]; rfl
  have ho : S.1.2.1 = RX1 := by rw [hS]; rfl
  have hnL : S.1.2.2.1 = 2 := by rw [hS]; rfl
  have hR0 : S.2.1 = rm_X1_endOfRow := by rw [hS]; rfl
  show Wp S 0 [(0, .ref f), (1, .ref t)] [] w n 0 0
  refine r_aload_n hb 1 dX1_endOfRow_0 rfl 1 rfl ?_
  refine r_get hb ho 4 dX1_endOfRow_1 rfl lk_X1_48 pf_X7_1 q0 rfl ?_
  refine r_if_lt hb 7 31 dX1_endOfRow_4 rfl (by decide) (by omega) (fun c4 => ?_) (fun c4 => ?_)
  · exfalso; omega
  · refine r_aload_n hb 8 dX1_endOfRow_7 rfl 1 rfl ?_
    refine r_get hb ho 11 dX1_endOfRow_8 rfl lk_X1_48 pf_X7_1 q0 rfl ?_
    refine r_aload_n hb 12 dX1_endOfRow_11 rfl 0 rfl ?_
    refine r_get hb ho 15 dX1_endOfRow_12 rfl lk_X1_9 pf_X1_0 fc rfl ?_
    refine r_alen hb 16 dX1_endOfRow_15 rfl fg (by decide) 17 rfl ?_
    refine r_icmp_ge hb 19 31 dX1_endOfRow_16 rfl (by decide) (by omega) (by omega) (fun c16 => ?_) (fun c16 => ?_)
    · exfalso; omega
    · refine r_aload_n hb 20 dX1_endOfRow_19 rfl 0 rfl ?_
      refine r_get hb ho 23 dX1_endOfRow_20 rfl lk_X1_9 pf_X1_0 fc rfl ?_
      refine r_aload_n hb 24 dX1_endOfRow_23 rfl 1 rfl ?_
      refine r_get hb ho 27 dX1_endOfRow_24 rfl lk_X1_48 pf_X7_1 q0 rfl ?_
      refine r_ialdN hb 28 dX1_endOfRow_27 rfl fg q.length (by omega) (⟨by omega, by omega⟩) ?_
      refine r_goto hb 32 dX1_endOfRow_28 (by decide) ?_
      refine r_iret hS dX1_endOfRow_32 rfl rfl (Nat.zero_le _) (Nat.zero_le _) ?_
      exact ⟨_, rfl, by rw [fg2 _ (Nat.le_refl _)], rfl, rfl⟩

abbrev rm_X1_distanceTo : Room := { frames := 2, cells := 0, slots := 0, locals := 50 }
set_option maxHeartbeats 4000000 in
set_option maxRecDepth 100000 in
theorem c_X1_distanceTo (a u s e : Nat) (x : Nt) (D : List Int32) (f m0 : Nat) (r0 : Nat → Nat) (b0 b1 b2 eh : Int) {w : PW} {n : Nat} (hF : fd w f b0 b1 b2 eh) (hR : fr w f m0 r0) (hN : nt w a x) (hD : tx w u 120 D) (hd1 : f + 2 ≤ a ∨ a + 7 ≤ f) (hd2 : f + 2 ≤ u ∨ u + 2 ≤ f) (hse : e ≤ s + 60) (he : e ≤ D.length) (hs : s ≤ 200) : Ct1 yX1_distanceTo cX1_distanceTo 6 (some .int) rm_X1_distanceTo [.ref f, .ref a, .ref u, .int (iI (((s : Nat) : Int))), .int (iI (((e : Nat) : Int)))] w n (fun v w1 n1 => v = .int (iI ((edD (nQ x) D s e : Nat) : Int)) ∧ n = n1 ∧ (∃ r, fr w1 f 0 r) ∧ off w w1 (f + 1) (f + 2)) := by
  obtain ⟨h0, tP, tQ, tS, hnum, hB, hE⟩ := id hN
  have fc := hF
  have q0 := tQ.1
  have d0 := hD.1
  have d1 := hD.2.1
  have q1 := tQ.2.1
  refine Ctr.of rfl (Nat.le_of_ble_eq_true rfl) fun S hS => ?_
  have hb : S.1.1 = cX1_distanceTo := by rw [hS]; rfl
  have ho : S.1.2.1 = RX1 := by rw [hS]; rfl
  have hnL : S.1.2.2.1 = 6 := by rw [hS]; rfl
  have hR0 : S.2.1 = rm_X1_distanceTo := by rw [hS]; rfl
  show Wp S 0 [(0, .ref f), (1, .ref a), (2, .ref u), (3, .int (iI (((s : Nat) : Int)))), (4, .int (iI (((e : Nat) : Int))))] [] w n 0 0
  refine r_aload_n hb 1 dX1_distanceTo_0 rfl 0 rfl ?_
  refine r_callV0 (st := []) hb ho 4 dX1_distanceTo_1 rfl ck_X1_15 (c_X1_beginRow f m0 r0 b0 b1 b2 eh fc hR) rfl rfl (fc) rfl rfl (by rw [hR0]; exact ⟨Nat.le_of_ble_eq_true rfl, Nat.le_of_ble_eq_true rfl⟩) (Nat.le_of_ble_eq_true rfl) ⟨rfl, rfl⟩ (by rw [hR0]; exact Nat.zero_le _) (by rw [hR0]; exact Nat.zero_le _) (fun w_1 nw_1 qw_1 => ?_)
  obtain ⟨rfl, hR, ow_1⟩ := qw_1
  have fc : w_1 f = some (eO 1 [.ref (f + 1), .int (iI (b0)), .int (iI (b1)), .int (iI (b2)), .int (iI (eh))]) := (ow_1 _ (by omega)).trans fc
  have hN : nt w_1 a x := hN.off ow_1 (by omega)
  have h0 : w_1 a = some (eO 3 [.ref (a + 1), .ref (a + 3), .ref (a + 5), .int (iI (((nNum x : Nat) : Int))), .int (bI (nK x)), .int (iI (((nB x : Nat) : Int))), .int (iI (((nE x : Nat) : Int))), .int (nW x)]) := (ow_1 _ (by omega)).trans h0
  have tQ : tx w_1 (a + 3) 16 (nQ x) := tQ.off ow_1 (by omega)
  have q0 : w_1 (a + 3) = some (eO 7 [.ref (a + 3 + 1), .int (iI ((((nQ x).length : Nat) : Int)))]) := (ow_1 _ (by omega)).trans q0
  have hD : tx w_1 u 120 D := hD.off ow_1 (by omega)
  have d0 : w_1 u = some (eO 7 [.ref (u + 1), .int (iI (((D.length : Nat) : Int)))]) := (ow_1 _ (by omega)).trans d0
  refine r_iload_n hb 5 dX1_distanceTo_4 rfl 3 rfl ?_
  refine r_istore [(5, .int (iI (((s : Nat) : Int)))), (0, .ref f), (1, .ref a), (2, .ref u), (3, .int (iI (((s : Nat) : Int)))), (4, .int (iI (((e : Nat) : Int))))] hb 7 6 dX1_distanceTo_5 rfl hnL (by decide) rfl ?_
  have lp : ∀ (d : Nat) (i : Nat) (wi : PW), e - i = d → (s ≤ i) → (i ≤ e ∨ i = s) → (fd wi f b0 b1 b2 eh) → (fr wi f (nQ x).length (edK (nQ x) D s (i - s))) → (nt wi a x) → (tx wi u 120 D) → (off w wi (f + 1) (f + 2)) → Wp S 7 [(5, .int (iI (((i : Nat) : Int)))), (0, .ref f), (1, .ref a), (2, .ref u), (3, .int (iI (((s : Nat) : Int)))), (4, .int (iI (((e : Nat) : Int))))] [] wi n 0 0 := by
    intro d
    induction d using Nat.strongRecOn with
    | _ d ih_lp =>
      intro i wi hd_lp hi hi2 fc hR hN hD hO
      obtain ⟨h0, tP, tQ, tS, hnum, hB, hE⟩ := id hN
      have q0 := tQ.1
      have d0 := hD.1
      refine r_iload hb 9 dX1_distanceTo_7 rfl 0 rfl ?_
      refine r_iload hb 11 dX1_distanceTo_9 rfl 5 rfl ?_
      refine r_icmp_ge hb 14 34 dX1_distanceTo_11 rfl (by decide) (by omega) (by omega) (fun c11 => ?_) (fun c11 => ?_)
      · refine r_aload_n hb 35 dX1_distanceTo_34 rfl 1 rfl ?_
        refine r_aload_n hb 36 dX1_distanceTo_35 rfl 2 rfl ?_
        refine r_get hb ho 39 dX1_distanceTo_36 rfl lk_X1_18 pf_X3_1 h0 rfl ?_
        refine r_callVR (st := []) hb ho 42 dX1_distanceTo_39 rfl ck_X1_34 (c_X1_endOfRow f (a + 3) (edK (nQ x) D s (i - s)) (nQ x) b0 b1 b2 eh fc hR tQ) rfl rfl (fc) rfl rfl (by rw [hR0]; exact ⟨Nat.le_of_ble_eq_true rfl, Nat.le_of_ble_eq_true rfl⟩) (Nat.le_of_ble_eq_true rfl) ⟨rfl, rfl⟩ (by rw [hR0]; exact Nat.zero_le _) (by rw [hR0]; exact Nat.zero_le _) ?_
        refine r_iret hS dX1_distanceTo_42 rfl rfl (Nat.zero_le _) (Nat.zero_le _) ?_
        exact ⟨_, rfl, by unfold edD; rw [show i - s = e - s by omega], rfl, ⟨_, (let ⟨g, k1, k2⟩ := hR; ⟨g, k1, fun j hj => k2 j (by omega)⟩)⟩, hO⟩
      · refine r_aload_n hb 15 dX1_distanceTo_14 rfl 1 rfl ?_
        refine r_aload_n hb 16 dX1_distanceTo_15 rfl 2 rfl ?_
        refine r_get hb ho 19 dX1_distanceTo_16 rfl lk_X1_18 pf_X3_1 h0 rfl ?_
        refine r_aload_n hb 20 dX1_distanceTo_19 rfl 3 rfl ?_
        refine r_iload hb 22 dX1_distanceTo_20 rfl 0 rfl ?_
        refine r_callVR (st := [.ref (a + 3), .ref f]) hb ho 25 dX1_distanceTo_22 rfl ck_X1_24 (c_X7_at (u) 120 D (((i : Nat) : Int)) hD (by omega) (by omega)) rfl rfl (d0) rfl rfl (by rw [hR0]; exact ⟨Nat.le_of_ble_eq_true rfl, Nat.le_of_ble_eq_true rfl⟩) (Nat.le_of_ble_eq_true rfl) ⟨rfl, rfl⟩ (by rw [hR0]; exact Nat.zero_le _) (by rw [hR0]; exact Nat.zero_le _) ?_
        refine r_topv (.int (D.getD i 0)) (by rw [textAt_nat (by omega)]) ?_
        refine r_callV0 (st := []) hb ho 28 dX1_distanceTo_25 rfl ck_X1_30 (c_X1_takeLetter f (a + 3) (edK (nQ x) D s (i - s)) (nQ x) (D.getD i 0) b0 b1 b2 eh fc hR tQ (by omega) (fun j hj => by have := edK_le (nQ x) D s (i - s) j; omega)) rfl rfl (fc) rfl rfl (by rw [hR0]; exact ⟨Nat.le_of_ble_eq_true rfl, Nat.le_of_ble_eq_true rfl⟩) (Nat.le_of_ble_eq_true rfl) ⟨rfl, rfl⟩ (by rw [hR0]; exact Nat.zero_le _) (by rw [hR0]; exact Nat.zero_le _) (fun w_25 nw_25 qw_25 => ?_)
        obtain ⟨rfl, hR, ow_25⟩ := qw_25
        have fc : w_25 f = some (eO 1 [.ref (f + 1), .int (iI (b0)), .int (iI (b1)), .int (iI (b2)), .int (iI (eh))]) := (ow_25 _ (by omega)).trans fc
        have hN : nt w_25 a x := hN.off ow_25 (by omega)
        have h0 : w_25 a = some (eO 3 [.ref (a + 1), .ref (a + 3), .ref (a + 5), .int (iI (((nNum x : Nat) : Int))), .int (bI (nK x)), .int (iI (((nB x : Nat) : Int))), .int (iI (((nE x : Nat) : Int))), .int (nW x)]) := (ow_25 _ (by omega)).trans h0
        have tQ : tx w_25 (a + 3) 16 (nQ x) := tQ.off ow_25 (by omega)
        have q0 : w_25 (a + 3) = some (eO 7 [.ref (a + 3 + 1), .int (iI ((((nQ x).length : Nat) : Int)))]) := (ow_25 _ (by omega)).trans q0
        have hD : tx w_25 u 120 D := hD.off ow_25 (by omega)
        have d0 : w_25 u = some (eO 7 [.ref (u + 1), .int (iI (((D.length : Nat) : Int)))]) := (ow_25 _ (by omega)).trans d0
        refine r_iinc [(5, .int (iI (((i : Nat) : Int) + 1))), (0, .ref f), (1, .ref a), (2, .ref u), (3, .int (iI (((s : Nat) : Int)))), (4, .int (iI (((e : Nat) : Int))))] hb 31 6 0 dX1_distanceTo_28 rfl rfl hnL (by decide) (((i : Nat) : Int) + 1) (by omega) rfl ?_
        refine r_goto hb 7 dX1_distanceTo_31 (by decide) ?_
        refine r_lv [(5, .int (iI (((i + 1 : Nat)) : Int))), (0, .ref f), (1, .ref a), (2, .ref u), (3, .int (iI ((s : Nat) : Int))), (4, .int (iI ((e : Nat) : Int)))] [0, 1, 2, 3, 4, 5] rfl ?_
        refine ih_lp (e - (i + 1)) (by omega) (i + 1) _ rfl (by omega) (by omega) fc ?_ hN hD (hO.trans (ow_25.mono (by omega) (by omega)))
        rw [show i + 1 - s = (i - s) + 1 by omega]
        simp only [edK]
        rw [show s + (i - s) = i by omega]
        exact hR
  refine r_lv [(5, .int (iI (((s : Nat)) : Int))), (0, .ref f), (1, .ref a), (2, .ref u), (3, .int (iI ((s : Nat) : Int))), (4, .int (iI ((e : Nat) : Int)))] [0, 1, 2, 3, 4, 5] rfl ?_
  refine lp _ s _ rfl (Nat.le_refl _) (by omega) fc ?_ hN hD (ow_1.mono (by omega) (by omega))
  obtain ⟨g1, k1, k2⟩ := hR
  exact ⟨g1, k1, fun j hj => by rw [k2 j (by omega), Nat.sub_self]; rfl⟩

abbrev rm_X1_searchAt : Room := { frames := 3, cells := 0, slots := 0, locals := 69 }
set_option maxHeartbeats 4000000 in
set_option maxRecDepth 100000 in
theorem c_X1_searchAt (a u s : Nat) (x : Nt) (D : List Int32) (f m0 : Nat) (r0 : Nat → Nat) (b0 b1 b2 eh : Int) {w : PW} {n : Nat} (hF : fd w f b0 b1 b2 eh) (hR : fr w f m0 r0) (hN : nt w a x) (hD : tx w u 120 D) (hd1 : f + 2 ≤ a ∨ a + 7 ≤ f) (hd2 : f + 2 ≤ u ∨ u + 2 ≤ f) (hs : s < D.length) (hx : nOk x) : Ct1 yX1_searchAt cX1_searchAt 11 (some .int) rm_X1_searchAt [.ref f, .ref a, .ref u, .int (iI (((s : Nat) : Int)))] w n (fun v w1 n1 => v = .int (iI (gI (bA x D s))) ∧ n = n1 ∧ fd w1 f b0 b1 b2 (gE s (bA x D s)) ∧ (∃ r, fr w1 f 0 r) ∧ off w w1 f (f + 2)) := by
  obtain ⟨h0, tP, tQ, tS, hnum, hB, hE⟩ := id hN
  have fc := hF
  have q0 := tQ.1
  have d0 := hD.1
  have d1 := hD.2.1
  have q1 := tQ.2.1
  refine Ctr.of rfl (Nat.le_of_ble_eq_true rfl) fun S hS => ?_
  have hb : S.1.1 = cX1_searchAt := by rw [hS]; rfl
  have ho : S.1.2.1 = RX1 := by rw [hS]; rfl
  have hnL : S.1.2.2.1 = 11 := by rw [hS]; rfl
  have hR0 : S.2.1 = rm_X1_searchAt := by rw [hS]; rfl
  show Wp S 0 [(0, .ref f), (1, .ref a), (2, .ref u), (3, .int (iI (((s : Nat) : Int))))] [] w n 0 0
  refine r_aload_n hb 1 dX1_searchAt_0 rfl 1 rfl ?_
  refine r_get hb ho 4 dX1_searchAt_1 rfl lk_X1_18 pf_X3_1 h0 rfl ?_
  refine r_astore [(4, .ref (a + 3)), (0, .ref f), (1, .ref a), (2, .ref u), (3, .int (iI (((s : Nat) : Int))))] hb 6 11 dX1_searchAt_4 rfl hnL (by decide) rfl ?_
  refine r_iconst hb 7 dX1_searchAt_6 rfl ?_
  refine r_aload hb 9 dX1_searchAt_7 rfl 0 rfl ?_
  refine r_get hb ho 12 dX1_searchAt_9 rfl lk_X1_48 pf_X7_1 q0 rfl ?_
  refine r_iconst hb 13 dX1_searchAt_12 rfl ?_
  refine r_isubZ hb 14 ((((nQ x).length : Nat) : Int) - 3) dX1_searchAt_13 rfl (by omega) ?_
  refine r_max hb ho 17 dX1_searchAt_14 rfl ck_X1_58 (by rw [hR0]; exact Nat.le_of_ble_eq_true rfl) (by rw [hR0]; exact Nat.le_of_ble_eq_true rfl) (by rw [hR0]; exact Nat.zero_le _) (by rw [hR0]; exact Nat.zero_le _) (by omega) (by omega) (((max 1 ((nQ x).length - 3) : Nat) : Int)) (by omega) ?_
  refine r_istore [(5, .int (iI (((max 1 ((nQ x).length - 3) : Nat) : Int)))), (4, .ref (a + 3)), (0, .ref f), (1, .ref a), (2, .ref u), (3, .int (iI (((s : Nat) : Int))))] hb 19 11 dX1_searchAt_17 rfl hnL (by decide) rfl ?_
  refine r_aload hb 21 dX1_searchAt_19 rfl 1 rfl ?_
  refine r_get hb ho 24 dX1_searchAt_21 rfl lk_X1_48 pf_X7_1 q0 rfl ?_
  refine r_iconst hb 25 dX1_searchAt_24 rfl ?_
  refine r_iaddZ hb 26 ((((nQ x).length : Nat) : Int) + 3) dX1_searchAt_25 rfl (by omega) ?_
  refine r_aload_n hb 27 dX1_searchAt_26 rfl 4 rfl ?_
  refine r_get hb ho 30 dX1_searchAt_27 rfl lk_X1_48 pf_X7_1 d0 rfl ?_
  refine r_iload_n hb 31 dX1_searchAt_30 rfl 5 rfl ?_
  refine r_isubZ hb 32 ((((D.length - s : Nat) : Nat) : Int)) dX1_searchAt_31 rfl (by omega) ?_
  refine r_min hb ho 35 dX1_searchAt_32 rfl ck_X1_64 (by rw [hR0]; exact Nat.le_of_ble_eq_true rfl) (by rw [hR0]; exact Nat.le_of_ble_eq_true rfl) (by rw [hR0]; exact Nat.zero_le _) (by rw [hR0]; exact Nat.zero_le _) (by omega) (by omega) (((min ((nQ x).length + 3) (D.length - s) : Nat) : Int)) (by omega) ?_
  refine r_istore [(6, .int (iI (((min ((nQ x).length + 3) (D.length - s) : Nat) : Int)))), (5, .int (iI (((max 1 ((nQ x).length - 3) : Nat) : Int)))), (4, .ref (a + 3)), (0, .ref f), (1, .ref a), (2, .ref u), (3, .int (iI (((s : Nat) : Int))))] hb 37 11 dX1_searchAt_35 rfl hnL (by decide) rfl ?_
  refine r_sipush (-1005) hb 40 dX1_searchAt_37 rfl rfl ?_
  refine r_istore [(7, .int (iI (-1005))), (6, .int (iI (((min ((nQ x).length + 3) (D.length - s) : Nat) : Int)))), (5, .int (iI (((max 1 ((nQ x).length - 3) : Nat) : Int)))), (4, .ref (a + 3)), (0, .ref f), (1, .ref a), (2, .ref u), (3, .int (iI (((s : Nat) : Int))))] hb 42 11 dX1_searchAt_40 rfl hnL (by decide) rfl ?_
  refine r_aload_n hb 43 dX1_searchAt_42 rfl 4 rfl ?_
  refine r_sipush (-1005) hb 46 dX1_searchAt_43 rfl rfl ?_
  refine r_put hb ho 49 dX1_searchAt_46 rfl lk_X1_55 pf_X1_4 fc (Nat.le_of_ble_eq_true rfl) ⟨rfl, rfl⟩ (fun w_46 hw_46 => ?_)
  have ow_46 := pset_off hw_46
  have xw_46 : w_46 f = some (eO 1 [.ref (f + 1), .int (iI (b0)), .int (iI (b1)), .int (iI (b2)), .int (iI (-1005))]) := by rw [hw_46]; exact pset_eq _ _ _
  have hR : fr w_46 f m0 r0 := hR.off ow_46 (by omega)
  have hN : nt w_46 a x := hN.off ow_46 (by omega)
  have h0 : w_46 a = some (eO 3 [.ref (a + 1), .ref (a + 3), .ref (a + 5), .int (iI (((nNum x : Nat) : Int))), .int (bI (nK x)), .int (iI (((nB x : Nat) : Int))), .int (iI (((nE x : Nat) : Int))), .int (nW x)]) := (ow_46 _ (by omega)).trans h0
  have tQ : tx w_46 (a + 3) 16 (nQ x) := tQ.off ow_46 (by omega)
  have q0 : w_46 (a + 3) = some (eO 7 [.ref (a + 3 + 1), .int (iI ((((nQ x).length : Nat) : Int)))]) := (ow_46 _ (by omega)).trans q0
  have hD : tx w_46 u 120 D := hD.off ow_46 (by omega)
  have d0 : w_46 u = some (eO 7 [.ref (u + 1), .int (iI (((D.length : Nat) : Int)))]) := (ow_46 _ (by omega)).trans d0
  refine r_aload_n hb 50 dX1_searchAt_49 rfl 4 rfl ?_
  refine r_callV0 (st := []) hb ho 53 dX1_searchAt_50 rfl ck_X1_15 (c_X1_beginRow f m0 r0 b0 b1 b2 (-1005) xw_46 hR) rfl rfl (xw_46) rfl rfl (by rw [hR0]; exact ⟨Nat.le_of_ble_eq_true rfl, Nat.le_of_ble_eq_true rfl⟩) (Nat.le_of_ble_eq_true rfl) ⟨rfl, rfl⟩ (by rw [hR0]; exact Nat.zero_le _) (by rw [hR0]; exact Nat.zero_le _) (fun w_50 nw_50 qw_50 => ?_)
  obtain ⟨rfl, hR, ow_50⟩ := qw_50
  have xw_46 : w_50 f = some (eO 1 [.ref (f + 1), .int (iI (b0)), .int (iI (b1)), .int (iI (b2)), .int (iI (-1005))]) := (ow_50 _ (by omega)).trans xw_46
  have hN : nt w_50 a x := hN.off ow_50 (by omega)
  have h0 : w_50 a = some (eO 3 [.ref (a + 1), .ref (a + 3), .ref (a + 5), .int (iI (((nNum x : Nat) : Int))), .int (bI (nK x)), .int (iI (((nB x : Nat) : Int))), .int (iI (((nE x : Nat) : Int))), .int (nW x)]) := (ow_50 _ (by omega)).trans h0
  have tQ : tx w_50 (a + 3) 16 (nQ x) := tQ.off ow_50 (by omega)
  have q0 : w_50 (a + 3) = some (eO 7 [.ref (a + 3 + 1), .int (iI ((((nQ x).length : Nat) : Int)))]) := (ow_50 _ (by omega)).trans q0
  have hD : tx w_50 u 120 D := hD.off ow_50 (by omega)
  have d0 : w_50 u = some (eO 7 [.ref (u + 1), .int (iI (((D.length : Nat) : Int)))]) := (ow_50 _ (by omega)).trans d0
  refine r_iconst hb 54 dX1_searchAt_53 rfl ?_
  refine r_istore [(8, .int (iI 1)), (7, .int (iI (-1005))), (6, .int (iI (((min ((nQ x).length + 3) (D.length - s) : Nat) : Int)))), (5, .int (iI (((max 1 ((nQ x).length - 3) : Nat) : Int)))), (4, .ref (a + 3)), (0, .ref f), (1, .ref a), (2, .ref u), (3, .int (iI (((s : Nat) : Int))))] hb 56 11 dX1_searchAt_54 rfl hnL (by decide) rfl ?_
  have lp : ∀ (d : Nat) (k : Nat) (wi : PW), min ((nQ x).length + 3) (D.length - s) - k = d → (k ≤ min ((nQ x).length + 3) (D.length - s)) → (fd wi f b0 b1 b2 (gE s (bAt x D s k))) → (fr wi f (nQ x).length (edK (nQ x) D s k)) → (nt wi a x) → (tx wi u 120 D) → (off w wi f (f + 2)) → Wp S 56 [(8, .int (iI (((k : Nat) : Int) + 1))), (7, .int (iI ((gI (bAt x D s k))))), (6, .int (iI (((min ((nQ x).length + 3) (D.length - s) : Nat) : Int)))), (5, .int (iI (((max 1 ((nQ x).length - 3) : Nat) : Int)))), (4, .ref (a + 3)), (0, .ref f), (1, .ref a), (2, .ref u), (3, .int (iI (((s : Nat) : Int))))] [] wi n 0 0 := by
    intro d
    induction d using Nat.strongRecOn with
    | _ d ih_lp =>
      intro k wi hd_lp hk fc hR hN hD hO
      obtain ⟨h0, tP, tQ, tS, hnum, hB, hE⟩ := id hN
      have q0 := tQ.1
      have d0 := hD.1
      have hgb := gIt_bd hx D (s := s) (by omega) (k := k) (by omega)
      refine r_iload hb 58 dX1_searchAt_56 rfl 0 rfl ?_
      refine r_iload hb 60 dX1_searchAt_58 rfl 2 rfl ?_
      refine r_icmp_gt hb 63 129 dX1_searchAt_60 rfl (by decide) (by omega) (by omega) (fun c60 => ?_) (fun c60 => ?_)
      · refine r_iload hb 131 dX1_searchAt_129 rfl 1 rfl ?_
        refine r_iret hS dX1_searchAt_131 rfl rfl (Nat.zero_le _) (Nat.zero_le _) ?_
        have ek : k = min ((nQ x).length + 3) (D.length - s) := by omega
        subst ek
        exact ⟨_, rfl, rfl, rfl, fc, ⟨_, (let ⟨g, k1, k2⟩ := hR; ⟨g, k1, fun j hj => k2 j (by omega)⟩)⟩, hO⟩
      · refine r_iload_n hb 64 dX1_searchAt_63 rfl 8 rfl ?_
        refine r_iload hb 66 dX1_searchAt_64 rfl 0 rfl ?_
        refine r_iaddZ hb 67 ((((s + (k + 1) : Nat) : Nat) : Int)) dX1_searchAt_66 rfl (by omega) ?_
        refine r_istore [(9, .int (iI ((((s + (k + 1) : Nat) : Nat) : Int)))), (8, .int (iI (((k : Nat) : Int) + 1))), (7, .int (iI ((gI (bAt x D s k))))), (6, .int (iI (((min ((nQ x).length + 3) (D.length - s) : Nat) : Int)))), (5, .int (iI (((max 1 ((nQ x).length - 3) : Nat) : Int)))), (4, .ref (a + 3)), (0, .ref f), (1, .ref a), (2, .ref u), (3, .int (iI (((s : Nat) : Int))))] hb 69 11 dX1_searchAt_67 rfl hnL (by decide) rfl ?_
        refine r_aload_n hb 70 dX1_searchAt_69 rfl 6 rfl ?_
        refine r_aload hb 72 dX1_searchAt_70 rfl 5 rfl ?_
        refine r_aload_n hb 73 dX1_searchAt_72 rfl 8 rfl ?_
        refine r_iload hb 75 dX1_searchAt_73 rfl 0 rfl ?_
        refine r_iconst hb 76 dX1_searchAt_75 rfl ?_
        refine r_isubZ hb 77 ((((s + k : Nat) : Nat) : Int)) dX1_searchAt_76 rfl (by omega) ?_
        refine r_callVR (st := [.ref (a + 3), .ref f]) hb ho 80 dX1_searchAt_77 rfl ck_X1_24 (c_X7_at (u) 120 D ((((s + k : Nat) : Nat) : Int)) hD (by omega) (by omega)) rfl rfl (d0) rfl rfl (by rw [hR0]; exact ⟨Nat.le_of_ble_eq_true rfl, Nat.le_of_ble_eq_true rfl⟩) (Nat.le_of_ble_eq_true rfl) ⟨rfl, rfl⟩ (by rw [hR0]; exact Nat.zero_le _) (by rw [hR0]; exact Nat.zero_le _) ?_
        refine r_topv (.int (D.getD (s + k) 0)) (by rw [textAt_nat (by omega)]) ?_
        refine r_callV0 (st := []) hb ho 83 dX1_searchAt_80 rfl ck_X1_30 (c_X1_takeLetter f (a + 3) (edK (nQ x) D s k) (nQ x) (D.getD (s + k) 0) b0 b1 b2 _ fc hR tQ (by omega) (fun j hj => by have := edK_le (nQ x) D s k j; omega)) rfl rfl (fc) rfl rfl (by rw [hR0]; exact ⟨Nat.le_of_ble_eq_true rfl, Nat.le_of_ble_eq_true rfl⟩) (Nat.le_of_ble_eq_true rfl) ⟨rfl, rfl⟩ (by rw [hR0]; exact Nat.zero_le _) (by rw [hR0]; exact Nat.zero_le _) (fun w_80 nw_80 qw_80 => ?_)
        obtain ⟨rfl, hR, ow_80⟩ := qw_80
        have fc : w_80 f = some (eO 1 [.ref (f + 1), .int (iI (b0)), .int (iI (b1)), .int (iI (b2)), .int (iI (((gE s (bAt x D s k)))))]) := (ow_80 _ (by omega)).trans fc
        have hN : nt w_80 a x := hN.off ow_80 (by omega)
        have h0 : w_80 a = some (eO 3 [.ref (a + 1), .ref (a + 3), .ref (a + 5), .int (iI (((nNum x : Nat) : Int))), .int (bI (nK x)), .int (iI (((nB x : Nat) : Int))), .int (iI (((nE x : Nat) : Int))), .int (nW x)]) := (ow_80 _ (by omega)).trans h0
        have tQ : tx w_80 (a + 3) 16 (nQ x) := tQ.off ow_80 (by omega)
        have q0 : w_80 (a + 3) = some (eO 7 [.ref (a + 3 + 1), .int (iI ((((nQ x).length : Nat) : Int)))]) := (ow_80 _ (by omega)).trans q0
        have hD : tx w_80 u 120 D := hD.off ow_80 (by omega)
        have d0 : w_80 u = some (eO 7 [.ref (u + 1), .int (iI (((D.length : Nat) : Int)))]) := (ow_80 _ (by omega)).trans d0
        refine r_iload hb 85 dX1_searchAt_83 rfl 1 rfl ?_
        refine r_iload hb 87 dX1_searchAt_85 rfl 4 rfl ?_
        refine r_icmp_lt hb 90 123 dX1_searchAt_87 rfl (by decide) (by omega) (by omega) (fun c87 => ?_) (fun c87 => ?_)
        · refine r_iinc [(8, .int (iI (((k : Nat) : Int) + 2))), (9, .int (iI ((((s + (k + 1) : Nat) : Nat) : Int)))), (7, .int (iI ((gI (bAt x D s k))))), (6, .int (iI (((min ((nQ x).length + 3) (D.length - s) : Nat) : Int)))), (5, .int (iI (((max 1 ((nQ x).length - 3) : Nat) : Int)))), (4, .ref (a + 3)), (0, .ref f), (1, .ref a), (2, .ref u), (3, .int (iI (((s : Nat) : Int))))] hb 126 11 1 dX1_searchAt_123 rfl rfl hnL (by decide) (((k : Nat) : Int) + 2) (by omega) rfl ?_
          refine r_goto hb 56 dX1_searchAt_126 (by decide) ?_
          have hk1 : k + 1 ≤ min ((nQ x).length + 3) (D.length - s) := by omega
          have e := bAt_short (x := x) (D := D) (s := s) (k := k) (by omega)
          refine r_lv [(8, .int (iI (((k + 1 : Nat) : Int) + 1))), (7, .int (iI (gI (bAt x D s (k + 1))))), (6, .int (iI ((min ((nQ x).length + 3) (D.length - s) : Nat) : Int))), (5, .int (iI ((max 1 ((nQ x).length - 3) : Nat) : Int))), (4, .ref (a + 3)), (0, .ref f), (1, .ref a), (2, .ref u), (3, .int (iI ((s : Nat) : Int)))] [0, 2, 3, 4, 5, 6, 7, 8, 9] (by rw [e]; rfl) ?_
          refine ih_lp (min ((nQ x).length + 3) (D.length - s) - (k + 1)) (by omega) (k + 1) _ rfl (by omega) (by rw [e]; exact fc) hR hN hD (hO.trans (ow_80.mono (by omega) (by omega)))
        · refine r_aload_n hb 91 dX1_searchAt_90 rfl 7 rfl ?_
          refine r_aload_n hb 92 dX1_searchAt_91 rfl 6 rfl ?_
          refine r_aload hb 94 dX1_searchAt_92 rfl 5 rfl ?_
          refine r_callVR (st := [.ref a]) hb ho 97 dX1_searchAt_94 rfl ck_X1_34 (c_X1_endOfRow f (a + 3) (edK (nQ x) D s (k + 1)) (nQ x) b0 b1 b2 _ fc hR tQ) rfl rfl (fc) rfl rfl (by rw [hR0]; exact ⟨Nat.le_of_ble_eq_true rfl, Nat.le_of_ble_eq_true rfl⟩) (Nat.le_of_ble_eq_true rfl) ⟨rfl, rfl⟩ (by rw [hR0]; exact Nat.zero_le _) (by rw [hR0]; exact Nat.zero_le _) ?_
          refine r_aload_n hb 98 dX1_searchAt_97 rfl 8 rfl ?_
          refine r_iload_n hb 99 dX1_searchAt_98 rfl 9 rfl ?_
          refine r_iload hb 101 dX1_searchAt_99 rfl 0 rfl ?_
          have hek := edK_le (nQ x) D s (k + 1) (nQ x).length
          have hsc := scN_bd hx D (s := s) (e := s + (k + 1)) (d := edK (nQ x) D s (k + 1) (nQ x).length) (by omega) (by omega)
          refine r_callVR (st := []) hb ho 104 dX1_searchAt_101 rfl ck_X1_67 (c_X3_scoreOf a u (edK (nQ x) D s (k + 1) (nQ x).length) s (s + (k + 1)) x D hN hD (by omega) (by omega) (by omega) hx.2.2.2.2.1 hx.2.2.2.2.2) rfl rfl (h0) rfl rfl (by rw [hR0]; exact ⟨Nat.le_of_ble_eq_true rfl, Nat.le_of_ble_eq_true rfl⟩) (Nat.le_of_ble_eq_true rfl) ⟨rfl, rfl⟩ (by rw [hR0]; exact Nat.zero_le _) (by rw [hR0]; exact Nat.zero_le _) ?_
          refine r_istore [(10, .int (iI ((scN x D s (s + (k + 1)) (edK (nQ x) D s (k + 1) (nQ x).length))))), (9, .int (iI ((((s + (k + 1) : Nat) : Nat) : Int)))), (8, .int (iI (((k : Nat) : Int) + 1))), (7, .int (iI ((gI (bAt x D s k))))), (6, .int (iI (((min ((nQ x).length + 3) (D.length - s) : Nat) : Int)))), (5, .int (iI (((max 1 ((nQ x).length - 3) : Nat) : Int)))), (4, .ref (a + 3)), (0, .ref f), (1, .ref a), (2, .ref u), (3, .int (iI (((s : Nat) : Int))))] hb 106 11 dX1_searchAt_104 rfl hnL (by decide) rfl ?_
          refine r_iload hb 108 dX1_searchAt_106 rfl 0 rfl ?_
          refine r_iload hb 110 dX1_searchAt_108 rfl 3 rfl ?_
          refine r_icmp_le hb 113 123 dX1_searchAt_110 rfl (by decide) (by omega) (by omega) (fun c110 => ?_) (fun c110 => ?_)
          · refine r_iinc [(8, .int (iI (((k : Nat) : Int) + 2))), (10, .int (iI ((scN x D s (s + (k + 1)) (edK (nQ x) D s (k + 1) (nQ x).length))))), (9, .int (iI ((((s + (k + 1) : Nat) : Nat) : Int)))), (7, .int (iI ((gI (bAt x D s k))))), (6, .int (iI (((min ((nQ x).length + 3) (D.length - s) : Nat) : Int)))), (5, .int (iI (((max 1 ((nQ x).length - 3) : Nat) : Int)))), (4, .ref (a + 3)), (0, .ref f), (1, .ref a), (2, .ref u), (3, .int (iI (((s : Nat) : Int))))] hb 126 11 2 dX1_searchAt_123 rfl rfl hnL (by decide) (((k : Nat) : Int) + 2) (by omega) rfl ?_
            refine r_goto hb 56 dX1_searchAt_126 (by decide) ?_
            have hk1 : k + 1 ≤ min ((nQ x).length + 3) (D.length - s) := by omega
            have e := bAt_keep (D := D) (s := s) (k := k) hx (by omega) (by omega) (by omega) (by omega)
            refine r_lv [(8, .int (iI (((k + 1 : Nat) : Int) + 1))), (7, .int (iI (gI (bAt x D s (k + 1))))), (6, .int (iI ((min ((nQ x).length + 3) (D.length - s) : Nat) : Int))), (5, .int (iI ((max 1 ((nQ x).length - 3) : Nat) : Int))), (4, .ref (a + 3)), (0, .ref f), (1, .ref a), (2, .ref u), (3, .int (iI ((s : Nat) : Int)))] [0, 3, 4, 5, 6, 7, 8, 9, 10] (by rw [e]; rfl) ?_
            refine ih_lp (min ((nQ x).length + 3) (D.length - s) - (k + 1)) (by omega) (k + 1) _ rfl (by omega) (by rw [e]; exact fc) hR hN hD (hO.trans (ow_80.mono (by omega) (by omega)))
          · refine r_iload hb 115 dX1_searchAt_113 rfl 0 rfl ?_
            refine r_istore [(7, .int (iI ((scN x D s (s + (k + 1)) (edK (nQ x) D s (k + 1) (nQ x).length))))), (10, .int (iI ((scN x D s (s + (k + 1)) (edK (nQ x) D s (k + 1) (nQ x).length))))), (9, .int (iI ((((s + (k + 1) : Nat) : Nat) : Int)))), (8, .int (iI (((k : Nat) : Int) + 1))), (6, .int (iI (((min ((nQ x).length + 3) (D.length - s) : Nat) : Int)))), (5, .int (iI (((max 1 ((nQ x).length - 3) : Nat) : Int)))), (4, .ref (a + 3)), (0, .ref f), (1, .ref a), (2, .ref u), (3, .int (iI (((s : Nat) : Int))))] hb 117 11 dX1_searchAt_115 rfl hnL (by decide) rfl ?_
            refine r_aload_n hb 118 dX1_searchAt_117 rfl 7 rfl ?_
            refine r_iload hb 120 dX1_searchAt_118 rfl 2 rfl ?_
            refine r_put hb ho 123 dX1_searchAt_120 rfl lk_X1_55 pf_X1_4 fc (Nat.le_of_ble_eq_true rfl) ⟨rfl, rfl⟩ (fun w_120 hw_120 => ?_)
            have ow_120 := pset_off hw_120
            have xw_120 : w_120 f = some (eO 1 [.ref (f + 1), .int (iI (b0)), .int (iI (b1)), .int (iI (b2)), .int (iI ((((s + (k + 1) : Nat) : Nat) : Int)))]) := by rw [hw_120]; exact pset_eq _ _ _
            have hR : fr w_120 f (nQ x).length (edK (nQ x) D s (k + 1)) := hR.off ow_120 (by omega)
            have hN : nt w_120 a x := hN.off ow_120 (by omega)
            have h0 : w_120 a = some (eO 3 [.ref (a + 1), .ref (a + 3), .ref (a + 5), .int (iI (((nNum x : Nat) : Int))), .int (bI (nK x)), .int (iI (((nB x : Nat) : Int))), .int (iI (((nE x : Nat) : Int))), .int (nW x)]) := (ow_120 _ (by omega)).trans h0
            have tQ : tx w_120 (a + 3) 16 (nQ x) := tQ.off ow_120 (by omega)
            have q0 : w_120 (a + 3) = some (eO 7 [.ref (a + 3 + 1), .int (iI ((((nQ x).length : Nat) : Int)))]) := (ow_120 _ (by omega)).trans q0
            have hD : tx w_120 u 120 D := hD.off ow_120 (by omega)
            have d0 : w_120 u = some (eO 7 [.ref (u + 1), .int (iI (((D.length : Nat) : Int)))]) := (ow_120 _ (by omega)).trans d0
            refine r_iinc [(8, .int (iI (((k : Nat) : Int) + 2))), (7, .int (iI ((scN x D s (s + (k + 1)) (edK (nQ x) D s (k + 1) (nQ x).length))))), (10, .int (iI ((scN x D s (s + (k + 1)) (edK (nQ x) D s (k + 1) (nQ x).length))))), (9, .int (iI ((((s + (k + 1) : Nat) : Nat) : Int)))), (6, .int (iI (((min ((nQ x).length + 3) (D.length - s) : Nat) : Int)))), (5, .int (iI (((max 1 ((nQ x).length - 3) : Nat) : Int)))), (4, .ref (a + 3)), (0, .ref f), (1, .ref a), (2, .ref u), (3, .int (iI (((s : Nat) : Int))))] hb 126 11 3 dX1_searchAt_123 rfl rfl hnL (by decide) (((k : Nat) : Int) + 2) (by omega) rfl ?_
            refine r_goto hb 56 dX1_searchAt_126 (by decide) ?_
            have hk1 : k + 1 ≤ min ((nQ x).length + 3) (D.length - s) := by omega
            have e := bAt_up (D := D) (s := s) (k := k) hx (by omega) (by omega) (by omega) (by omega)
            refine r_lv [(8, .int (iI (((k + 1 : Nat) : Int) + 1))), (7, .int (iI (gI (bAt x D s (k + 1))))), (6, .int (iI ((min ((nQ x).length + 3) (D.length - s) : Nat) : Int))), (5, .int (iI ((max 1 ((nQ x).length - 3) : Nat) : Int))), (4, .ref (a + 3)), (0, .ref f), (1, .ref a), (2, .ref u), (3, .int (iI ((s : Nat) : Int)))] [0, 1, 4, 5, 6, 7, 8, 9, 10] (by rw [e]; rfl) ?_
            refine ih_lp (min ((nQ x).length + 3) (D.length - s) - (k + 1)) (by omega) (k + 1) _ rfl (by omega) (by rw [e]; exact xw_120) hR hN hD ((hO.trans (ow_80.mono (by omega) (by omega))).trans (ow_120.mono (by omega) (by omega)))
  refine r_lv [(8, .int (iI (((0 : Nat) : Int) + 1))), (7, .int (iI (gI (bAt x D s 0)))), (6, .int (iI ((min ((nQ x).length + 3) (D.length - s) : Nat) : Int))), (5, .int (iI ((max 1 ((nQ x).length - 3) : Nat) : Int))), (4, .ref (a + 3)), (0, .ref f), (1, .ref a), (2, .ref u), (3, .int (iI ((s : Nat) : Int)))] [0, 1, 2, 3, 4, 5, 6, 7, 8] rfl ?_
  refine lp _ 0 _ rfl (Nat.zero_le _) xw_46 ?_ hN hD (((ow_46.mono (by omega) (by omega))).trans (ow_50.mono (by omega) (by omega)))
  obtain ⟨g1, k1, k2⟩ := hR
  exact ⟨g1, k1, fun j hj => by rw [k2 j (by omega)]; rfl⟩

abbrev rm_X1_search : Room := { frames := 4, cells := 0, slots := 0, locals := 99 }
set_option maxHeartbeats 4000000 in
set_option maxRecDepth 100000 in
theorem c_X1_search (a u : Nat) (x : Nt) (D : List Int32) (f m0 : Nat) (r0 : Nat → Nat) (b0 b1 b2 eh : Int) {w : PW} {n : Nat} (hF : fd w f b0 b1 b2 eh) (hR : fr w f m0 r0) (hN : nt w a x) (hD : tx w u 120 D) (hd1 : f + 2 ≤ a ∨ a + 7 ≤ f) (hd2 : f + 2 ≤ u ∨ u + 2 ≤ f) (hx : nOk x) : Ct0 yX1_search cX1_search 5 none rm_X1_search [.ref f, .ref a, .ref u] w n (fun w1 n1 => n = n1 ∧ (∃ e2, fd w1 f (gB0 (fB x D)) (gB1 (fB x D)) (gB2 (fB x D)) e2) ∧ (∃ r, fr w1 f 0 r) ∧ off w w1 f (f + 2)) := by
  obtain ⟨h0, tP, tQ, tS, hnum, hB, hE⟩ := id hN
  have fc := hF
  have q0 := tQ.1
  have d0 := hD.1
  have d1 := hD.2.1
  have q1 := tQ.2.1
  refine Ctr.of rfl (Nat.le_of_ble_eq_true rfl) fun S hS => ?_
  have hb : S.1.1 = cX1_search := by rw [hS]; rfl
  have ho : S.1.2.1 = RX1 := by rw [hS]; rfl
  have hnL : S.1.2.2.1 = 5 := by rw [hS]; rfl
  have hR0 : S.2.1 = rm_X1_search := by rw [hS]; rfl
  show Wp S 0 [(0, .ref f), (1, .ref a), (2, .ref u)] [] w n 0 0
  refine r_aload_n hb 1 dX1_search_0 rfl 0 rfl ?_
  refine r_sipush (-1005) hb 4 dX1_search_1 rfl rfl ?_
  refine r_put hb ho 7 dX1_search_4 rfl lk_X1_38 pf_X1_1 fc (Nat.le_of_ble_eq_true rfl) ⟨rfl, rfl⟩ (fun w_4 hw_4 => ?_)
  have ow_4 := pset_off hw_4
  have xw_4 : w_4 f = some (eO 1 [.ref (f + 1), .int (iI (-1005)), .int (iI (b1)), .int (iI (b2)), .int (iI (eh))]) := by rw [hw_4]; exact pset_eq _ _ _
  have hR : fr w_4 f m0 r0 := hR.off ow_4 (by omega)
  have hN : nt w_4 a x := hN.off ow_4 (by omega)
  have h0 : w_4 a = some (eO 3 [.ref (a + 1), .ref (a + 3), .ref (a + 5), .int (iI (((nNum x : Nat) : Int))), .int (bI (nK x)), .int (iI (((nB x : Nat) : Int))), .int (iI (((nE x : Nat) : Int))), .int (nW x)]) := (ow_4 _ (by omega)).trans h0
  have tQ : tx w_4 (a + 3) 16 (nQ x) := tQ.off ow_4 (by omega)
  have q0 : w_4 (a + 3) = some (eO 7 [.ref (a + 3 + 1), .int (iI ((((nQ x).length : Nat) : Int)))]) := (ow_4 _ (by omega)).trans q0
  have hD : tx w_4 u 120 D := hD.off ow_4 (by omega)
  have d0 : w_4 u = some (eO 7 [.ref (u + 1), .int (iI (((D.length : Nat) : Int)))]) := (ow_4 _ (by omega)).trans d0
  refine r_aload_n hb 8 dX1_search_7 rfl 0 rfl ?_
  refine r_sipush (-1005) hb 11 dX1_search_8 rfl rfl ?_
  refine r_put hb ho 14 dX1_search_11 rfl lk_X1_42 pf_X1_2 xw_4 (Nat.le_of_ble_eq_true rfl) ⟨rfl, rfl⟩ (fun w_11 hw_11 => ?_)
  have ow_11 := pset_off hw_11
  have xw_11 : w_11 f = some (eO 1 [.ref (f + 1), .int (iI (-1005)), .int (iI (-1005)), .int (iI (b2)), .int (iI (eh))]) := by rw [hw_11]; exact pset_eq _ _ _
  have hR : fr w_11 f m0 r0 := hR.off ow_11 (by omega)
  have hN : nt w_11 a x := hN.off ow_11 (by omega)
  have h0 : w_11 a = some (eO 3 [.ref (a + 1), .ref (a + 3), .ref (a + 5), .int (iI (((nNum x : Nat) : Int))), .int (bI (nK x)), .int (iI (((nB x : Nat) : Int))), .int (iI (((nE x : Nat) : Int))), .int (nW x)]) := (ow_11 _ (by omega)).trans h0
  have tQ : tx w_11 (a + 3) 16 (nQ x) := tQ.off ow_11 (by omega)
  have q0 : w_11 (a + 3) = some (eO 7 [.ref (a + 3 + 1), .int (iI ((((nQ x).length : Nat) : Int)))]) := (ow_11 _ (by omega)).trans q0
  have hD : tx w_11 u 120 D := hD.off ow_11 (by omega)
  have d0 : w_11 u = some (eO 7 [.ref (u + 1), .int (iI (((D.length : Nat) : Int)))]) := (ow_11 _ (by omega)).trans d0
  refine r_aload_n hb 15 dX1_search_14 rfl 0 rfl ?_
  refine r_sipush (-1005) hb 18 dX1_search_15 rfl rfl ?_
  refine r_put hb ho 21 dX1_search_18 rfl lk_X1_45 pf_X1_3 xw_11 (Nat.le_of_ble_eq_true rfl) ⟨rfl, rfl⟩ (fun w_18 hw_18 => ?_)
  have ow_18 := pset_off hw_18
  have xw_18 : w_18 f = some (eO 1 [.ref (f + 1), .int (iI (-1005)), .int (iI (-1005)), .int (iI (-1005)), .int (iI (eh))]) := by rw [hw_18]; exact pset_eq _ _ _
  have hR : fr w_18 f m0 r0 := hR.off ow_18 (by omega)
  have hN : nt w_18 a x := hN.off ow_18 (by omega)
  have h0 : w_18 a = some (eO 3 [.ref (a + 1), .ref (a + 3), .ref (a + 5), .int (iI (((nNum x : Nat) : Int))), .int (bI (nK x)), .int (iI (((nB x : Nat) : Int))), .int (iI (((nE x : Nat) : Int))), .int (nW x)]) := (ow_18 _ (by omega)).trans h0
  have tQ : tx w_18 (a + 3) 16 (nQ x) := tQ.off ow_18 (by omega)
  have q0 : w_18 (a + 3) = some (eO 7 [.ref (a + 3 + 1), .int (iI ((((nQ x).length : Nat) : Int)))]) := (ow_18 _ (by omega)).trans q0
  have hD : tx w_18 u 120 D := hD.off ow_18 (by omega)
  have d0 : w_18 u = some (eO 7 [.ref (u + 1), .int (iI (((D.length : Nat) : Int)))]) := (ow_18 _ (by omega)).trans d0
  refine r_iconst hb 22 dX1_search_21 rfl ?_
  refine r_istore_n [(3, .int (iI 0)), (0, .ref f), (1, .ref a), (2, .ref u)] hb 23 5 dX1_search_22 rfl rfl hnL (by decide) rfl ?_
  have lp : ∀ (d : Nat) (s : Nat) (wi : PW) (ei : Int) (ri : Nat → Nat), D.length - s = d → (s ≤ D.length) → (fd wi f (gB0 (fBt x D s)) (gB1 (fBt x D s)) (gB2 (fBt x D s)) ei) → (fr wi f 0 ri) → (nt wi a x) → (tx wi u 120 D) → (off w wi f (f + 2)) → Wp S 23 [(3, .int (iI (((s : Nat) : Int)))), (0, .ref f), (1, .ref a), (2, .ref u)] [] wi n 0 0 := by
    intro d
    induction d using Nat.strongRecOn with
    | _ d ih_lp =>
      intro s wi ei ri hd_lp hs fc hR hN hD hO
      obtain ⟨h0, tP, tQ, tS, hnum, hB, hE⟩ := id hN
      have q0 := tQ.1
      have d0 := hD.1
      have hgb := gB0_bd hx D (s := s) (by omega)
      have hga := gI_bd hx D (s := s) (by omega)
      refine r_iload_n hb 24 dX1_search_23 rfl 0 rfl ?_
      refine r_aload_n hb 25 dX1_search_24 rfl 3 rfl ?_
      refine r_get hb ho 28 dX1_search_25 rfl lk_X1_48 pf_X7_1 d0 rfl ?_
      refine r_icmp_ge hb 31 74 dX1_search_28 rfl (by decide) (by omega) (by omega) (fun c28 => ?_) (fun c28 => ?_)
      · refine r_vret hS dX1_search_74 rfl (Nat.zero_le _) (Nat.zero_le _) ?_
        have es : s = D.length := by omega
        subst es
        exact ⟨rfl, rfl, ⟨_, fc⟩, ⟨_, hR⟩, hO⟩
      · refine r_aload_n hb 32 dX1_search_31 rfl 1 rfl ?_
        refine r_aload_n hb 33 dX1_search_32 rfl 2 rfl ?_
        refine r_aload_n hb 34 dX1_search_33 rfl 3 rfl ?_
        refine r_iload_n hb 35 dX1_search_34 rfl 0 rfl ?_
        refine r_callV1 (st := []) hb ho 38 dX1_search_35 rfl ck_X1_51 (c_X1_searchAt a u s x D f 0 ri (gB0 (fBt x D s)) (gB1 (fBt x D s)) (gB2 (fBt x D s)) ei fc hR hN hD hd1 hd2 (by omega) hx) rfl rfl (fc) rfl rfl (by rw [hR0]; exact ⟨Nat.le_of_ble_eq_true rfl, Nat.le_of_ble_eq_true rfl⟩) (Nat.le_of_ble_eq_true rfl) ⟨rfl, rfl⟩ (by rw [hR0]; exact Nat.zero_le _) (by rw [hR0]; exact Nat.zero_le _) (fun vw_35 w_35 nw_35 qw_35 => ?_)
        obtain ⟨rfl, rfl, fc, ⟨rj, hR⟩, ow_35⟩ := qw_35
        have hN : nt w_35 a x := hN.off ow_35 (by omega)
        have h0 : w_35 a = some (eO 3 [.ref (a + 1), .ref (a + 3), .ref (a + 5), .int (iI (((nNum x : Nat) : Int))), .int (bI (nK x)), .int (iI (((nB x : Nat) : Int))), .int (iI (((nE x : Nat) : Int))), .int (nW x)]) := (ow_35 _ (by omega)).trans h0
        have tQ : tx w_35 (a + 3) 16 (nQ x) := tQ.off ow_35 (by omega)
        have q0 : w_35 (a + 3) = some (eO 7 [.ref (a + 3 + 1), .int (iI ((((nQ x).length : Nat) : Int)))]) := (ow_35 _ (by omega)).trans q0
        have hD : tx w_35 u 120 D := hD.off ow_35 (by omega)
        have d0 : w_35 u = some (eO 7 [.ref (u + 1), .int (iI (((D.length : Nat) : Int)))]) := (ow_35 _ (by omega)).trans d0
        refine r_istore [(4, .int (iI ((gI (bA x D s))))), (3, .int (iI (((s : Nat) : Int)))), (0, .ref f), (1, .ref a), (2, .ref u)] hb 40 5 dX1_search_38 rfl hnL (by decide) rfl ?_
        refine r_iload hb 42 dX1_search_40 rfl 0 rfl ?_
        refine r_aload_n hb 43 dX1_search_42 rfl 2 rfl ?_
        refine r_get hb ho 46 dX1_search_43 rfl lk_X1_38 pf_X1_1 fc rfl ?_
        refine r_icmp_le hb 49 68 dX1_search_46 rfl (by decide) (by omega) (by omega) (fun c46 => ?_) (fun c46 => ?_)
        · refine r_iinc [(3, .int (iI (((s : Nat) : Int) + 1))), (4, .int (iI ((gI (bA x D s))))), (0, .ref f), (1, .ref a), (2, .ref u)] hb 71 5 1 dX1_search_68 rfl rfl hnL (by decide) (((s : Nat) : Int) + 1) (by omega) rfl ?_
          refine r_goto hb 23 dX1_search_71 (by decide) ?_
          have e := fBt_keep hx (by omega) (by omega : gI (bA x D s) ≤ gB0 (fBt x D s))
          refine r_lv [(3, .int (iI (((s + 1 : Nat)) : Int))), (0, .ref f), (1, .ref a), (2, .ref u)] [0, 2, 3, 4] rfl ?_
          exact ih_lp (D.length - (s + 1)) (by omega) (s + 1) _ _ _ rfl (by omega) (by rw [e]; exact fc) hR hN hD (hO.trans (ow_35.mono (by omega) (by omega)))
        · refine r_aload_n hb 50 dX1_search_49 rfl 2 rfl ?_
          refine r_iload hb 52 dX1_search_50 rfl 0 rfl ?_
          refine r_put hb ho 55 dX1_search_52 rfl lk_X1_38 pf_X1_1 fc (Nat.le_of_ble_eq_true rfl) ⟨rfl, rfl⟩ (fun w_52 hw_52 => ?_)
          have ow_52 := pset_off hw_52
          have xw_52 : w_52 f = some (eO 1 [.ref (f + 1), .int (iI ((gI (bA x D s)))), .int (iI (((gB1 (fBt x D s))))), .int (iI (((gB2 (fBt x D s))))), .int (iI (((gE s (bA x D s)))))]) := by rw [hw_52]; exact pset_eq _ _ _
          have hR : fr w_52 f 0 rj := hR.off ow_52 (by omega)
          have hN : nt w_52 a x := hN.off ow_52 (by omega)
          have h0 : w_52 a = some (eO 3 [.ref (a + 1), .ref (a + 3), .ref (a + 5), .int (iI (((nNum x : Nat) : Int))), .int (bI (nK x)), .int (iI (((nB x : Nat) : Int))), .int (iI (((nE x : Nat) : Int))), .int (nW x)]) := (ow_52 _ (by omega)).trans h0
          have tQ : tx w_52 (a + 3) 16 (nQ x) := tQ.off ow_52 (by omega)
          have q0 : w_52 (a + 3) = some (eO 7 [.ref (a + 3 + 1), .int (iI ((((nQ x).length : Nat) : Int)))]) := (ow_52 _ (by omega)).trans q0
          have hD : tx w_52 u 120 D := hD.off ow_52 (by omega)
          have d0 : w_52 u = some (eO 7 [.ref (u + 1), .int (iI (((D.length : Nat) : Int)))]) := (ow_52 _ (by omega)).trans d0
          refine r_aload_n hb 56 dX1_search_55 rfl 2 rfl ?_
          refine r_iload_n hb 57 dX1_search_56 rfl 1 rfl ?_
          refine r_put hb ho 60 dX1_search_57 rfl lk_X1_42 pf_X1_2 xw_52 (Nat.le_of_ble_eq_true rfl) ⟨rfl, rfl⟩ (fun w_57 hw_57 => ?_)
          have ow_57 := pset_off hw_57
          have xw_57 : w_57 f = some (eO 1 [.ref (f + 1), .int (iI ((gI (bA x D s)))), .int (iI (((s : Nat) : Int))), .int (iI (((gB2 (fBt x D s))))), .int (iI (((gE s (bA x D s)))))]) := by rw [hw_57]; exact pset_eq _ _ _
          have hR : fr w_57 f 0 rj := hR.off ow_57 (by omega)
          have hN : nt w_57 a x := hN.off ow_57 (by omega)
          have h0 : w_57 a = some (eO 3 [.ref (a + 1), .ref (a + 3), .ref (a + 5), .int (iI (((nNum x : Nat) : Int))), .int (bI (nK x)), .int (iI (((nB x : Nat) : Int))), .int (iI (((nE x : Nat) : Int))), .int (nW x)]) := (ow_57 _ (by omega)).trans h0
          have tQ : tx w_57 (a + 3) 16 (nQ x) := tQ.off ow_57 (by omega)
          have q0 : w_57 (a + 3) = some (eO 7 [.ref (a + 3 + 1), .int (iI ((((nQ x).length : Nat) : Int)))]) := (ow_57 _ (by omega)).trans q0
          have hD : tx w_57 u 120 D := hD.off ow_57 (by omega)
          have d0 : w_57 u = some (eO 7 [.ref (u + 1), .int (iI (((D.length : Nat) : Int)))]) := (ow_57 _ (by omega)).trans d0
          refine r_aload_n hb 61 dX1_search_60 rfl 2 rfl ?_
          refine r_aload_n hb 62 dX1_search_61 rfl 2 rfl ?_
          refine r_get hb ho 65 dX1_search_62 rfl lk_X1_55 pf_X1_4 xw_57 rfl ?_
          refine r_put hb ho 68 dX1_search_65 rfl lk_X1_45 pf_X1_3 xw_57 (Nat.le_of_ble_eq_true rfl) ⟨rfl, rfl⟩ (fun w_65 hw_65 => ?_)
          have ow_65 := pset_off hw_65
          have xw_65 : w_65 f = some (eO 1 [.ref (f + 1), .int (iI ((gI (bA x D s)))), .int (iI (((s : Nat) : Int))), .int (iI (((gE s (bA x D s))))), .int (iI (((gE s (bA x D s)))))]) := by rw [hw_65]; exact pset_eq _ _ _
          have hR : fr w_65 f 0 rj := hR.off ow_65 (by omega)
          have hN : nt w_65 a x := hN.off ow_65 (by omega)
          have h0 : w_65 a = some (eO 3 [.ref (a + 1), .ref (a + 3), .ref (a + 5), .int (iI (((nNum x : Nat) : Int))), .int (bI (nK x)), .int (iI (((nB x : Nat) : Int))), .int (iI (((nE x : Nat) : Int))), .int (nW x)]) := (ow_65 _ (by omega)).trans h0
          have tQ : tx w_65 (a + 3) 16 (nQ x) := tQ.off ow_65 (by omega)
          have q0 : w_65 (a + 3) = some (eO 7 [.ref (a + 3 + 1), .int (iI ((((nQ x).length : Nat) : Int)))]) := (ow_65 _ (by omega)).trans q0
          have hD : tx w_65 u 120 D := hD.off ow_65 (by omega)
          have d0 : w_65 u = some (eO 7 [.ref (u + 1), .int (iI (((D.length : Nat) : Int)))]) := (ow_65 _ (by omega)).trans d0
          refine r_iinc [(3, .int (iI (((s : Nat) : Int) + 1))), (4, .int (iI ((gI (bA x D s))))), (0, .ref f), (1, .ref a), (2, .ref u)] hb 71 5 1 dX1_search_68 rfl rfl hnL (by decide) (((s : Nat) : Int) + 1) (by omega) rfl ?_
          refine r_goto hb 23 dX1_search_71 (by decide) ?_
          obtain ⟨p, e1, e⟩ := fBt_up hx (by omega) (by omega : gB0 (fBt x D s) < gI (bA x D s))
          rw [e1] at xw_65
          refine r_lv [(3, .int (iI (((s + 1 : Nat)) : Int))), (0, .ref f), (1, .ref a), (2, .ref u)] [0, 2, 3, 4] rfl ?_
          exact ih_lp (D.length - (s + 1)) (by omega) (s + 1) _ _ _ rfl (by omega) (by rw [e]; exact xw_65) hR hN hD ((((hO.trans (ow_35.mono (by omega) (by omega))).trans (ow_52.mono (by omega) (by omega))).trans (ow_57.mono (by omega) (by omega))).trans (ow_65.mono (by omega) (by omega)))
  refine r_lv [(3, .int (iI (((0 : Nat)) : Int))), (0, .ref f), (1, .ref a), (2, .ref u)] [0, 1, 2, 3] rfl ?_
  exact lp _ 0 _ _ _ rfl (Nat.zero_le _) xw_18 (let ⟨g, k1, k2⟩ := hR; ⟨g, k1, fun j hj => k2 j (by omega)⟩) hN hD (((ow_4.mono (by omega) (by omega)).trans (ow_11.mono (by omega) (by omega))).trans (ow_18.mono (by omega) (by omega)))

abbrev rm_X1_init : Room := { frames := 1, cells := 1, slots := 17, locals := 12 }
set_option maxHeartbeats 4000000 in
set_option maxRecDepth 100000 in
theorem c_X1_init (f : Nat) {w : PW}  (h0 : w f = some (eO 1 [.null, .int (iI 0), .int (iI 0), .int (iI 0), .int (iI 0)])) : Ct0 yX1_init cX1_init 1 none rm_X1_init [.ref f] w (f + 1) (fun w1 n1 => n1 = f + 2 ∧ fd w1 f 0 0 0 0 ∧ fr w1 f 0 (fun _ => 0) ∧ off w w1 f (f + 2)) := by
  refine Ctr.of rfl (Nat.le_of_ble_eq_true rfl) fun S hS => ?_
  have hb : S.1.1 = cX1_init := by rw [hS]; rfl
  have ho : S.1.2.1 = RX1 := by rw [hS]; rfl
  have hnL : S.1.2.2.1 = 1 := by rw [hS]; rfl
  have hR0 : S.2.1 = rm_X1_init := by rw [hS]; rfl
  have hnm : S.1.2.2.2.2 = "<init>" := by rw [hS]; rfl
  show Wp S 0 [(0, .ref f)] [] w (f + 1) 0 0
  refine r_aload_n hb 1 dX1_init_0 rfl 0 rfl ?_
  refine r_objInit hb ho 4 dX1_init_1 rfl ck_X1_3 ob_i ob_c (by rw [hR0]; exact Nat.le_of_ble_eq_true rfl) (by rw [hR0]; exact Nat.le_of_ble_eq_true rfl) ?_
  refine r_aload_n hb 5 dX1_init_4 rfl 0 rfl ?_
  refine r_bipush 17 hb 7 dX1_init_5 rfl rfl ?_
  refine r_newI (N := 17) hb 9 dX1_init_7 rfl ka_int (rfl) (by omega) (by rw [hR0]; exact Nat.le_of_ble_eq_true rfl) (by rw [hR0]; exact Nat.le_of_ble_eq_true rfl) (fun w_7 hw_7 => ?_)
  have ow_7 := pset_off hw_7
  have fw_7 : w_7 (f + 1) = some (eI 17 (fun _ => 0)) := by rw [hw_7]; exact pset_eq _ _ _
  have h0 : w_7 f = some (eO 1 [.null, .int (iI 0), .int (iI 0), .int (iI 0), .int (iI 0)]) := (ow_7 _ (by omega)).trans h0
  refine r_putF hb ho hnm rfl 12 dX1_init_9 rfl lkw_X1_9 pf_X1_0 h0 (Nat.le_of_ble_eq_true rfl) ⟨rfl, rfl⟩ (fun w_9 hw_9 => ?_)
  have ow_9 := pset_off hw_9
  have xw_9 : w_9 f = some (eO 1 [.ref ((f + 1)), .int (iI 0), .int (iI 0), .int (iI 0), .int (iI 0)]) := by rw [hw_9]; exact pset_eq _ _ _
  have fw_7 : w_9 (f + 1) = some (eI 17 (fun _ => 0)) := (ow_9 _ (by omega)).trans fw_7
  refine r_vret hS dX1_init_12 rfl (Nat.le_of_ble_eq_true rfl) (Nat.le_of_ble_eq_true rfl) ?_
  exact ⟨rfl, rfl, xw_9, ⟨fun _ => 0, fw_7, fun _ _ => rfl⟩, (ow_7.mono (by omega) (by omega)).trans (ow_9.mono (by omega) (by omega))⟩
end
