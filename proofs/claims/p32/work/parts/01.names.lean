-- ===== PART A: goes FIRST, ahead of the names: the tables' words, and 'selects' of the private methods out of them =====
/-- a private method of a class that the tables say can be made, by its rows of tables_1 -/
def lw_okq (q : MethodName × Nat) : Prop := (q.1.cls ≠ "java/lang/invoke/MethodHandle" ∧ q.1.cls ≠ "java/lang/invoke/VarHandle") ∧ Cond.instantiable q.1.cls q.2 ∈ tables_1 ∧ Cond.privateMethod q.1 ∈ tables_1 ∧ Cond.instanceMethod q.1 ∈ tables_1
theorem lw_p0 : lw_okq (⟨"AnchoredComments$History", "dropOldest", "()V"⟩, 2) := ⟨⟨by decide +kernel, by decide +kernel⟩, List.mem_of_getElem? (i := 116) (by decide +kernel), List.mem_of_getElem? (i := 257) (by decide +kernel), List.mem_of_getElem? (i := 258) (by decide +kernel)⟩
theorem lw_p1 : lw_okq (⟨"AnchoredComments", "isPosition", "(I)Z"⟩, 8) := ⟨⟨by decide +kernel, by decide +kernel⟩, List.mem_of_getElem? (i := 12) (by decide +kernel), List.mem_of_getElem? (i := 299) (by decide +kernel), List.mem_of_getElem? (i := 300) (by decide +kernel)⟩
theorem lw_p2 : lw_okq (⟨"AnchoredComments", "isRange", "(III)Z"⟩, 8) := ⟨⟨by decide +kernel, by decide +kernel⟩, List.mem_of_getElem? (i := 12) (by decide +kernel), List.mem_of_getElem? (i := 338) (by decide +kernel), List.mem_of_getElem? (i := 339) (by decide +kernel)⟩
theorem lw_p3 : lw_okq (⟨"AnchoredComments$Finder", "beginRow", "()V"⟩, 5) := ⟨⟨by decide +kernel, by decide +kernel⟩, List.mem_of_getElem? (i := 152) (by decide +kernel), List.mem_of_getElem? (i := 390) (by decide +kernel), List.mem_of_getElem? (i := 391) (by decide +kernel)⟩
theorem lw_p4 : lw_okq (⟨"AnchoredComments$Finder", "takeLetter", "(LAnchoredComments$Text;I)V"⟩, 5) := ⟨⟨by decide +kernel, by decide +kernel⟩, List.mem_of_getElem? (i := 152) (by decide +kernel), List.mem_of_getElem? (i := 395) (by decide +kernel), List.mem_of_getElem? (i := 396) (by decide +kernel)⟩
theorem lw_p5 : lw_okq (⟨"AnchoredComments$Finder", "endOfRow", "(LAnchoredComments$Text;)I"⟩, 5) := ⟨⟨by decide +kernel, by decide +kernel⟩, List.mem_of_getElem? (i := 152) (by decide +kernel), List.mem_of_getElem? (i := 399) (by decide +kernel), List.mem_of_getElem? (i := 400) (by decide +kernel)⟩
theorem lw_p6 : lw_okq (⟨"AnchoredComments$Note", "likeBefore", "(LAnchoredComments$Text;I)I"⟩, 8) := ⟨⟨by decide +kernel, by decide +kernel⟩, List.mem_of_getElem? (i := 52) (by decide +kernel), List.mem_of_getElem? (i := 407) (by decide +kernel), List.mem_of_getElem? (i := 408) (by decide +kernel)⟩
theorem lw_p7 : lw_okq (⟨"AnchoredComments$Note", "likeBehind", "(LAnchoredComments$Text;I)I"⟩, 8) := ⟨⟨by decide +kernel, by decide +kernel⟩, List.mem_of_getElem? (i := 52) (by decide +kernel), List.mem_of_getElem? (i := 412) (by decide +kernel), List.mem_of_getElem? (i := 413) (by decide +kernel)⟩
theorem lw_p8 : lw_okq (⟨"AnchoredComments", "isLetterIndex", "(I)Z"⟩, 8) := ⟨⟨by decide +kernel, by decide +kernel⟩, List.mem_of_getElem? (i := 12) (by decide +kernel), List.mem_of_getElem? (i := 444) (by decide +kernel), List.mem_of_getElem? (i := 445) (by decide +kernel)⟩
theorem lw_p9 : lw_okq (⟨"AnchoredComments$Page", "rankOf", "(LAnchoredComments$Note;I)I"⟩, 4) := ⟨⟨by decide +kernel, by decide +kernel⟩, List.mem_of_getElem? (i := 43) (by decide +kernel), List.mem_of_getElem? (i := 456) (by decide +kernel), List.mem_of_getElem? (i := 457) (by decide +kernel)⟩
theorem lw_p10 : lw_okq (⟨"AnchoredComments", "mixNote", "(JLAnchoredComments$Note;)J"⟩, 8) := ⟨⟨by decide +kernel, by decide +kernel⟩, List.mem_of_getElem? (i := 12) (by decide +kernel), List.mem_of_getElem? (i := 490) (by decide +kernel), List.mem_of_getElem? (i := 491) (by decide +kernel)⟩
theorem lw_p11 : lw_okq (⟨"AnchoredComments$Planner", "takeIn", "(LAnchoredComments$Note;)V"⟩, 3) := ⟨⟨by decide +kernel, by decide +kernel⟩, List.mem_of_getElem? (i := 178) (by decide +kernel), List.mem_of_getElem? (i := 570) (by decide +kernel), List.mem_of_getElem? (i := 571) (by decide +kernel)⟩
theorem lw_p12 : lw_okq (⟨"AnchoredComments$Page", "firstTwin", "(I)I"⟩, 4) := ⟨⟨by decide +kernel, by decide +kernel⟩, List.mem_of_getElem? (i := 43) (by decide +kernel), List.mem_of_getElem? (i := 618) (by decide +kernel), List.mem_of_getElem? (i := 619) (by decide +kernel)⟩
def lw_privs_1 : List (MethodName × Nat) := [(⟨"AnchoredComments$History", "dropOldest", "()V"⟩, 2), (⟨"AnchoredComments", "isPosition", "(I)Z"⟩, 8), (⟨"AnchoredComments", "isRange", "(III)Z"⟩, 8), (⟨"AnchoredComments$Finder", "beginRow", "()V"⟩, 5), (⟨"AnchoredComments$Finder", "takeLetter", "(LAnchoredComments$Text;I)V"⟩, 5), (⟨"AnchoredComments$Finder", "endOfRow", "(LAnchoredComments$Text;)I"⟩, 5), (⟨"AnchoredComments$Note", "likeBefore", "(LAnchoredComments$Text;I)I"⟩, 8), (⟨"AnchoredComments$Note", "likeBehind", "(LAnchoredComments$Text;I)I"⟩, 8), (⟨"AnchoredComments", "isLetterIndex", "(I)Z"⟩, 8), (⟨"AnchoredComments$Page", "rankOf", "(LAnchoredComments$Note;I)I"⟩, 4), (⟨"AnchoredComments", "mixNote", "(JLAnchoredComments$Note;)J"⟩, 8), (⟨"AnchoredComments$Planner", "takeIn", "(LAnchoredComments$Note;)V"⟩, 3), (⟨"AnchoredComments$Page", "firstTwin", "(I)I"⟩, 4)]
theorem lw_r1 : ∀ q ∈ lw_privs_1, lw_okq q := List.forall_mem_cons.mpr ⟨lw_p0, List.forall_mem_cons.mpr ⟨lw_p1, List.forall_mem_cons.mpr ⟨lw_p2, List.forall_mem_cons.mpr ⟨lw_p3, List.forall_mem_cons.mpr ⟨lw_p4, List.forall_mem_cons.mpr ⟨lw_p5, List.forall_mem_cons.mpr ⟨lw_p6, List.forall_mem_cons.mpr ⟨lw_p7, List.forall_mem_cons.mpr ⟨lw_p8, List.forall_mem_cons.mpr ⟨lw_p9, List.forall_mem_cons.mpr ⟨lw_p10, List.forall_mem_cons.mpr ⟨lw_p11, List.forall_mem_cons.mpr ⟨lw_p12, fun _ h => absurd h List.not_mem_nil⟩⟩⟩⟩⟩⟩⟩⟩⟩⟩⟩⟩⟩
def lw_privs : List (MethodName × Nat) := lw_privs_1
def lw_tbl : List Cond := k2_sels lw_privs ++ tables_1
theorem lw_privs_ok : ∀ q ∈ lw_privs, lw_okq q := lw_r1
/-! ===== BEGIN words of one list among another's, by their places ===== -/
theorem goodIn_r {big : List Cond} (ws : List Cond) (ps : List Nat) (hp : ws = ps.filterMap (fun i => big[i]?)) (h : ws.all goodWord = true) : GoodIn big ws := by
  intro w hw
  have h1 := List.all_eq_true.mp h w hw
  rw [hp] at hw
  obtain ⟨i, -, hi⟩ := List.mem_filterMap.mp hw
  have hm : w ∈ big := by first | exact List.mem_of_getElem? hi | exact List.getElem?_mem hi
  exact ⟨hm, good_of_word h1⟩
theorem goodIn_app {big a b : List Cond} (ha : GoodIn big a) (hb : GoodIn big b) : GoodIn big (a ++ b) := fun w h => (List.mem_append.mp h).elim (ha w) (hb w)
theorem goodIn_ca {big a b : List Cond} {c : Cond} (ha : GoodIn big (c :: a)) (hb : GoodIn big b) : GoodIn big (c :: (a ++ b)) := fun w h => (List.mem_cons.mp h).elim (fun e => ha w (List.mem_cons.mpr (Or.inl e))) (fun h => (List.mem_append.mp h).elim (fun h => ha w (List.mem_cons.mpr (Or.inr h))) (hb w))
theorem goodIn_sub {big ws : List Cond} (hm : ∀ w ∈ ws, w ∈ big) (h : ws.all goodWord = true) : GoodIn big ws := fun w hw => ⟨hm w hw, good_of_word (List.all_eq_true.mp h w hw)⟩
/-! ===== END ===== -/

/-! ===== BEGIN printed: names, fields, word lists, decode rows ===== -/
def RX0 : String := "AnchoredComments$Choices"
def TX0 : u_T := fun k => match k with
  | 0 => ("AnchoredComments$Choices", "scores", "[I", true)
  | 1 => ("AnchoredComments$Choices", "ends", "[I", true)
  | 2 => ("AnchoredComments$Choices", "sums", "[I", true)
  | _ => ("AnchoredComments$Choices", "size", "I", false)
def tyX0 : Nat → FieldType := fun k => match k with
  | 0 => .array .int
  | 1 => .array .int
  | 2 => .array .int
  | _ => .int
abbrev wsX00 : List Cond := u_ws RX0 TX0 4
theorem nmX0 : ∀ a, a < 4 → ∀ b, b < 4 → a ≠ b → (TX0 a).2.1 ≠ (TX0 b).2.1 := by decide +kernel
theorem tyX0_ok : ∀ k, k < 4 → parseFieldDescriptor (TX0 k).2.2.1 = some (tyX0 k) := by decide +kernel
abbrev cX0_init : ByteArray := prog_2_method_1_code
def yX0_init : MethodName := ⟨RX0, "<init>", "()V"⟩
abbrev cX0_weigh : ByteArray := prog_2_method_2_code
def yX0_weigh : MethodName := ⟨RX0, "weigh", "(LAnchoredComments$Note;LAnchoredComments$Text;ILAnchoredComments$Finder;)V"⟩
abbrev cX0_beNothing : ByteArray := prog_2_method_3_code
def yX0_beNothing : MethodName := ⟨RX0, "beNothing", "()V"⟩
abbrev cX0_addUp : ByteArray := prog_2_method_4_code
def yX0_addUp : MethodName := ⟨RX0, "addUp", "(LAnchoredComments$Choices;)V"⟩
abbrev cX0_sumFrom : ByteArray := prog_2_method_5_code
def yX0_sumFrom : MethodName := ⟨RX0, "sumFrom", "(I)I"⟩
abbrev cX0_endAt : ByteArray := prog_2_method_6_code
def yX0_endAt : MethodName := ⟨RX0, "endAt", "(I)I"⟩
abbrev cX0_choose : ByteArray := prog_2_method_7_code
def yX0_choose : MethodName := ⟨RX0, "choose", "(ILAnchoredComments$Choices;)I"⟩
def RX1 : String := "AnchoredComments$Finder"
def TX1 : u_T := fun k => match k with
  | 0 => ("AnchoredComments$Finder", "row", "[I", true)
  | 1 => ("AnchoredComments$Finder", "bestScore", "I", false)
  | 2 => ("AnchoredComments$Finder", "bestStart", "I", false)
  | 3 => ("AnchoredComments$Finder", "bestEnd", "I", false)
  | _ => ("AnchoredComments$Finder", "endHere", "I", false)
def tyX1 : Nat → FieldType := fun k => match k with
  | 0 => .array .int
  | 1 => .int
  | 2 => .int
  | 3 => .int
  | _ => .int
abbrev wsX10 : List Cond := u_ws RX1 TX1 5
theorem nmX1 : ∀ a, a < 5 → ∀ b, b < 5 → a ≠ b → (TX1 a).2.1 ≠ (TX1 b).2.1 := by decide +kernel
theorem tyX1_ok : ∀ k, k < 5 → parseFieldDescriptor (TX1 k).2.2.1 = some (tyX1 k) := by decide +kernel
abbrev cX1_init : ByteArray := prog_3_method_1_code
def yX1_init : MethodName := ⟨RX1, "<init>", "()V"⟩
abbrev cX1_distanceTo : ByteArray := prog_3_method_2_code
def yX1_distanceTo : MethodName := ⟨RX1, "distanceTo", "(LAnchoredComments$Note;LAnchoredComments$Text;II)I"⟩
abbrev cX1_search : ByteArray := prog_3_method_3_code
def yX1_search : MethodName := ⟨RX1, "search", "(LAnchoredComments$Note;LAnchoredComments$Text;)V"⟩
abbrev cX1_searchAt : ByteArray := prog_3_method_4_code
def yX1_searchAt : MethodName := ⟨RX1, "searchAt", "(LAnchoredComments$Note;LAnchoredComments$Text;I)I"⟩
abbrev cX1_beginRow : ByteArray := prog_3_method_5_code
def yX1_beginRow : MethodName := ⟨RX1, "beginRow", "()V"⟩
abbrev cX1_takeLetter : ByteArray := prog_3_method_6_code
def yX1_takeLetter : MethodName := ⟨RX1, "takeLetter", "(LAnchoredComments$Text;I)V"⟩
abbrev cX1_endOfRow : ByteArray := prog_3_method_7_code
def yX1_endOfRow : MethodName := ⟨RX1, "endOfRow", "(LAnchoredComments$Text;)I"⟩
def RX2 : String := "AnchoredComments$History"
def TX2 : u_T := fun k => match k with
  | 0 => ("AnchoredComments$History", "pages", "[LAnchoredComments$Page;", true)
  | _ => ("AnchoredComments$History", "count", "I", false)
def tyX2 : Nat → FieldType := fun k => match k with
  | 0 => .array (.object "AnchoredComments$Page")
  | _ => .int
abbrev wsX20 : List Cond := u_ws RX2 TX2 2
theorem nmX2 : ∀ a, a < 2 → ∀ b, b < 2 → a ≠ b → (TX2 a).2.1 ≠ (TX2 b).2.1 := by decide +kernel
theorem tyX2_ok : ∀ k, k < 2 → parseFieldDescriptor (TX2 k).2.2.1 = some (tyX2 k) := by decide +kernel
abbrev cX2_init : ByteArray := prog_4_method_1_code
def yX2_init : MethodName := ⟨RX2, "<init>", "()V"⟩
abbrev cX2_record : ByteArray := prog_4_method_2_code
def yX2_record : MethodName := ⟨RX2, "record", "(LAnchoredComments$Page;)V"⟩
abbrev cX2_dropOldest : ByteArray := prog_4_method_3_code
def yX2_dropOldest : MethodName := ⟨RX2, "dropOldest", "()V"⟩
abbrev cX2_stepBack : ByteArray := prog_4_method_4_code
def yX2_stepBack : MethodName := ⟨RX2, "stepBack", "(LAnchoredComments$Page;)V"⟩
def RX3 : String := "AnchoredComments$Note"
def TX3 : u_T := fun k => match k with
  | 0 => ("AnchoredComments$Note", "prefix", "LAnchoredComments$Text;", true)
  | 1 => ("AnchoredComments$Note", "quote", "LAnchoredComments$Text;", true)
  | 2 => ("AnchoredComments$Note", "suffix", "LAnchoredComments$Text;", true)
  | 3 => ("AnchoredComments$Note", "number", "I", false)
  | 4 => ("AnchoredComments$Note", "kind", "I", false)
  | 5 => ("AnchoredComments$Note", "start", "I", false)
  | 6 => ("AnchoredComments$Note", "end", "I", false)
  | _ => ("AnchoredComments$Note", "weight", "I", false)
def tyX3 : Nat → FieldType := fun k => match k with
  | 0 => .object "AnchoredComments$Text"
  | 1 => .object "AnchoredComments$Text"
  | 2 => .object "AnchoredComments$Text"
  | 3 => .int
  | 4 => .int
  | 5 => .int
  | 6 => .int
  | _ => .int
abbrev wsX30 : List Cond := u_ws RX3 TX3 8
theorem nmX3 : ∀ a, a < 8 → ∀ b, b < 8 → a ≠ b → (TX3 a).2.1 ≠ (TX3 b).2.1 := by decide +kernel
theorem tyX3_ok : ∀ k, k < 8 → parseFieldDescriptor (TX3 k).2.2.1 = some (tyX3 k) := by decide +kernel
abbrev cX3_init : ByteArray := prog_5_method_1_code
def yX3_init : MethodName := ⟨RX3, "<init>", "()V"⟩
abbrev cX3_become : ByteArray := prog_5_method_2_code
def yX3_become : MethodName := ⟨RX3, "become", "(LAnchoredComments$Note;)V"⟩
abbrev cX3_begin : ByteArray := prog_5_method_3_code
def yX3_begin : MethodName := ⟨RX3, "begin", "(IIILAnchoredComments$Text;)V"⟩
abbrev cX3_attachTo : ByteArray := prog_5_method_4_code
def yX3_attachTo : MethodName := ⟨RX3, "attachTo", "(II)V"⟩
abbrev cX3_quoteFrom : ByteArray := prog_5_method_5_code
def yX3_quoteFrom : MethodName := ⟨RX3, "quoteFrom", "(LAnchoredComments$Text;)V"⟩
abbrev cX3_moveForInsert : ByteArray := prog_5_method_6_code
def yX3_moveForInsert : MethodName := ⟨RX3, "moveForInsert", "(II)V"⟩
abbrev cX3_moveForDelete : ByteArray := prog_5_method_7_code
def yX3_moveForDelete : MethodName := ⟨RX3, "moveForDelete", "(II)Z"⟩
abbrev cX3_boundAfterDelete : ByteArray := prog_5_method_8_code
def yX3_boundAfterDelete : MethodName := ⟨RX3, "boundAfterDelete", "(III)I"⟩
abbrev cX3_moveForReplacement : ByteArray := prog_5_method_9_code
def yX3_moveForReplacement : MethodName := ⟨RX3, "moveForReplacement", "(I)V"⟩
abbrev cX3_isTwinOf : ByteArray := prog_5_method_10_code
def yX3_isTwinOf : MethodName := ⟨RX3, "isTwinOf", "(LAnchoredComments$Note;)Z"⟩
abbrev cX3_covers : ByteArray := prog_5_method_11_code
def yX3_covers : MethodName := ⟨RX3, "covers", "(I)Z"⟩
abbrev cX3_standsBefore : ByteArray := prog_5_method_12_code
def yX3_standsBefore : MethodName := ⟨RX3, "standsBefore", "(LAnchoredComments$Note;)Z"⟩
abbrev cX3_scoreOf : ByteArray := prog_5_method_13_code
def yX3_scoreOf : MethodName := ⟨RX3, "scoreOf", "(ILAnchoredComments$Text;II)I"⟩
abbrev cX3_likeBefore : ByteArray := prog_5_method_14_code
def yX3_likeBefore : MethodName := ⟨RX3, "likeBefore", "(LAnchoredComments$Text;I)I"⟩
abbrev cX3_likeBehind : ByteArray := prog_5_method_15_code
def yX3_likeBehind : MethodName := ⟨RX3, "likeBehind", "(LAnchoredComments$Text;I)I"⟩
def RX4 : String := "AnchoredComments$Page"
def TX4 : u_T := fun k => match k with
  | 0 => ("AnchoredComments$Page", "document", "LAnchoredComments$Text;", true)
  | 1 => ("AnchoredComments$Page", "notes", "[LAnchoredComments$Note;", true)
  | 2 => ("AnchoredComments$Page", "count", "I", false)
  | _ => ("AnchoredComments$Page", "next", "I", false)
def tyX4 : Nat → FieldType := fun k => match k with
  | 0 => .object "AnchoredComments$Text"
  | 1 => .array (.object "AnchoredComments$Note")
  | 2 => .int
  | _ => .int
abbrev wsX40 : List Cond := u_ws RX4 TX4 4
theorem nmX4 : ∀ a, a < 4 → ∀ b, b < 4 → a ≠ b → (TX4 a).2.1 ≠ (TX4 b).2.1 := by decide +kernel
theorem tyX4_ok : ∀ k, k < 4 → parseFieldDescriptor (TX4 k).2.2.1 = some (tyX4 k) := by decide +kernel
abbrev cX4_init : ByteArray := prog_6_method_1_code
def yX4_init : MethodName := ⟨RX4, "<init>", "()V"⟩
abbrev cX4_become : ByteArray := prog_6_method_2_code
def yX4_become : MethodName := ⟨RX4, "become", "(LAnchoredComments$Page;)V"⟩
abbrev cX4_indexOf : ByteArray := prog_6_method_3_code
def yX4_indexOf : MethodName := ⟨RX4, "indexOf", "(I)I"⟩
abbrev cX4_find : ByteArray := prog_6_method_4_code
def yX4_find : MethodName := ⟨RX4, "find", "(I)LAnchoredComments$Note;"⟩
abbrev cX4_addNote : ByteArray := prog_6_method_5_code
def yX4_addNote : MethodName := ⟨RX4, "addNote", "(II)I"⟩
abbrev cX4_drop : ByteArray := prog_6_method_6_code
def yX4_drop : MethodName := ⟨RX4, "drop", "(I)V"⟩
abbrev cX4_replaceDocument : ByteArray := prog_6_method_7_code
def yX4_replaceDocument : MethodName := ⟨RX4, "replaceDocument", "(LAnchoredComments$Text;)V"⟩
abbrev cX4_putIn : ByteArray := prog_6_method_8_code
def yX4_putIn : MethodName := ⟨RX4, "putIn", "(ILAnchoredComments$Text;)V"⟩
abbrev cX4_cutOut : ByteArray := prog_6_method_9_code
def yX4_cutOut : MethodName := ⟨RX4, "cutOut", "(II)I"⟩
abbrev cX4_hasTwins : ByteArray := prog_6_method_10_code
def yX4_hasTwins : MethodName := ⟨RX4, "hasTwins", "()Z"⟩
abbrev cX4_mergeTwins : ByteArray := prog_6_method_11_code
def yX4_mergeTwins : MethodName := ⟨RX4, "mergeTwins", "()I"⟩
abbrev cX4_firstTwin : ByteArray := prog_6_method_12_code
def yX4_firstTwin : MethodName := ⟨RX4, "firstTwin", "(I)I"⟩
abbrev cX4_numberCovering : ByteArray := prog_6_method_13_code
def yX4_numberCovering : MethodName := ⟨RX4, "numberCovering", "(II)I"⟩
abbrev cX4_rankOf : ByteArray := prog_6_method_14_code
def yX4_rankOf : MethodName := ⟨RX4, "rankOf", "(LAnchoredComments$Note;I)I"⟩
def RX5 : String := "AnchoredComments$Planner"
def TX5 : u_T := fun k => match k with
  | 0 => ("AnchoredComments$Planner", "orphans", "[LAnchoredComments$Note;", true)
  | 1 => ("AnchoredComments$Planner", "choices", "[LAnchoredComments$Choices;", true)
  | _ => ("AnchoredComments$Planner", "count", "I", false)
def tyX5 : Nat → FieldType := fun k => match k with
  | 0 => .array (.object "AnchoredComments$Note")
  | 1 => .array (.object "AnchoredComments$Choices")
  | _ => .int
abbrev wsX50 : List Cond := u_ws RX5 TX5 3
theorem nmX5 : ∀ a, a < 3 → ∀ b, b < 3 → a ≠ b → (TX5 a).2.1 ≠ (TX5 b).2.1 := by decide +kernel
theorem tyX5_ok : ∀ k, k < 3 → parseFieldDescriptor (TX5 k).2.2.1 = some (tyX5 k) := by decide +kernel
abbrev cX5_init : ByteArray := prog_7_method_1_code
def yX5_init : MethodName := ⟨RX5, "<init>", "()V"⟩
abbrev cX5_gather : ByteArray := prog_7_method_2_code
def yX5_gather : MethodName := ⟨RX5, "gather", "(LAnchoredComments$Page;)I"⟩
abbrev cX5_takeIn : ByteArray := prog_7_method_3_code
def yX5_takeIn : MethodName := ⟨RX5, "takeIn", "(LAnchoredComments$Note;)V"⟩
abbrev cX5_plan : ByteArray := prog_7_method_4_code
def yX5_plan : MethodName := ⟨RX5, "plan", "(LAnchoredComments$Text;ILAnchoredComments$Finder;)V"⟩
abbrev cX5_carryOut : ByteArray := prog_7_method_5_code
def yX5_carryOut : MethodName := ⟨RX5, "carryOut", "()I"⟩
def RX6 : String := "AnchoredComments$Slot"
def TX6 : u_T := fun k => match k with
  | 0 => ("AnchoredComments$Slot", "page", "LAnchoredComments$Page;", true)
  | 1 => ("AnchoredComments$Slot", "threshold", "I", false)
  | _ => ("AnchoredComments$Slot", "used", "Z", false)
def tyX6 : Nat → FieldType := fun k => match k with
  | 0 => .object "AnchoredComments$Page"
  | 1 => .int
  | _ => .boolean
abbrev wsX60 : List Cond := u_ws RX6 TX6 3
theorem nmX6 : ∀ a, a < 3 → ∀ b, b < 3 → a ≠ b → (TX6 a).2.1 ≠ (TX6 b).2.1 := by decide +kernel
theorem tyX6_ok : ∀ k, k < 3 → parseFieldDescriptor (TX6 k).2.2.1 = some (tyX6 k) := by decide +kernel
abbrev cX6_init : ByteArray := prog_8_method_1_code
def yX6_init : MethodName := ⟨RX6, "<init>", "()V"⟩
def RX7 : String := "AnchoredComments$Text"
def TX7 : u_T := fun k => match k with
  | 0 => ("AnchoredComments$Text", "letters", "[I", true)
  | _ => ("AnchoredComments$Text", "size", "I", false)
def tyX7 : Nat → FieldType := fun k => match k with
  | 0 => .array .int
  | _ => .int
abbrev wsX70 : List Cond := u_ws RX7 TX7 2
theorem nmX7 : ∀ a, a < 2 → ∀ b, b < 2 → a ≠ b → (TX7 a).2.1 ≠ (TX7 b).2.1 := by decide +kernel
theorem tyX7_ok : ∀ k, k < 2 → parseFieldDescriptor (TX7 k).2.2.1 = some (tyX7 k) := by decide +kernel
abbrev cX7_init : ByteArray := prog_9_method_1_code
def yX7_init : MethodName := ⟨RX7, "<init>", "(I)V"⟩
abbrev cX7_at : ByteArray := prog_9_method_2_code
def yX7_at : MethodName := ⟨RX7, "at", "(I)I"⟩
abbrev cX7_empty : ByteArray := prog_9_method_3_code
def yX7_empty : MethodName := ⟨RX7, "empty", "()V"⟩
abbrev cX7_append : ByteArray := prog_9_method_4_code
def yX7_append : MethodName := ⟨RX7, "append", "(I)V"⟩
abbrev cX7_become : ByteArray := prog_9_method_5_code
def yX7_become : MethodName := ⟨RX7, "become", "(LAnchoredComments$Text;)V"⟩
abbrev cX7_copyPart : ByteArray := prog_9_method_6_code
def yX7_copyPart : MethodName := ⟨RX7, "copyPart", "(LAnchoredComments$Text;II)V"⟩
abbrev cX7_putLetters : ByteArray := prog_9_method_7_code
def yX7_putLetters : MethodName := ⟨RX7, "putLetters", "(ILAnchoredComments$Text;)V"⟩
abbrev cX7_cutLetters : ByteArray := prog_9_method_8_code
def yX7_cutLetters : MethodName := ⟨RX7, "cutLetters", "(II)V"⟩
def RX8 : String := "AnchoredComments"
def TX8 : u_T := fun k => match k with
  | 0 => ("AnchoredComments", "buffer", "LAnchoredComments$Text;", true)
  | 1 => ("AnchoredComments", "page", "LAnchoredComments$Page;", true)
  | 2 => ("AnchoredComments", "history", "LAnchoredComments$History;", true)
  | 3 => ("AnchoredComments", "slot0", "LAnchoredComments$Slot;", true)
  | 4 => ("AnchoredComments", "slot1", "LAnchoredComments$Slot;", true)
  | 5 => ("AnchoredComments", "finder", "LAnchoredComments$Finder;", true)
  | 6 => ("AnchoredComments", "planner", "LAnchoredComments$Planner;", true)
  | _ => ("AnchoredComments", "threshold", "I", false)
def tyX8 : Nat → FieldType := fun k => match k with
  | 0 => .object "AnchoredComments$Text"
  | 1 => .object "AnchoredComments$Page"
  | 2 => .object "AnchoredComments$History"
  | 3 => .object "AnchoredComments$Slot"
  | 4 => .object "AnchoredComments$Slot"
  | 5 => .object "AnchoredComments$Finder"
  | 6 => .object "AnchoredComments$Planner"
  | _ => .int
abbrev wsX80 : List Cond := u_ws RX8 TX8 8
theorem nmX8 : ∀ a, a < 8 → ∀ b, b < 8 → a ≠ b → (TX8 a).2.1 ≠ (TX8 b).2.1 := by decide +kernel
theorem tyX8_ok : ∀ k, k < 8 → parseFieldDescriptor (TX8 k).2.2.1 = some (tyX8 k) := by decide +kernel
abbrev cX8_init : ByteArray := prog_1_method_1_code
def yX8_init : MethodName := ⟨RX8, "<init>", "()V"⟩
abbrev cX8_type : ByteArray := prog_1_method_2_code
def yX8_type : MethodName := ⟨RX8, "type", "(I)I"⟩
abbrev cX8_clearBuffer : ByteArray := prog_1_method_3_code
def yX8_clearBuffer : MethodName := ⟨RX8, "clearBuffer", "()I"⟩
abbrev cX8_load : ByteArray := prog_1_method_4_code
def yX8_load : MethodName := ⟨RX8, "load", "()I"⟩
abbrev cX8_insert : ByteArray := prog_1_method_5_code
def yX8_insert : MethodName := ⟨RX8, "insert", "(I)I"⟩
abbrev cX8_delete : ByteArray := prog_1_method_6_code
def yX8_delete : MethodName := ⟨RX8, "delete", "(II)I"⟩
abbrev cX8_comment : ByteArray := prog_1_method_7_code
def yX8_comment : MethodName := ⟨RX8, "comment", "(II)I"⟩
abbrev cX8_remove : ByteArray := prog_1_method_8_code
def yX8_remove : MethodName := ⟨RX8, "remove", "(I)I"⟩
abbrev cX8_quoteAnew : ByteArray := prog_1_method_9_code
def yX8_quoteAnew : MethodName := ⟨RX8, "quoteAnew", "(I)I"⟩
abbrev cX8_attach : ByteArray := prog_1_method_10_code
def yX8_attach : MethodName := ⟨RX8, "attach", "(I)I"⟩
abbrev cX8_attachAll : ByteArray := prog_1_method_11_code
def yX8_attachAll : MethodName := ⟨RX8, "attachAll", "()I"⟩
abbrev cX8_merge : ByteArray := prog_1_method_12_code
def yX8_merge : MethodName := ⟨RX8, "merge", "()I"⟩
abbrev cX8_undo : ByteArray := prog_1_method_13_code
def yX8_undo : MethodName := ⟨RX8, "undo", "()I"⟩
abbrev cX8_length : ByteArray := prog_1_method_14_code
def yX8_length : MethodName := ⟨RX8, "length", "()I"⟩
abbrev cX8_letter : ByteArray := prog_1_method_15_code
def yX8_letter : MethodName := ⟨RX8, "letter", "(I)I"⟩
abbrev cX8_comments : ByteArray := prog_1_method_16_code
def yX8_comments : MethodName := ⟨RX8, "comments", "()I"⟩
abbrev cX8_commentAt : ByteArray := prog_1_method_17_code
def yX8_commentAt : MethodName := ⟨RX8, "commentAt", "(I)I"⟩
abbrev cX8_state : ByteArray := prog_1_method_18_code
def yX8_state : MethodName := ⟨RX8, "state", "(I)I"⟩
abbrev cX8_range : ByteArray := prog_1_method_19_code
def yX8_range : MethodName := ⟨RX8, "range", "(IZ)I"⟩
abbrev cX8_weight : ByteArray := prog_1_method_20_code
def yX8_weight : MethodName := ⟨RX8, "weight", "(I)I"⟩
abbrev cX8_quoted : ByteArray := prog_1_method_21_code
def yX8_quoted : MethodName := ⟨RX8, "quoted", "(III)I"⟩
abbrev cX8_distance : ByteArray := prog_1_method_22_code
def yX8_distance : MethodName := ⟨RX8, "distance", "(I)I"⟩
abbrev cX8_score : ByteArray := prog_1_method_23_code
def yX8_score : MethodName := ⟨RX8, "score", "(III)I"⟩
abbrev cX8_best : ByteArray := prog_1_method_24_code
def yX8_best : MethodName := ⟨RX8, "best", "(II)I"⟩
abbrev cX8_overlap : ByteArray := prog_1_method_25_code
def yX8_overlap : MethodName := ⟨RX8, "overlap", "(II)I"⟩
abbrev cX8_covering : ByteArray := prog_1_method_26_code
def yX8_covering : MethodName := ⟨RX8, "covering", "(II)I"⟩
abbrev cX8_setThreshold : ByteArray := prog_1_method_27_code
def yX8_setThreshold : MethodName := ⟨RX8, "setThreshold", "(I)I"⟩
abbrev cX8_save : ByteArray := prog_1_method_28_code
def yX8_save : MethodName := ⟨RX8, "save", "(I)I"⟩
abbrev cX8_restore : ByteArray := prog_1_method_29_code
def yX8_restore : MethodName := ⟨RX8, "restore", "(I)I"⟩
abbrev cX8_checksum : ByteArray := prog_1_method_30_code
def yX8_checksum : MethodName := ⟨RX8, "checksum", "()J"⟩
abbrev cX8_mixNote : ByteArray := prog_1_method_31_code
def yX8_mixNote : MethodName := ⟨RX8, "mixNote", "(JLAnchoredComments$Note;)J"⟩
abbrev cX8_mixText : ByteArray := prog_1_method_32_code
def yX8_mixText : MethodName := ⟨RX8, "mixText", "(JLAnchoredComments$Text;)J"⟩
abbrev cX8_mix : ByteArray := prog_1_method_33_code
def yX8_mix : MethodName := ⟨RX8, "mix", "(JI)J"⟩
abbrev cX8_isPosition : ByteArray := prog_1_method_34_code
def yX8_isPosition : MethodName := ⟨RX8, "isPosition", "(I)Z"⟩
abbrev cX8_isLetterIndex : ByteArray := prog_1_method_35_code
def yX8_isLetterIndex : MethodName := ⟨RX8, "isLetterIndex", "(I)Z"⟩
abbrev cX8_isRange : ByteArray := prog_1_method_36_code
def yX8_isRange : MethodName := ⟨RX8, "isRange", "(III)Z"⟩
def RX9 : String := "AnchoredCommentsModel"
def TX9 : u_T := fun k => match k with
  | _ => ("", "", "", false)
def tyX9 : Nat → FieldType := fun k => match k with
  | _ => .int
abbrev wsX90 : List Cond := u_ws RX9 TX9 0
theorem nmX9 : ∀ a, a < 0 → ∀ b, b < 0 → a ≠ b → (TX9 a).2.1 ≠ (TX9 b).2.1 := by decide +kernel
theorem tyX9_ok : ∀ k, k < 0 → parseFieldDescriptor (TX9 k).2.2.1 = some (tyX9 k) := by decide +kernel
def RJ9 : String := "java/lang/Math"
def TJ9 : u_T := fun k => match k with
  | _ => ("", "", "", false)
def tyJ9 : Nat → FieldType := fun k => match k with
  | _ => .int
theorem nmJ9 : ∀ a, a < 0 → ∀ b, b < 0 → a ≠ b → (TJ9 a).2.1 ≠ (TJ9 b).2.1 := by decide +kernel
theorem tyJ9_ok : ∀ k, k < 0 → parseFieldDescriptor (TJ9 k).2.2.1 = some (tyJ9 k) := by decide +kernel
abbrev cJ9_abs_0f7a4 : ByteArray := prog_12_method_59_code
def yJ9_abs_0f7a4 : MethodName := ⟨RJ9, "abs", "(I)I"⟩
abbrev cJ9_max_7cf53 : ByteArray := prog_12_method_65_code
def yJ9_max_7cf53 : MethodName := ⟨RJ9, "max", "(II)I"⟩
abbrev cJ9_min_7cf53 : ByteArray := prog_12_method_69_code
def yJ9_min_7cf53 : MethodName := ⟨RJ9, "min", "(II)I"⟩
def RL : String := "AnchoredCommentsLaw"
abbrev cL_cell : ByteArray := method_2_code
def yL_cell : MethodName := ⟨RL, "cell", "([II)I"⟩
abbrev cL_sign : ByteArray := method_3_code
def yL_sign : MethodName := ⟨RL, "sign", "(I)I"⟩
abbrev cL_buffers : ByteArray := method_4_code
def yL_buffers : MethodName := ⟨RL, "buffers", "(LAnchoredComments;II)V"⟩
abbrev cL_sound : ByteArray := method_5_code
def yL_sound : MethodName := ⟨RL, "sound", "(LAnchoredComments;I)Z"⟩
abbrev cL_turns : ByteArray := method_6_code
def yL_turns : MethodName := ⟨RL, "turns", "(LAnchoredComments;II)Z"⟩
abbrev cL_again : ByteArray := method_7_code
def yL_again : MethodName := ⟨RL, "again", "(LAnchoredComments;II)I"⟩
abbrev cL_law : ByteArray := code
def yL_law : MethodName := ⟨RL, "law", "([I)Z"⟩
abbrev vwCl : List vw_C := [(RX0, TX0, 4), (RX1, TX1, 5), (RX2, TX2, 2), (RX3, TX3, 8), (RX4, TX4, 4), (RX5, TX5, 3), (RX6, TX6, 3), (RX7, TX7, 2), (RX8, TX8, 8)]
