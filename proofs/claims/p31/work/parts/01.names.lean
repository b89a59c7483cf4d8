-- ===== PART A: goes FIRST, ahead of the names: the tables' words, and 'selects' of methods out of them =====
/-- a method that the tables say can be made, by its rows of tables_1 -/
def lw_okq (q : MethodName × Nat) : Prop := (q.1.cls ≠ "java/lang/invoke/MethodHandle" ∧ q.1.cls ≠ "java/lang/invoke/VarHandle") ∧ Cond.instantiable q.1.cls q.2 ∈ tables_1 ∧ Cond.privateMethod q.1 ∈ tables_1 ∧ Cond.instanceMethod q.1 ∈ tables_1
theorem lw_p0 : lw_okq (⟨"ChatThreads", "currentThreads", "()LChatThreads$Threads;"⟩, 7) := ⟨⟨by decide +kernel, by decide +kernel⟩, List.mem_of_getElem? (i := 10) (by decide +kernel), List.mem_of_getElem? (i := 265) (by decide +kernel), List.mem_of_getElem? (i := 266) (by decide +kernel)⟩
theorem lw_p1 : lw_okq (⟨"ChatThreads$Threads", "putInOrder", "()V"⟩, 17) := ⟨⟨by decide +kernel, by decide +kernel⟩, List.mem_of_getElem? (i := 18) (by decide +kernel), List.mem_of_getElem? (i := 273) (by decide +kernel), List.mem_of_getElem? (i := 274) (by decide +kernel)⟩
theorem lw_p2 : lw_okq (⟨"ChatThreads$Threads", "rate", "(II)V"⟩, 17) := ⟨⟨by decide +kernel, by decide +kernel⟩, List.mem_of_getElem? (i := 18) (by decide +kernel), List.mem_of_getElem? (i := 284) (by decide +kernel), List.mem_of_getElem? (i := 285) (by decide +kernel)⟩
theorem lw_p3 : lw_okq (⟨"ChatThreads$Threads", "speaksTo", "(II)Z"⟩, 17) := ⟨⟨by decide +kernel, by decide +kernel⟩, List.mem_of_getElem? (i := 18) (by decide +kernel), List.mem_of_getElem? (i := 288) (by decide +kernel), List.mem_of_getElem? (i := 289) (by decide +kernel)⟩
theorem lw_p4 : lw_okq (⟨"ChatThreads$Threads", "choicesFor", "(I)I"⟩, 17) := ⟨⟨by decide +kernel, by decide +kernel⟩, List.mem_of_getElem? (i := 18) (by decide +kernel), List.mem_of_getElem? (i := 307) (by decide +kernel), List.mem_of_getElem? (i := 308) (by decide +kernel)⟩
theorem lw_p5 : lw_okq (⟨"ChatThreads$Threads", "isInWindow", "(II)Z"⟩, 17) := ⟨⟨by decide +kernel, by decide +kernel⟩, List.mem_of_getElem? (i := 18) (by decide +kernel), List.mem_of_getElem? (i := 311) (by decide +kernel), List.mem_of_getElem? (i := 312) (by decide +kernel)⟩
theorem lw_p6 : lw_okq (⟨"ChatThreads$Threads", "bestOf", "(II)I"⟩, 17) := ⟨⟨by decide +kernel, by decide +kernel⟩, List.mem_of_getElem? (i := 18) (by decide +kernel), List.mem_of_getElem? (i := 315) (by decide +kernel), List.mem_of_getElem? (i := 316) (by decide +kernel)⟩
theorem lw_p7 : lw_okq (⟨"ChatThreads$Threads", "rivalsFor", "(I)I"⟩, 17) := ⟨⟨by decide +kernel, by decide +kernel⟩, List.mem_of_getElem? (i := 18) (by decide +kernel), List.mem_of_getElem? (i := 323) (by decide +kernel), List.mem_of_getElem? (i := 324) (by decide +kernel)⟩
theorem lw_p8 : lw_okq (⟨"ChatThreads$Threads", "addToThread", "(I)V"⟩, 17) := ⟨⟨by decide +kernel, by decide +kernel⟩, List.mem_of_getElem? (i := 18) (by decide +kernel), List.mem_of_getElem? (i := 331) (by decide +kernel), List.mem_of_getElem? (i := 332) (by decide +kernel)⟩
theorem lw_p9 : lw_okq (⟨"ChatThreads$Threads", "answerOf", "(I)I"⟩, 17) := ⟨⟨by decide +kernel, by decide +kernel⟩, List.mem_of_getElem? (i := 18) (by decide +kernel), List.mem_of_getElem? (i := 335) (by decide +kernel), List.mem_of_getElem? (i := 336) (by decide +kernel)⟩
theorem lw_p10 : lw_okq (⟨"ChatThreads$Threads", "isPassed", "(II)Z"⟩, 17) := ⟨⟨by decide +kernel, by decide +kernel⟩, List.mem_of_getElem? (i := 18) (by decide +kernel), List.mem_of_getElem? (i := 339) (by decide +kernel), List.mem_of_getElem? (i := 340) (by decide +kernel)⟩
theorem lw_p11 : lw_okq (⟨"ChatThreads$Threads", "joinRivals", "(I)V"⟩, 17) := ⟨⟨by decide +kernel, by decide +kernel⟩, List.mem_of_getElem? (i := 18) (by decide +kernel), List.mem_of_getElem? (i := 343) (by decide +kernel), List.mem_of_getElem? (i := 344) (by decide +kernel)⟩
theorem lw_p12 : lw_okq (⟨"ChatThreads$Threads", "join", "(III)V"⟩, 17) := ⟨⟨by decide +kernel, by decide +kernel⟩, List.mem_of_getElem? (i := 18) (by decide +kernel), List.mem_of_getElem? (i := 347) (by decide +kernel), List.mem_of_getElem? (i := 348) (by decide +kernel)⟩
theorem lw_p13 : lw_okq (⟨"ChatThreads$Threads", "numberThreadAt", "(I)V"⟩, 17) := ⟨⟨by decide +kernel, by decide +kernel⟩, List.mem_of_getElem? (i := 18) (by decide +kernel), List.mem_of_getElem? (i := 357) (by decide +kernel), List.mem_of_getElem? (i := 358) (by decide +kernel)⟩
theorem lw_p14 : lw_okq (⟨"ChatThreads", "beginChange", "()V"⟩, 7) := ⟨⟨by decide +kernel, by decide +kernel⟩, List.mem_of_getElem? (i := 10) (by decide +kernel), List.mem_of_getElem? (i := 408) (by decide +kernel), List.mem_of_getElem? (i := 409) (by decide +kernel)⟩
theorem lw_p15 : lw_okq (⟨"ChatThreads$History", "dropOldest", "()V"⟩, 2) := ⟨⟨by decide +kernel, by decide +kernel⟩, List.mem_of_getElem? (i := 159) (by decide +kernel), List.mem_of_getElem? (i := 416) (by decide +kernel), List.mem_of_getElem? (i := 417) (by decide +kernel)⟩
def lw_privs_1 : List (MethodName × Nat) := [(⟨"ChatThreads", "currentThreads", "()LChatThreads$Threads;"⟩, 7), (⟨"ChatThreads$Threads", "putInOrder", "()V"⟩, 17), (⟨"ChatThreads$Threads", "rate", "(II)V"⟩, 17), (⟨"ChatThreads$Threads", "speaksTo", "(II)Z"⟩, 17), (⟨"ChatThreads$Threads", "choicesFor", "(I)I"⟩, 17), (⟨"ChatThreads$Threads", "isInWindow", "(II)Z"⟩, 17), (⟨"ChatThreads$Threads", "bestOf", "(II)I"⟩, 17), (⟨"ChatThreads$Threads", "rivalsFor", "(I)I"⟩, 17), (⟨"ChatThreads$Threads", "addToThread", "(I)V"⟩, 17), (⟨"ChatThreads$Threads", "answerOf", "(I)I"⟩, 17), (⟨"ChatThreads$Threads", "isPassed", "(II)Z"⟩, 17), (⟨"ChatThreads$Threads", "joinRivals", "(I)V"⟩, 17), (⟨"ChatThreads$Threads", "join", "(III)V"⟩, 17), (⟨"ChatThreads$Threads", "numberThreadAt", "(I)V"⟩, 17), (⟨"ChatThreads", "beginChange", "()V"⟩, 7), (⟨"ChatThreads$History", "dropOldest", "()V"⟩, 2)]
theorem lw_r1 : ∀ q ∈ lw_privs_1, lw_okq q := List.forall_mem_cons.mpr ⟨lw_p0, List.forall_mem_cons.mpr ⟨lw_p1, List.forall_mem_cons.mpr ⟨lw_p2, List.forall_mem_cons.mpr ⟨lw_p3, List.forall_mem_cons.mpr ⟨lw_p4, List.forall_mem_cons.mpr ⟨lw_p5, List.forall_mem_cons.mpr ⟨lw_p6, List.forall_mem_cons.mpr ⟨lw_p7, List.forall_mem_cons.mpr ⟨lw_p8, List.forall_mem_cons.mpr ⟨lw_p9, List.forall_mem_cons.mpr ⟨lw_p10, List.forall_mem_cons.mpr ⟨lw_p11, List.forall_mem_cons.mpr ⟨lw_p12, List.forall_mem_cons.mpr ⟨lw_p13, List.forall_mem_cons.mpr ⟨lw_p14, List.forall_mem_cons.mpr ⟨lw_p15, fun _ h => absurd h List.not_mem_nil⟩⟩⟩⟩⟩⟩⟩⟩⟩⟩⟩⟩⟩⟩⟩⟩
def lw_privs : List (MethodName × Nat) := lw_privs_1
def lw_tbl : List Cond := k2_sels lw_privs ++ tables_1
theorem lw_privs_ok : ∀ q ∈ lw_privs, lw_okq q := lw_r1
/-! ===== BEGIN words of one list among another's, by their places ===== -/
theorem goodIn_r {big : List Cond} (ws : List Cond) (ps : List Nat) (hp : ws = ps.filterMap (fun i => big[i]?)) (h : ws.all goodWord = true) : GoodIn big ws := by
  intro w hw
  have h1 := List.all_eq_true.mp h w hw
  rw [hp] at hw
  obtain ⟨i, -, hi⟩ := List.mem_filterMap.mp hw
  have hm : w ∈ big := by first | exact List.mem_of_getElem? hi | exact List.getElem?_mem hi
  exact ⟨hm, good_of_word h1⟩
theorem goodIn_app {big a b : List Cond} (ha : GoodIn big a) (hb : GoodIn big b) : GoodIn big (a ++ b) := fun w h => (List.mem_append.mp h).elim (ha w) (hb w)
theorem goodIn_ca {big a b : List Cond} {c : Cond} (ha : GoodIn big (c :: a)) (hb : GoodIn big b) : GoodIn big (c :: (a ++ b)) := fun w h => (List.mem_cons.mp h).elim (fun e => ha w (List.mem_cons.mpr (Or.inl e))) (fun h => (List.mem_append.mp h).elim (fun h => ha w (List.mem_cons.mpr (Or.inr h))) (hb w))
theorem goodIn_sub {big ws : List Cond} (hm : ∀ w ∈ ws, w ∈ big) (h : ws.all goodWord = true) : GoodIn big ws := fun w hw => ⟨hm w hw, good_of_word (List.all_eq_true.mp h w hw)⟩
/-! ===== END ===== -/

/-! ===== BEGIN printed: names, fields, word lists, decode rows ===== -/
def RX0 : String := "ChatThreads$History"
def TX0 : u_T := fun k => match k with
  | 0 => ("ChatThreads$History", "stateCount", "I", false)
  | _ => ("ChatThreads$History", "states", "[LChatThreads$Log;", true)
def tyX0 : Nat → FieldType := fun k => match k with
  | 0 => .int
  | _ => .array (.object "ChatThreads$Log")
abbrev wsX00 : List Cond := u_ws RX0 TX0 2
theorem nmX0 : ∀ a, a < 2 → ∀ b, b < 2 → a ≠ b → (TX0 a).2.1 ≠ (TX0 b).2.1 := by decide +kernel
theorem tyX0_ok : ∀ k, k < 2 → parseFieldDescriptor (TX0 k).2.2.1 = some (tyX0 k) := by decide +kernel
abbrev cX0_init : ByteArray := prog_2_method_1_code
def yX0_init : MethodName := ⟨RX0, "<init>", "()V"⟩
abbrev cX0_keep : ByteArray := prog_2_method_2_code
def yX0_keep : MethodName := ⟨RX0, "keep", "(LChatThreads$Log;)V"⟩
abbrev cX0_dropOldest : ByteArray := prog_2_method_4_code
def yX0_dropOldest : MethodName := ⟨RX0, "dropOldest", "()V"⟩
def RX1 : String := "ChatThreads$Log"
def TX1 : u_T := fun k => match k with
  | 0 => ("ChatThreads$Log", "takeCount", "I", false)
  | 1 => ("ChatThreads$Log", "takers", "[I", true)
  | 2 => ("ChatThreads$Log", "takenNames", "[I", true)
  | 3 => ("ChatThreads$Log", "takeTimes", "[I", true)
  | 4 => ("ChatThreads$Log", "lineCount", "I", false)
  | 5 => ("ChatThreads$Log", "times", "[I", true)
  | 6 => ("ChatThreads$Log", "writers", "[I", true)
  | 7 => ("ChatThreads$Log", "names", "[I", true)
  | 8 => ("ChatThreads$Log", "words", "[I", true)
  | 9 => ("ChatThreads$Log", "fixCount", "I", false)
  | 10 => ("ChatThreads$Log", "fixKinds", "[I", true)
  | 11 => ("ChatThreads$Log", "fixLines", "[I", true)
  | 12 => ("ChatThreads$Log", "fixEarlier", "[I", true)
  | _ => ("ChatThreads$Log", "settings", "[I", true)
def tyX1 : Nat → FieldType := fun k => match k with
  | 0 => .int
  | 1 => .array .int
  | 2 => .array .int
  | 3 => .array .int
  | 4 => .int
  | 5 => .array .int
  | 6 => .array .int
  | 7 => .array .int
  | 8 => .array .int
  | 9 => .int
  | 10 => .array .int
  | 11 => .array .int
  | 12 => .array .int
  | _ => .array .int
abbrev wsX10 : List Cond := u_ws RX1 TX1 14
theorem nmX1 : ∀ a, a < 14 → ∀ b, b < 14 → a ≠ b → (TX1 a).2.1 ≠ (TX1 b).2.1 := by decide +kernel
theorem tyX1_ok : ∀ k, k < 14 → parseFieldDescriptor (TX1 k).2.2.1 = some (tyX1 k) := by decide +kernel
abbrev cX1_init : ByteArray := prog_3_method_1_code
def yX1_init : MethodName := ⟨RX1, "<init>", "()V"⟩
abbrev cX1_copyFrom : ByteArray := prog_3_method_2_code
def yX1_copyFrom : MethodName := ⟨RX1, "copyFrom", "(LChatThreads$Log;)V"⟩
abbrev cX1_addTake : ByteArray := prog_3_method_3_code
def yX1_addTake : MethodName := ⟨RX1, "addTake", "(III)V"⟩
abbrev cX1_lastTakeTime : ByteArray := prog_3_method_4_code
def yX1_lastTakeTime : MethodName := ⟨RX1, "lastTakeTime", "()I"⟩
abbrev cX1_nameAt : ByteArray := prog_3_method_5_code
def yX1_nameAt : MethodName := ⟨RX1, "nameAt", "(II)I"⟩
abbrev cX1_holderAt : ByteArray := prog_3_method_6_code
def yX1_holderAt : MethodName := ⟨RX1, "holderAt", "(II)I"⟩
abbrev cX1_personsNamedIn : ByteArray := prog_3_method_7_code
def yX1_personsNamedIn : MethodName := ⟨RX1, "personsNamedIn", "(I)I"⟩
abbrev cX1_isLine : ByteArray := prog_3_method_8_code
def yX1_isLine : MethodName := ⟨RX1, "isLine", "(I)Z"⟩
abbrev cX1_isEarlier : ByteArray := prog_3_method_9_code
def yX1_isEarlier : MethodName := ⟨RX1, "isEarlier", "(II)Z"⟩
abbrev cX1_addLine : ByteArray := prog_3_method_10_code
def yX1_addLine : MethodName := ⟨RX1, "addLine", "(IIII)V"⟩
abbrev cX1_removeLine : ByteArray := prog_3_method_11_code
def yX1_removeLine : MethodName := ⟨RX1, "removeLine", "(I)V"⟩
abbrev cX1_numberWithout : ByteArray := prog_3_method_12_code
def yX1_numberWithout : MethodName := ⟨RX1, "numberWithout", "(II)I"⟩
abbrev cX1_isFix : ByteArray := prog_3_method_13_code
def yX1_isFix : MethodName := ⟨RX1, "isFix", "(I)Z"⟩
abbrev cX1_canBeFixed : ByteArray := prog_3_method_14_code
def yX1_canBeFixed : MethodName := ⟨RX1, "canBeFixed", "(III)Z"⟩
abbrev cX1_fixLike : ByteArray := prog_3_method_15_code
def yX1_fixLike : MethodName := ⟨RX1, "fixLike", "(III)I"⟩
abbrev cX1_addFix : ByteArray := prog_3_method_16_code
def yX1_addFix : MethodName := ⟨RX1, "addFix", "(III)V"⟩
abbrev cX1_removeFix : ByteArray := prog_3_method_17_code
def yX1_removeFix : MethodName := ⟨RX1, "removeFix", "(I)V"⟩
abbrev cX1_countingFix : ByteArray := prog_3_method_18_code
def yX1_countingFix : MethodName := ⟨RX1, "countingFix", "(I)I"⟩
abbrev cX1_fixedLines : ByteArray := prog_3_method_19_code
def yX1_fixedLines : MethodName := ⟨RX1, "fixedLines", "()I"⟩
def RX2 : String := "ChatThreads$Text"
def TX2 : u_T := fun k => match k with
  | 0 => ("ChatThreads$Text", "length", "I", false)
  | 1 => ("ChatThreads$Text", "signs", "[C", true)
  | 2 => ("ChatThreads$Text", "entryCount", "I", false)
  | 3 => ("ChatThreads$Text", "faultPosition", "I", false)
  | 4 => ("ChatThreads$Text", "faultReason", "I", false)
  | 5 => ("ChatThreads$Text", "letter", "C", false)
  | 6 => ("ChatThreads$Text", "position", "I", false)
  | _ => ("ChatThreads$Text", "numbers", "[I", true)
def tyX2 : Nat → FieldType := fun k => match k with
  | 0 => .int
  | 1 => .array .char
  | 2 => .int
  | 3 => .int
  | 4 => .int
  | 5 => .char
  | 6 => .int
  | _ => .array .int
abbrev wsX20 : List Cond := u_ws RX2 TX2 8
theorem nmX2 : ∀ a, a < 8 → ∀ b, b < 8 → a ≠ b → (TX2 a).2.1 ≠ (TX2 b).2.1 := by decide +kernel
theorem tyX2_ok : ∀ k, k < 8 → parseFieldDescriptor (TX2 k).2.2.1 = some (tyX2 k) := by decide +kernel
abbrev cX2_init : ByteArray := prog_4_method_1_code
def yX2_init : MethodName := ⟨RX2, "<init>", "()V"⟩
def RX3 : String := "ChatThreads$Threads"
def TX3 : u_T := fun k => match k with
  | 0 => ("ChatThreads$Threads", "log", "LChatThreads$Log;", true)
  | 1 => ("ChatThreads$Threads", "order", "[I", true)
  | 2 => ("ChatThreads$Threads", "places", "[I", true)
  | 3 => ("ChatThreads$Threads", "spokenTo", "[I", true)
  | 4 => ("ChatThreads$Threads", "scores", "[I", true)
  | 5 => ("ChatThreads$Threads", "fixes", "[I", true)
  | 6 => ("ChatThreads$Threads", "choices", "[I", true)
  | 7 => ("ChatThreads$Threads", "bests", "[I", true)
  | 8 => ("ChatThreads$Threads", "rivals", "[I", true)
  | 9 => ("ChatThreads$Threads", "answered", "[I", true)
  | 10 => ("ChatThreads$Threads", "joins", "[I", true)
  | 11 => ("ChatThreads$Threads", "rows", "[I", true)
  | 12 => ("ChatThreads$Threads", "firstPlaces", "[I", true)
  | 13 => ("ChatThreads$Threads", "numbers", "[I", true)
  | 14 => ("ChatThreads$Threads", "threadCount", "I", false)
  | 15 => ("ChatThreads$Threads", "lengths", "[I", true)
  | _ => ("ChatThreads$Threads", "lastLines", "[I", true)
def tyX3 : Nat → FieldType := fun k => match k with
  | 0 => .object "ChatThreads$Log"
  | 1 => .array .int
  | 2 => .array .int
  | 3 => .array .int
  | 4 => .array .int
  | 5 => .array .int
  | 6 => .array .int
  | 7 => .array .int
  | 8 => .array .int
  | 9 => .array .int
  | 10 => .array .int
  | 11 => .array .int
  | 12 => .array .int
  | 13 => .array .int
  | 14 => .int
  | 15 => .array .int
  | _ => .array .int
abbrev wsX30 : List Cond := u_ws RX3 TX3 17
theorem nmX3 : ∀ a, a < 17 → ∀ b, b < 17 → a ≠ b → (TX3 a).2.1 ≠ (TX3 b).2.1 := by decide +kernel
theorem tyX3_ok : ∀ k, k < 17 → parseFieldDescriptor (TX3 k).2.2.1 = some (tyX3 k) := by decide +kernel
abbrev cX3_init : ByteArray := prog_5_method_1_code
def yX3_init : MethodName := ⟨RX3, "<init>", "()V"⟩
abbrev cX3_rateAll : ByteArray := prog_5_method_2_code
def yX3_rateAll : MethodName := ⟨RX3, "rateAll", "()V"⟩
abbrev cX3_putInOrder : ByteArray := prog_5_method_3_code
def yX3_putInOrder : MethodName := ⟨RX3, "putInOrder", "()V"⟩
abbrev cX3_rate : ByteArray := prog_5_method_4_code
def yX3_rate : MethodName := ⟨RX3, "rate", "(II)V"⟩
abbrev cX3_speaksTo : ByteArray := prog_5_method_5_code
def yX3_speaksTo : MethodName := ⟨RX3, "speaksTo", "(II)Z"⟩
abbrev cX3_scoreFor : ByteArray := prog_5_method_6_code
def yX3_scoreFor : MethodName := ⟨RX3, "scoreFor", "(II)I"⟩
abbrev cX3_gapOf : ByteArray := prog_5_method_7_code
def yX3_gapOf : MethodName := ⟨RX3, "gapOf", "(II)I"⟩
abbrev cX3_choicesFor : ByteArray := prog_5_method_8_code
def yX3_choicesFor : MethodName := ⟨RX3, "choicesFor", "(I)I"⟩
abbrev cX3_isInWindow : ByteArray := prog_5_method_9_code
def yX3_isInWindow : MethodName := ⟨RX3, "isInWindow", "(II)Z"⟩
abbrev cX3_bestOf : ByteArray := prog_5_method_10_code
def yX3_bestOf : MethodName := ⟨RX3, "bestOf", "(II)I"⟩
abbrev cX3_rivalsFor : ByteArray := prog_5_method_11_code
def yX3_rivalsFor : MethodName := ⟨RX3, "rivalsFor", "(I)I"⟩
abbrev cX3_follow : ByteArray := prog_5_method_13_code
def yX3_follow : MethodName := ⟨RX3, "follow", "()V"⟩
abbrev cX3_numberThreadAt : ByteArray := prog_5_method_14_code
def yX3_numberThreadAt : MethodName := ⟨RX3, "numberThreadAt", "(I)V"⟩
abbrev cX3_addToThread : ByteArray := prog_5_method_15_code
def yX3_addToThread : MethodName := ⟨RX3, "addToThread", "(I)V"⟩
abbrev cX3_answerOf : ByteArray := prog_5_method_16_code
def yX3_answerOf : MethodName := ⟨RX3, "answerOf", "(I)I"⟩
abbrev cX3_isPassed : ByteArray := prog_5_method_17_code
def yX3_isPassed : MethodName := ⟨RX3, "isPassed", "(II)Z"⟩
abbrev cX3_joinRivals : ByteArray := prog_5_method_18_code
def yX3_joinRivals : MethodName := ⟨RX3, "joinRivals", "(I)V"⟩
abbrev cX3_join : ByteArray := prog_5_method_19_code
def yX3_join : MethodName := ⟨RX3, "join", "(III)V"⟩
abbrev cX3_fixMatters : ByteArray := prog_5_method_21_code
def yX3_fixMatters : MethodName := ⟨RX3, "fixMatters", "(I)Z"⟩
abbrev cX3_answersTo : ByteArray := prog_5_method_22_code
def yX3_answersTo : MethodName := ⟨RX3, "answersTo", "(I)I"⟩
abbrev cX3_beginnings : ByteArray := prog_5_method_24_code
def yX3_beginnings : MethodName := ⟨RX3, "beginnings", "()I"⟩
abbrev cX3_allJoins : ByteArray := prog_5_method_25_code
def yX3_allJoins : MethodName := ⟨RX3, "allJoins", "()I"⟩
def RX4 : String := "ChatThreads"
def TX4 : u_T := fun k => match k with
  | 0 => ("ChatThreads", "threads", "LChatThreads$Threads;", true)
  | 1 => ("ChatThreads", "log", "LChatThreads$Log;", true)
  | 2 => ("ChatThreads", "threadsAreOld", "Z", false)
  | 3 => ("ChatThreads", "history", "LChatThreads$History;", true)
  | 4 => ("ChatThreads", "text", "LChatThreads$Text;", true)
  | 5 => ("ChatThreads", "otherThreads", "LChatThreads$Threads;", true)
  | _ => ("ChatThreads", "otherLog", "LChatThreads$Log;", true)
def tyX4 : Nat → FieldType := fun k => match k with
  | 0 => .object "ChatThreads$Threads"
  | 1 => .object "ChatThreads$Log"
  | 2 => .boolean
  | 3 => .object "ChatThreads$History"
  | 4 => .object "ChatThreads$Text"
  | 5 => .object "ChatThreads$Threads"
  | _ => .object "ChatThreads$Log"
abbrev wsX40 : List Cond := u_ws RX4 TX4 7
theorem nmX4 : ∀ a, a < 7 → ∀ b, b < 7 → a ≠ b → (TX4 a).2.1 ≠ (TX4 b).2.1 := by decide +kernel
theorem tyX4_ok : ∀ k, k < 7 → parseFieldDescriptor (TX4 k).2.2.1 = some (tyX4 k) := by decide +kernel
abbrev cX4_init : ByteArray := prog_1_method_1_code
def yX4_init : MethodName := ⟨RX4, "<init>", "()V"⟩
abbrev cX4_takes : ByteArray := prog_1_method_2_code
def yX4_takes : MethodName := ⟨RX4, "takes", "(III)I"⟩
abbrev cX4_nameOf : ByteArray := prog_1_method_3_code
def yX4_nameOf : MethodName := ⟨RX4, "nameOf", "(II)I"⟩
abbrev cX4_whoHas : ByteArray := prog_1_method_4_code
def yX4_whoHas : MethodName := ⟨RX4, "whoHas", "(II)I"⟩
abbrev cX4_line : ByteArray := prog_1_method_5_code
def yX4_line : MethodName := ⟨RX4, "line", "(IIII)I"⟩
abbrev cX4_drop : ByteArray := prog_1_method_6_code
def yX4_drop : MethodName := ⟨RX4, "drop", "(I)I"⟩
abbrev cX4_lineOf : ByteArray := prog_1_method_7_code
def yX4_lineOf : MethodName := ⟨RX4, "lineOf", "(II)I"⟩
abbrev cX4_inOrder : ByteArray := prog_1_method_8_code
def yX4_inOrder : MethodName := ⟨RX4, "inOrder", "(I)I"⟩
abbrev cX4_set : ByteArray := prog_1_method_11_code
def yX4_set : MethodName := ⟨RX4, "set", "(II)I"⟩
abbrev cX4_count : ByteArray := prog_1_method_12_code
def yX4_count : MethodName := ⟨RX4, "count", "(I)I"⟩
abbrev cX4_correct : ByteArray := prog_1_method_14_code
def yX4_correct : MethodName := ⟨RX4, "correct", "(III)I"⟩
abbrev cX4_withdraw : ByteArray := prog_1_method_15_code
def yX4_withdraw : MethodName := ⟨RX4, "withdraw", "(I)I"⟩
abbrev cX4_correction : ByteArray := prog_1_method_16_code
def yX4_correction : MethodName := ⟨RX4, "correction", "(II)I"⟩
abbrev cX4_isPerson : ByteArray := prog_1_method_30_code
def yX4_isPerson : MethodName := ⟨RX4, "isPerson", "(I)Z"⟩
abbrev cX4_isName : ByteArray := prog_1_method_31_code
def yX4_isName : MethodName := ⟨RX4, "isName", "(I)Z"⟩
abbrev cX4_isTime : ByteArray := prog_1_method_32_code
def yX4_isTime : MethodName := ⟨RX4, "isTime", "(I)Z"⟩
abbrev cX4_isSet : ByteArray := prog_1_method_33_code
def yX4_isSet : MethodName := ⟨RX4, "isSet", "(I)Z"⟩
abbrev cX4_isIn : ByteArray := prog_1_method_34_code
def yX4_isIn : MethodName := ⟨RX4, "isIn", "(II)Z"⟩
abbrev cX4_isSettingValue : ByteArray := prog_1_method_35_code
def yX4_isSettingValue : MethodName := ⟨RX4, "isSettingValue", "(II)Z"⟩
abbrev cX4_orNotFound : ByteArray := prog_1_method_36_code
def yX4_orNotFound : MethodName := ⟨RX4, "orNotFound", "(I)I"⟩
abbrev cX4_beginChange : ByteArray := prog_1_method_37_code
def yX4_beginChange : MethodName := ⟨RX4, "beginChange", "()V"⟩
abbrev cX4_currentThreads : ByteArray := prog_1_method_38_code
def yX4_currentThreads : MethodName := ⟨RX4, "currentThreads", "()LChatThreads$Threads;"⟩
def RX5 : String := "ChatThreadsModel"
def TX5 : u_T := fun k => match k with
  | _ => ("", "", "", false)
def tyX5 : Nat → FieldType := fun k => match k with
  | _ => .int
abbrev wsX50 : List Cond := u_ws RX5 TX5 0
theorem nmX5 : ∀ a, a < 0 → ∀ b, b < 0 → a ≠ b → (TX5 a).2.1 ≠ (TX5 b).2.1 := by decide +kernel
theorem tyX5_ok : ∀ k, k < 0 → parseFieldDescriptor (TX5 k).2.2.1 = some (tyX5 k) := by decide +kernel
def RJ6 : String := "java/lang/Integer"
def TJ6 : u_T := fun k => match k with
  | _ => ("", "", "", false)
def tyJ6 : Nat → FieldType := fun k => match k with
  | _ => .int
abbrev wsJ60 : List Cond := u_ws RJ6 TJ6 0
theorem nmJ6 : ∀ a, a < 0 → ∀ b, b < 0 → a ≠ b → (TJ6 a).2.1 ≠ (TJ6 b).2.1 := by decide +kernel
theorem tyJ6_ok : ∀ k, k < 0 → parseFieldDescriptor (TJ6 k).2.2.1 = some (tyJ6 k) := by decide +kernel
abbrev cJ6_bitCount_0f7a4 : ByteArray := prog_8_method_49_code
def yJ6_bitCount_0f7a4 : MethodName := ⟨RJ6, "bitCount", "(I)I"⟩
def RJ9 : String := "java/lang/Math"
def TJ9 : u_T := fun k => match k with
  | _ => ("", "", "", false)
def tyJ9 : Nat → FieldType := fun k => match k with
  | _ => .int
abbrev wsJ90 : List Cond := u_ws RJ9 TJ9 0
theorem nmJ9 : ∀ a, a < 0 → ∀ b, b < 0 → a ≠ b → (TJ9 a).2.1 ≠ (TJ9 b).2.1 := by decide +kernel
theorem tyJ9_ok : ∀ k, k < 0 → parseFieldDescriptor (TJ9 k).2.2.1 = some (tyJ9 k) := by decide +kernel
abbrev cJ9_max_7cf53 : ByteArray := prog_9_method_65_code
def yJ9_max_7cf53 : MethodName := ⟨RJ9, "max", "(II)I"⟩
abbrev cJ9_min_7cf53 : ByteArray := prog_9_method_69_code
def yJ9_min_7cf53 : MethodName := ⟨RJ9, "min", "(II)I"⟩
def RJ10 : String := "java/lang/System"
def TJ10 : u_T := fun k => match k with
  | _ => ("", "", "", false)
def tyJ10 : Nat → FieldType := fun k => match k with
  | _ => .int
abbrev wsJ100 : List Cond := u_ws RJ10 TJ10 0
theorem nmJ10 : ∀ a, a < 0 → ∀ b, b < 0 → a ≠ b → (TJ10 a).2.1 ≠ (TJ10 b).2.1 := by decide +kernel
theorem tyJ10_ok : ∀ k, k < 0 → parseFieldDescriptor (TJ10 k).2.2.1 = some (tyJ10 k) := by decide +kernel
def RL : String := "ChatThreadsLaw"
abbrev cL_cell : ByteArray := method_2_code
def yL_cell : MethodName := ⟨RL, "cell", "([II)I"⟩
abbrev cL_low : ByteArray := method_3_code
def yL_low : MethodName := ⟨RL, "low", "(II)I"⟩
abbrev cL_name : ByteArray := method_4_code
def yL_name : MethodName := ⟨RL, "name", "([I[III)I"⟩
abbrev cL_has : ByteArray := method_5_code
def yL_has : MethodName := ⟨RL, "has", "([I[III)I"⟩
abbrev cL_speaks : ByteArray := method_6_code
def yL_speaks : MethodName := ⟨RL, "speaks", "([I[I[III)Z"⟩
abbrev cL_ahead : ByteArray := method_7_code
def yL_ahead : MethodName := ⟨RL, "ahead", "([III)Z"⟩
abbrev cL_score : ByteArray := method_8_code
def yL_score : MethodName := ⟨RL, "score", "([I[I[III)I"⟩
abbrev cL_counts : ByteArray := method_9_code
def yL_counts : MethodName := ⟨RL, "counts", "([I[II)I"⟩
abbrev cL_told : ByteArray := method_10_code
def yL_told : MethodName := ⟨RL, "told", "([I[IIII)I"⟩
abbrev cL_might : ByteArray := method_11_code
def yL_might : MethodName := ⟨RL, "might", "([I[I[I[IIII)Z"⟩
abbrev cL_answer : ByteArray := method_12_code
def yL_answer : MethodName := ⟨RL, "answer", "([I[I[I[III)I"⟩
abbrev cL_orders : ByteArray := method_13_code
def yL_orders : MethodName := ⟨RL, "orders", "([I[I[I)V"⟩
abbrev cL_lays : ByteArray := method_14_code
def yL_lays : MethodName := ⟨RL, "lays", "([I[I[I[I[I[I[I)I"⟩
abbrev cL_goes : ByteArray := method_15_code
def yL_goes : MethodName := ⟨RL, "goes", "([I[II)V"⟩
abbrev cL_drops : ByteArray := method_16_code
def yL_drops : MethodName := ⟨RL, "drops", "([I[I[II)V"⟩
abbrev cL_top : ByteArray := method_17_code
def yL_top : MethodName := ⟨RL, "top", "(I)I"⟩
abbrev cL_acts : ByteArray := method_18_code
def yL_acts : MethodName := ⟨RL, "acts", "(LChatThreads;[I[I[I[II)Z"⟩
abbrev cL_isSo : ByteArray := method_19_code
def yL_isSo : MethodName := ⟨RL, "isSo", "(LChatThreads;[I[I[I[I)Z"⟩
abbrev cL_areNamed : ByteArray := method_20_code
def yL_areNamed : MethodName := ⟨RL, "areNamed", "(LChatThreads;[I[II)Z"⟩
abbrev cL_law : ByteArray := code
def yL_law : MethodName := ⟨RL, "law", "([I)Z"⟩
abbrev vwCl : List vw_C := [(RX0, TX0, 2), (RX1, TX1, 14), (RX2, TX2, 8), (RX3, TX3, 17), (RX4, TX4, 7)]
