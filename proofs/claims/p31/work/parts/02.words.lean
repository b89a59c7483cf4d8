/-- the tables' words that every method takes along -/
def am_W : List Cond := lw_tbl.filter goodWord
theorem am_W_tbl : ∀ w ∈ am_W, w ∈ lw_tbl := fun _ h => (List.mem_filter.mp h).1
theorem am_W_good : GoodIn am_W am_W := fun w h => ⟨h, good_of_word (List.mem_filter.mp h).2⟩
theorem bw {x : Cond} (i : Nat) (h : lw_tbl[i]? = some x) (g : goodWord x = true) : x ∈ am_W := List.mem_filter.mpr ⟨List.mem_of_getElem? h, g⟩
theorem aw_0 : Cond.selects RX4 yX4_currentThreads yX4_currentThreads ∈ am_W := bw 0 rfl rfl
theorem aw_1 : Cond.selects RX3 yX3_putInOrder yX3_putInOrder ∈ am_W := bw 1 rfl rfl
theorem aw_2 : Cond.selects RX3 yX3_rate yX3_rate ∈ am_W := bw 2 rfl rfl
theorem aw_3 : Cond.selects RX3 yX3_speaksTo yX3_speaksTo ∈ am_W := bw 3 rfl rfl
theorem aw_4 : Cond.selects RX3 yX3_choicesFor yX3_choicesFor ∈ am_W := bw 4 rfl rfl
theorem aw_5 : Cond.selects RX3 yX3_isInWindow yX3_isInWindow ∈ am_W := bw 5 rfl rfl
theorem aw_6 : Cond.selects RX3 yX3_bestOf yX3_bestOf ∈ am_W := bw 6 rfl rfl
theorem aw_7 : Cond.selects RX3 yX3_rivalsFor yX3_rivalsFor ∈ am_W := bw 7 rfl rfl
theorem aw_8 : Cond.selects RX3 yX3_addToThread yX3_addToThread ∈ am_W := bw 8 rfl rfl
theorem aw_9 : Cond.selects RX3 yX3_answerOf yX3_answerOf ∈ am_W := bw 9 rfl rfl
theorem aw_10 : Cond.selects RX3 yX3_isPassed yX3_isPassed ∈ am_W := bw 10 rfl rfl
theorem aw_11 : Cond.selects RX3 yX3_joinRivals yX3_joinRivals ∈ am_W := bw 11 rfl rfl
theorem aw_12 : Cond.selects RX3 yX3_join yX3_join ∈ am_W := bw 12 rfl rfl
theorem aw_13 : Cond.selects RX3 yX3_numberThreadAt yX3_numberThreadAt ∈ am_W := bw 13 rfl rfl
theorem aw_14 : Cond.selects RX4 yX4_beginChange yX4_beginChange ∈ am_W := bw 14 rfl rfl
theorem aw_15 : Cond.selects RX0 yX0_dropOldest yX0_dropOldest ∈ am_W := bw 15 rfl rfl
theorem aw_16 : Cond.initialized RL ∈ am_W := bw 16 rfl rfl
theorem aw_17 : Cond.initialized RX4 ∈ am_W := bw 17 rfl rfl
theorem aw_18 : Cond.initialized RX3 ∈ am_W := bw 18 rfl rfl
theorem aw_19 : Cond.initialized RX1 ∈ am_W := bw 19 rfl rfl
theorem aw_20 : Cond.initialized RJ10 ∈ am_W := bw 20 rfl rfl
theorem aw_21 : Cond.initialized RX0 ∈ am_W := bw 21 rfl rfl
theorem aw_22 : Cond.initialized RX2 ∈ am_W := bw 22 rfl rfl
theorem aw_23 : Cond.initialized RJ6 ∈ am_W := bw 23 rfl rfl
theorem aw_24 : Cond.initialized RJ9 ∈ am_W := bw 24 rfl rfl
theorem aw_25 : Cond.classLink RL 57 RX4 ∈ am_W := bw 25 rfl rfl
theorem aw_26 : Cond.instantiable RX4 7 ∈ am_W := bw 26 rfl rfl
theorem aw_27 : Cond.methodLink RL 114 yX4_init ∈ am_W := bw 27 rfl rfl
theorem aw_28 : Cond.instanceMethod yX4_init ∈ am_W := bw 28 rfl rfl
theorem aw_29 : Cond.code yX4_init cX4_init 1 none ∈ am_W := bw 29 rfl rfl
theorem aw_30 : Cond.methodLink RX4 1 objectInit ∈ am_W := bw 30 rfl rfl
theorem aw_31 : Cond.instanceMethod objectInit ∈ am_W := bw 31 rfl rfl
theorem aw_32 : Cond.code objectInit ⟨#[0xb1]⟩ 1 none ∈ am_W := bw 32 rfl rfl
theorem aw_33 : Cond.classLink RX4 7 RX3 ∈ am_W := bw 33 rfl rfl
theorem aw_34 : Cond.instantiable RX3 17 ∈ am_W := bw 34 rfl rfl
theorem aw_36 : Cond.instanceMethod yX3_init ∈ am_W := bw 36 rfl rfl
theorem aw_37 : Cond.code yX3_init cX3_init 1 none ∈ am_W := bw 37 rfl rfl
theorem aw_38 : Cond.methodLink RX3 3 objectInit ∈ am_W := bw 38 rfl rfl
theorem aw_39 : Cond.classLink RX3 9 RX1 ∈ am_W := bw 39 rfl rfl
theorem aw_40 : Cond.instantiable RX1 14 ∈ am_W := bw 40 rfl rfl
theorem aw_41 : Cond.methodLink RX3 11 yX1_init ∈ am_W := bw 41 rfl rfl
theorem aw_42 : Cond.instanceMethod yX1_init ∈ am_W := bw 42 rfl rfl
theorem aw_43 : Cond.code yX1_init cX1_init 1 none ∈ am_W := bw 43 rfl rfl
theorem aw_44 : Cond.methodLink RX1 3 objectInit ∈ am_W := bw 44 rfl rfl
theorem aw_47 : Cond.methodLink RX1 58 arraycopyName ∈ am_W := bw 47 rfl rfl
theorem aw_48 : Cond.static arraycopyName ∈ am_W := bw 48 rfl rfl
theorem aw_49 : Cond.native arraycopyName ∈ am_W := bw 49 rfl rfl
theorem aw_50 : Cond.fieldLink RX1 9 "ChatThreads$Log" "takeCount" "I" ∈ am_W := bw 50 rfl rfl
theorem aw_51 : Cond.fieldLink RX4 65 "ChatThreads$Log" "takeCount" "I" ∈ am_W := bw 51 rfl rfl
theorem aw_52 : Cond.fieldLink RX1 15 "ChatThreads$Log" "takers" "[I" ∈ am_W := bw 52 rfl rfl
theorem aw_53 : Cond.fieldLink RX1 19 "ChatThreads$Log" "takenNames" "[I" ∈ am_W := bw 53 rfl rfl
theorem aw_54 : Cond.fieldLink RX1 22 "ChatThreads$Log" "takeTimes" "[I" ∈ am_W := bw 54 rfl rfl
theorem aw_55 : Cond.fieldLink RX1 25 "ChatThreads$Log" "lineCount" "I" ∈ am_W := bw 55 rfl rfl
theorem aw_56 : Cond.fieldLink RX3 71 "ChatThreads$Log" "lineCount" "I" ∈ am_W := bw 56 rfl rfl
theorem aw_57 : Cond.fieldLink RX4 86 "ChatThreads$Log" "lineCount" "I" ∈ am_W := bw 57 rfl rfl
theorem aw_58 : Cond.fieldLink RX1 28 "ChatThreads$Log" "times" "[I" ∈ am_W := bw 58 rfl rfl
theorem aw_59 : Cond.fieldLink RX3 95 "ChatThreads$Log" "times" "[I" ∈ am_W := bw 59 rfl rfl
theorem aw_60 : Cond.fieldLink RX4 103 "ChatThreads$Log" "times" "[I" ∈ am_W := bw 60 rfl rfl
theorem aw_61 : Cond.fieldLink RX1 31 "ChatThreads$Log" "writers" "[I" ∈ am_W := bw 61 rfl rfl
theorem aw_62 : Cond.fieldLink RX3 98 "ChatThreads$Log" "writers" "[I" ∈ am_W := bw 62 rfl rfl
theorem aw_63 : Cond.fieldLink RX4 107 "ChatThreads$Log" "writers" "[I" ∈ am_W := bw 63 rfl rfl
theorem aw_64 : Cond.fieldLink RX1 34 "ChatThreads$Log" "names" "[I" ∈ am_W := bw 64 rfl rfl
theorem aw_65 : Cond.fieldLink RX4 110 "ChatThreads$Log" "names" "[I" ∈ am_W := bw 65 rfl rfl
theorem aw_66 : Cond.fieldLink RX1 37 "ChatThreads$Log" "words" "[I" ∈ am_W := bw 66 rfl rfl
theorem aw_67 : Cond.fieldLink RX3 108 "ChatThreads$Log" "words" "[I" ∈ am_W := bw 67 rfl rfl
theorem aw_68 : Cond.fieldLink RX4 113 "ChatThreads$Log" "words" "[I" ∈ am_W := bw 68 rfl rfl
theorem aw_69 : Cond.fieldLink RX1 40 "ChatThreads$Log" "fixCount" "I" ∈ am_W := bw 69 rfl rfl
theorem aw_70 : Cond.fieldLink RX4 100 "ChatThreads$Log" "fixCount" "I" ∈ am_W := bw 70 rfl rfl
theorem aw_71 : Cond.fieldLink RX3 125 "ChatThreads$Log" "fixCount" "I" ∈ am_W := bw 71 rfl rfl
theorem aw_72 : Cond.fieldLink RX1 43 "ChatThreads$Log" "fixKinds" "[I" ∈ am_W := bw 72 rfl rfl
theorem aw_73 : Cond.fieldLink RX3 128 "ChatThreads$Log" "fixKinds" "[I" ∈ am_W := bw 73 rfl rfl
theorem aw_74 : Cond.fieldLink RX4 193 "ChatThreads$Log" "fixKinds" "[I" ∈ am_W := bw 74 rfl rfl
theorem aw_75 : Cond.fieldLink RX1 46 "ChatThreads$Log" "fixLines" "[I" ∈ am_W := bw 75 rfl rfl
theorem aw_76 : Cond.fieldLink RX3 131 "ChatThreads$Log" "fixLines" "[I" ∈ am_W := bw 76 rfl rfl
theorem aw_77 : Cond.fieldLink RX4 196 "ChatThreads$Log" "fixLines" "[I" ∈ am_W := bw 77 rfl rfl
theorem aw_78 : Cond.fieldLink RX1 49 "ChatThreads$Log" "fixEarlier" "[I" ∈ am_W := bw 78 rfl rfl
theorem aw_79 : Cond.fieldLink RX3 134 "ChatThreads$Log" "fixEarlier" "[I" ∈ am_W := bw 79 rfl rfl
theorem aw_80 : Cond.fieldLink RX4 199 "ChatThreads$Log" "fixEarlier" "[I" ∈ am_W := bw 80 rfl rfl
theorem aw_81 : Cond.fieldLink RX1 52 "ChatThreads$Log" "settings" "[I" ∈ am_W := bw 81 rfl rfl
theorem aw_82 : Cond.fieldLink RX3 105 "ChatThreads$Log" "settings" "[I" ∈ am_W := bw 82 rfl rfl
theorem aw_83 : Cond.fieldLink RX4 155 "ChatThreads$Log" "settings" "[I" ∈ am_W := bw 83 rfl rfl
theorem aw_84 : Cond.lays RX1 "ChatThreads$Log" "takeCount" "I" ∈ am_W := bw 84 rfl rfl
theorem aw_86 : Cond.laysFinal RX1 "ChatThreads$Log" "takers" "[I" ∈ am_W := bw 86 rfl rfl
theorem aw_88 : Cond.laysFinal RX1 "ChatThreads$Log" "takenNames" "[I" ∈ am_W := bw 88 rfl rfl
theorem aw_90 : Cond.laysFinal RX1 "ChatThreads$Log" "takeTimes" "[I" ∈ am_W := bw 90 rfl rfl
theorem aw_92 : Cond.lays RX1 "ChatThreads$Log" "lineCount" "I" ∈ am_W := bw 92 rfl rfl
theorem aw_94 : Cond.laysFinal RX1 "ChatThreads$Log" "times" "[I" ∈ am_W := bw 94 rfl rfl
theorem aw_96 : Cond.laysFinal RX1 "ChatThreads$Log" "writers" "[I" ∈ am_W := bw 96 rfl rfl
theorem aw_98 : Cond.laysFinal RX1 "ChatThreads$Log" "names" "[I" ∈ am_W := bw 98 rfl rfl
theorem aw_100 : Cond.laysFinal RX1 "ChatThreads$Log" "words" "[I" ∈ am_W := bw 100 rfl rfl
theorem aw_102 : Cond.lays RX1 "ChatThreads$Log" "fixCount" "I" ∈ am_W := bw 102 rfl rfl
theorem aw_104 : Cond.laysFinal RX1 "ChatThreads$Log" "fixKinds" "[I" ∈ am_W := bw 104 rfl rfl
theorem aw_106 : Cond.laysFinal RX1 "ChatThreads$Log" "fixLines" "[I" ∈ am_W := bw 106 rfl rfl
theorem aw_108 : Cond.laysFinal RX1 "ChatThreads$Log" "fixEarlier" "[I" ∈ am_W := bw 108 rfl rfl
theorem aw_110 : Cond.laysFinal RX1 "ChatThreads$Log" "settings" "[I" ∈ am_W := bw 110 rfl rfl
theorem aw_113 : Cond.arrayClass .int ∈ am_W := bw 113 rfl rfl
theorem aw_114 : Cond.fieldLink RX3 12 "ChatThreads$Threads" "log" "LChatThreads$Log;" ∈ am_W := bw 114 rfl rfl
theorem aw_115 : Cond.fieldLink RX4 16 "ChatThreads$Threads" "log" "LChatThreads$Log;" ∈ am_W := bw 115 rfl rfl
theorem aw_116 : Cond.fieldLink RX3 18 "ChatThreads$Threads" "order" "[I" ∈ am_W := bw 116 rfl rfl
theorem aw_117 : Cond.fieldLink RX4 138 "ChatThreads$Threads" "order" "[I" ∈ am_W := bw 117 rfl rfl
theorem aw_118 : Cond.fieldLink RX3 22 "ChatThreads$Threads" "places" "[I" ∈ am_W := bw 118 rfl rfl
theorem aw_119 : Cond.fieldLink RX4 120 "ChatThreads$Threads" "places" "[I" ∈ am_W := bw 119 rfl rfl
theorem aw_120 : Cond.fieldLink RX3 25 "ChatThreads$Threads" "spokenTo" "[I" ∈ am_W := bw 120 rfl rfl
theorem aw_121 : Cond.fieldLink RX4 135 "ChatThreads$Threads" "spokenTo" "[I" ∈ am_W := bw 121 rfl rfl
theorem aw_122 : Cond.fieldLink RX3 28 "ChatThreads$Threads" "scores" "[I" ∈ am_W := bw 122 rfl rfl
theorem aw_123 : Cond.fieldLink RX3 31 "ChatThreads$Threads" "fixes" "[I" ∈ am_W := bw 123 rfl rfl
theorem aw_124 : Cond.fieldLink RX3 34 "ChatThreads$Threads" "choices" "[I" ∈ am_W := bw 124 rfl rfl
theorem aw_125 : Cond.fieldLink RX3 37 "ChatThreads$Threads" "bests" "[I" ∈ am_W := bw 125 rfl rfl
theorem aw_126 : Cond.fieldLink RX3 40 "ChatThreads$Threads" "rivals" "[I" ∈ am_W := bw 126 rfl rfl
theorem aw_127 : Cond.fieldLink RX3 43 "ChatThreads$Threads" "answered" "[I" ∈ am_W := bw 127 rfl rfl
theorem aw_128 : Cond.fieldLink RX4 126 "ChatThreads$Threads" "answered" "[I" ∈ am_W := bw 128 rfl rfl
theorem aw_129 : Cond.fieldLink RX3 46 "ChatThreads$Threads" "joins" "[I" ∈ am_W := bw 129 rfl rfl
theorem aw_130 : Cond.fieldLink RX4 132 "ChatThreads$Threads" "joins" "[I" ∈ am_W := bw 130 rfl rfl
theorem aw_131 : Cond.fieldLink RX3 49 "ChatThreads$Threads" "rows" "[I" ∈ am_W := bw 131 rfl rfl
theorem aw_132 : Cond.fieldLink RX3 52 "ChatThreads$Threads" "firstPlaces" "[I" ∈ am_W := bw 132 rfl rfl
theorem aw_133 : Cond.fieldLink RX3 55 "ChatThreads$Threads" "numbers" "[I" ∈ am_W := bw 133 rfl rfl
theorem aw_134 : Cond.fieldLink RX4 123 "ChatThreads$Threads" "numbers" "[I" ∈ am_W := bw 134 rfl rfl
theorem aw_135 : Cond.fieldLink RX3 58 "ChatThreads$Threads" "threadCount" "I" ∈ am_W := bw 135 rfl rfl
theorem aw_136 : Cond.fieldLink RX4 158 "ChatThreads$Threads" "threadCount" "I" ∈ am_W := bw 136 rfl rfl
theorem aw_137 : Cond.fieldLink RX3 62 "ChatThreads$Threads" "lengths" "[I" ∈ am_W := bw 137 rfl rfl
theorem aw_138 : Cond.fieldLink RX3 65 "ChatThreads$Threads" "lastLines" "[I" ∈ am_W := bw 138 rfl rfl
theorem aw_139 : Cond.laysFinal RX3 "ChatThreads$Threads" "log" "LChatThreads$Log;" ∈ am_W := bw 139 rfl rfl
theorem aw_141 : Cond.laysFinal RX3 "ChatThreads$Threads" "order" "[I" ∈ am_W := bw 141 rfl rfl
theorem aw_143 : Cond.laysFinal RX3 "ChatThreads$Threads" "places" "[I" ∈ am_W := bw 143 rfl rfl
theorem aw_145 : Cond.laysFinal RX3 "ChatThreads$Threads" "spokenTo" "[I" ∈ am_W := bw 145 rfl rfl
theorem aw_147 : Cond.laysFinal RX3 "ChatThreads$Threads" "scores" "[I" ∈ am_W := bw 147 rfl rfl
theorem aw_149 : Cond.laysFinal RX3 "ChatThreads$Threads" "fixes" "[I" ∈ am_W := bw 149 rfl rfl
theorem aw_151 : Cond.laysFinal RX3 "ChatThreads$Threads" "choices" "[I" ∈ am_W := bw 151 rfl rfl
theorem aw_153 : Cond.laysFinal RX3 "ChatThreads$Threads" "bests" "[I" ∈ am_W := bw 153 rfl rfl
theorem aw_155 : Cond.laysFinal RX3 "ChatThreads$Threads" "rivals" "[I" ∈ am_W := bw 155 rfl rfl
theorem aw_157 : Cond.laysFinal RX3 "ChatThreads$Threads" "answered" "[I" ∈ am_W := bw 157 rfl rfl
theorem aw_159 : Cond.laysFinal RX3 "ChatThreads$Threads" "joins" "[I" ∈ am_W := bw 159 rfl rfl
theorem aw_161 : Cond.laysFinal RX3 "ChatThreads$Threads" "rows" "[I" ∈ am_W := bw 161 rfl rfl
theorem aw_163 : Cond.laysFinal RX3 "ChatThreads$Threads" "firstPlaces" "[I" ∈ am_W := bw 163 rfl rfl
theorem aw_165 : Cond.laysFinal RX3 "ChatThreads$Threads" "numbers" "[I" ∈ am_W := bw 165 rfl rfl
theorem aw_167 : Cond.lays RX3 "ChatThreads$Threads" "threadCount" "I" ∈ am_W := bw 167 rfl rfl
theorem aw_169 : Cond.laysFinal RX3 "ChatThreads$Threads" "lengths" "[I" ∈ am_W := bw 169 rfl rfl
theorem aw_171 : Cond.laysFinal RX3 "ChatThreads$Threads" "lastLines" "[I" ∈ am_W := bw 171 rfl rfl
theorem aw_174 : Cond.classLink RX4 25 RX0 ∈ am_W := bw 174 rfl rfl
theorem aw_175 : Cond.instantiable RX0 2 ∈ am_W := bw 175 rfl rfl
theorem aw_176 : Cond.methodLink RX4 27 yX0_init ∈ am_W := bw 176 rfl rfl
theorem aw_177 : Cond.instanceMethod yX0_init ∈ am_W := bw 177 rfl rfl
theorem aw_178 : Cond.code yX0_init cX0_init 2 none ∈ am_W := bw 178 rfl rfl
theorem aw_179 : Cond.methodLink RX0 3 objectInit ∈ am_W := bw 179 rfl rfl
theorem aw_180 : Cond.classLink RX0 15 RX1 ∈ am_W := bw 180 rfl rfl
theorem aw_182 : Cond.methodLink RX0 21 yX1_init ∈ am_W := bw 182 rfl rfl
theorem aw_183 : Cond.fieldLink RX0 9 "ChatThreads$History" "stateCount" "I" ∈ am_W := bw 183 rfl rfl
theorem aw_184 : Cond.fieldLink RX4 170 "ChatThreads$History" "stateCount" "I" ∈ am_W := bw 184 rfl rfl
theorem aw_185 : Cond.fieldLink RX0 17 "ChatThreads$History" "states" "[LChatThreads$Log;" ∈ am_W := bw 185 rfl rfl
theorem aw_186 : Cond.lays RX0 "ChatThreads$History" "stateCount" "I" ∈ am_W := bw 186 rfl rfl
theorem aw_188 : Cond.laysFinal RX0 "ChatThreads$History" "states" "[LChatThreads$Log;" ∈ am_W := bw 188 rfl rfl
theorem aw_191 : Cond.classLink RX4 32 RX2 ∈ am_W := bw 191 rfl rfl
theorem aw_192 : Cond.instantiable RX2 8 ∈ am_W := bw 192 rfl rfl
theorem aw_194 : Cond.instanceMethod yX2_init ∈ am_W := bw 194 rfl rfl
theorem aw_195 : Cond.code yX2_init cX2_init 1 none ∈ am_W := bw 195 rfl rfl
theorem aw_196 : Cond.methodLink RX2 3 objectInit ∈ am_W := bw 196 rfl rfl
theorem aw_197 : Cond.fieldLink RX2 9 "ChatThreads$Text" "length" "I" ∈ am_W := bw 197 rfl rfl
theorem aw_198 : Cond.fieldLink RX4 173 "ChatThreads$Text" "length" "I" ∈ am_W := bw 198 rfl rfl
theorem aw_199 : Cond.fieldLink RX2 15 "ChatThreads$Text" "signs" "[C" ∈ am_W := bw 199 rfl rfl
theorem aw_200 : Cond.fieldLink RX2 19 "ChatThreads$Text" "entryCount" "I" ∈ am_W := bw 200 rfl rfl
theorem aw_201 : Cond.fieldLink RX2 22 "ChatThreads$Text" "faultPosition" "I" ∈ am_W := bw 201 rfl rfl
theorem aw_202 : Cond.fieldLink RX2 25 "ChatThreads$Text" "faultReason" "I" ∈ am_W := bw 202 rfl rfl
theorem aw_203 : Cond.fieldLink RX2 28 "ChatThreads$Text" "letter" "C" ∈ am_W := bw 203 rfl rfl
theorem aw_204 : Cond.fieldLink RX2 32 "ChatThreads$Text" "position" "I" ∈ am_W := bw 204 rfl rfl
theorem aw_205 : Cond.fieldLink RX2 35 "ChatThreads$Text" "numbers" "[I" ∈ am_W := bw 205 rfl rfl
theorem aw_206 : Cond.lays RX2 "ChatThreads$Text" "length" "I" ∈ am_W := bw 206 rfl rfl
theorem aw_208 : Cond.laysFinal RX2 "ChatThreads$Text" "signs" "[C" ∈ am_W := bw 208 rfl rfl
theorem aw_210 : Cond.lays RX2 "ChatThreads$Text" "entryCount" "I" ∈ am_W := bw 210 rfl rfl
theorem aw_212 : Cond.lays RX2 "ChatThreads$Text" "faultPosition" "I" ∈ am_W := bw 212 rfl rfl
theorem aw_214 : Cond.lays RX2 "ChatThreads$Text" "faultReason" "I" ∈ am_W := bw 214 rfl rfl
theorem aw_216 : Cond.lays RX2 "ChatThreads$Text" "letter" "C" ∈ am_W := bw 216 rfl rfl
theorem aw_218 : Cond.lays RX2 "ChatThreads$Text" "position" "I" ∈ am_W := bw 218 rfl rfl
theorem aw_220 : Cond.laysFinal RX2 "ChatThreads$Text" "numbers" "[I" ∈ am_W := bw 220 rfl rfl
theorem aw_223 : Cond.arrayClass .char ∈ am_W := bw 223 rfl rfl
theorem aw_224 : Cond.fieldLink RX4 10 "ChatThreads" "threads" "LChatThreads$Threads;" ∈ am_W := bw 224 rfl rfl
theorem aw_225 : Cond.fieldLink RX4 20 "ChatThreads" "log" "LChatThreads$Log;" ∈ am_W := bw 225 rfl rfl
theorem aw_226 : Cond.fieldLink RX4 21 "ChatThreads" "threadsAreOld" "Z" ∈ am_W := bw 226 rfl rfl
theorem aw_227 : Cond.fieldLink RX4 28 "ChatThreads" "history" "LChatThreads$History;" ∈ am_W := bw 227 rfl rfl
theorem aw_228 : Cond.fieldLink RX4 35 "ChatThreads" "text" "LChatThreads$Text;" ∈ am_W := bw 228 rfl rfl
theorem aw_229 : Cond.fieldLink RX4 39 "ChatThreads" "otherThreads" "LChatThreads$Threads;" ∈ am_W := bw 229 rfl rfl
theorem aw_230 : Cond.fieldLink RX4 42 "ChatThreads" "otherLog" "LChatThreads$Log;" ∈ am_W := bw 230 rfl rfl
theorem aw_231 : Cond.laysFinal RX4 "ChatThreads" "threads" "LChatThreads$Threads;" ∈ am_W := bw 231 rfl rfl
theorem aw_233 : Cond.laysFinal RX4 "ChatThreads" "log" "LChatThreads$Log;" ∈ am_W := bw 233 rfl rfl
theorem aw_235 : Cond.lays RX4 "ChatThreads" "threadsAreOld" "Z" ∈ am_W := bw 235 rfl rfl
theorem aw_237 : Cond.laysFinal RX4 "ChatThreads" "history" "LChatThreads$History;" ∈ am_W := bw 237 rfl rfl
theorem aw_239 : Cond.laysFinal RX4 "ChatThreads" "text" "LChatThreads$Text;" ∈ am_W := bw 239 rfl rfl
theorem aw_241 : Cond.laysFinal RX4 "ChatThreads" "otherThreads" "LChatThreads$Threads;" ∈ am_W := bw 241 rfl rfl
theorem aw_243 : Cond.laysFinal RX4 "ChatThreads" "otherLog" "LChatThreads$Log;" ∈ am_W := bw 243 rfl rfl
theorem aw_246 : Cond.methodLink RL 111 yX4_nameOf ∈ am_W := bw 246 rfl rfl
theorem aw_247 : Cond.instanceMethod yX4_nameOf ∈ am_W := bw 247 rfl rfl
theorem aw_248 : Cond.selects RX4 yX4_nameOf yX4_nameOf ∈ am_W := bw 248 rfl rfl
theorem aw_249 : Cond.code yX4_nameOf cX4_nameOf 3 (some .int) ∈ am_W := bw 249 rfl rfl
theorem aw_250 : Cond.methodLink RX4 45 yX4_isPerson ∈ am_W := bw 250 rfl rfl
theorem aw_251 : Cond.static yX4_isPerson ∈ am_W := bw 251 rfl rfl
theorem aw_252 : Cond.code yX4_isPerson cX4_isPerson 1 (some .boolean) ∈ am_W := bw 252 rfl rfl
theorem aw_253 : Cond.methodLink RX4 52 yX4_isTime ∈ am_W := bw 253 rfl rfl
theorem aw_254 : Cond.static yX4_isTime ∈ am_W := bw 254 rfl rfl
theorem aw_255 : Cond.code yX4_isTime cX4_isTime 1 (some .boolean) ∈ am_W := bw 255 rfl rfl
theorem aw_256 : Cond.constant RX4 145 (100000) ∈ am_W := bw 256 rfl rfl
theorem aw_257 : Cond.methodLink RX4 76 yX1_nameAt ∈ am_W := bw 257 rfl rfl
theorem aw_258 : Cond.instanceMethod yX1_nameAt ∈ am_W := bw 258 rfl rfl
theorem aw_259 : Cond.selects RX1 yX1_nameAt yX1_nameAt ∈ am_W := bw 259 rfl rfl
theorem aw_260 : Cond.code yX1_nameAt cX1_nameAt 4 (some .int) ∈ am_W := bw 260 rfl rfl
theorem aw_261 : Cond.methodLink RX4 79 yX4_orNotFound ∈ am_W := bw 261 rfl rfl
theorem aw_262 : Cond.static yX4_orNotFound ∈ am_W := bw 262 rfl rfl
theorem aw_263 : Cond.code yX4_orNotFound cX4_orNotFound 1 (some .int) ∈ am_W := bw 263 rfl rfl
theorem aw_264 : Cond.methodLink RL 108 yX4_whoHas ∈ am_W := bw 264 rfl rfl
theorem aw_265 : Cond.instanceMethod yX4_whoHas ∈ am_W := bw 265 rfl rfl
theorem aw_266 : Cond.selects RX4 yX4_whoHas yX4_whoHas ∈ am_W := bw 266 rfl rfl
theorem aw_267 : Cond.code yX4_whoHas cX4_whoHas 3 (some .int) ∈ am_W := bw 267 rfl rfl
theorem aw_268 : Cond.methodLink RX4 49 yX4_isName ∈ am_W := bw 268 rfl rfl
theorem aw_269 : Cond.static yX4_isName ∈ am_W := bw 269 rfl rfl
theorem aw_270 : Cond.code yX4_isName cX4_isName 1 (some .boolean) ∈ am_W := bw 270 rfl rfl
theorem aw_271 : Cond.methodLink RX4 55 yX1_holderAt ∈ am_W := bw 271 rfl rfl
theorem aw_272 : Cond.instanceMethod yX1_holderAt ∈ am_W := bw 272 rfl rfl
theorem aw_273 : Cond.selects RX1 yX1_holderAt yX1_holderAt ∈ am_W := bw 273 rfl rfl
theorem aw_274 : Cond.code yX1_holderAt cX1_holderAt 4 (some .int) ∈ am_W := bw 274 rfl rfl
theorem aw_275 : Cond.methodLink RX1 64 yX1_nameAt ∈ am_W := bw 275 rfl rfl
theorem aw_276 : Cond.methodLink RL 96 yX4_inOrder ∈ am_W := bw 276 rfl rfl
theorem aw_277 : Cond.instanceMethod yX4_inOrder ∈ am_W := bw 277 rfl rfl
theorem aw_278 : Cond.selects RX4 yX4_inOrder yX4_inOrder ∈ am_W := bw 278 rfl rfl
theorem aw_279 : Cond.code yX4_inOrder cX4_inOrder 2 (some .int) ∈ am_W := bw 279 rfl rfl
theorem aw_280 : Cond.methodLink RX4 116 yX4_currentThreads ∈ am_W := bw 280 rfl rfl
theorem aw_282 : Cond.instanceMethod yX4_currentThreads ∈ am_W := bw 282 rfl rfl
theorem aw_283 : Cond.code yX4_currentThreads cX4_currentThreads 1 (some (.object "ChatThreads$Threads")) ∈ am_W := bw 283 rfl rfl
theorem aw_284 : Cond.methodLink RX4 244 yX3_rateAll ∈ am_W := bw 284 rfl rfl
theorem aw_285 : Cond.instanceMethod yX3_rateAll ∈ am_W := bw 285 rfl rfl
theorem aw_286 : Cond.selects RX3 yX3_rateAll yX3_rateAll ∈ am_W := bw 286 rfl rfl
theorem aw_287 : Cond.code yX3_rateAll cX3_rateAll 4 none ∈ am_W := bw 287 rfl rfl
theorem aw_288 : Cond.methodLink RX3 68 yX3_putInOrder ∈ am_W := bw 288 rfl rfl
theorem aw_290 : Cond.instanceMethod yX3_putInOrder ∈ am_W := bw 290 rfl rfl
theorem aw_291 : Cond.code yX3_putInOrder cX3_putInOrder 3 none ∈ am_W := bw 291 rfl rfl
theorem aw_292 : Cond.methodLink RX3 74 yX1_personsNamedIn ∈ am_W := bw 292 rfl rfl
theorem aw_293 : Cond.instanceMethod yX1_personsNamedIn ∈ am_W := bw 293 rfl rfl
theorem aw_294 : Cond.selects RX1 yX1_personsNamedIn yX1_personsNamedIn ∈ am_W := bw 294 rfl rfl
theorem aw_295 : Cond.code yX1_personsNamedIn cX1_personsNamedIn 6 (some .int) ∈ am_W := bw 295 rfl rfl
theorem aw_297 : Cond.static yX4_isIn ∈ am_W := bw 297 rfl rfl
theorem aw_298 : Cond.code yX4_isIn cX4_isIn 2 (some .boolean) ∈ am_W := bw 298 rfl rfl
theorem aw_299 : Cond.methodLink RX3 78 yX3_rate ∈ am_W := bw 299 rfl rfl
set_option maxRecDepth 20000 in
theorem aw_301 : Cond.instanceMethod yX3_rate ∈ am_W := bw 301 rfl rfl
set_option maxRecDepth 20000 in
theorem aw_302 : Cond.code yX3_rate cX3_rate 5 none ∈ am_W := bw 302 rfl rfl
set_option maxRecDepth 20000 in
theorem aw_303 : Cond.methodLink RX3 101 yX3_speaksTo ∈ am_W := bw 303 rfl rfl
set_option maxRecDepth 20000 in
theorem aw_305 : Cond.instanceMethod yX3_speaksTo ∈ am_W := bw 305 rfl rfl
set_option maxRecDepth 20000 in
theorem aw_306 : Cond.code yX3_speaksTo cX3_speaksTo 3 (some .boolean) ∈ am_W := bw 306 rfl rfl
set_option maxRecDepth 20000 in
theorem aw_308 : Cond.methodLink RX3 111 yJ6_bitCount_0f7a4 ∈ am_W := bw 308 rfl rfl
set_option maxRecDepth 20000 in
theorem aw_309 : Cond.static yJ6_bitCount_0f7a4 ∈ am_W := bw 309 rfl rfl
set_option maxRecDepth 20000 in
theorem aw_310 : Cond.code yJ6_bitCount_0f7a4 cJ6_bitCount_0f7a4 1 (some .int) ∈ am_W := bw 310 rfl rfl
set_option maxRecDepth 20000 in
theorem aw_311 : Cond.constant RJ6 265 (1431655765) ∈ am_W := bw 311 rfl rfl
set_option maxRecDepth 20000 in
theorem aw_312 : Cond.constant RJ6 266 (858993459) ∈ am_W := bw 312 rfl rfl
set_option maxRecDepth 20000 in
theorem aw_313 : Cond.constant RJ6 267 (252645135) ∈ am_W := bw 313 rfl rfl
set_option maxRecDepth 20000 in
theorem aw_314 : Cond.methodLink RX3 116 yX3_gapOf ∈ am_W := bw 314 rfl rfl
set_option maxRecDepth 20000 in
theorem aw_315 : Cond.instanceMethod yX3_gapOf ∈ am_W := bw 315 rfl rfl
set_option maxRecDepth 20000 in
theorem aw_316 : Cond.selects RX3 yX3_gapOf yX3_gapOf ∈ am_W := bw 316 rfl rfl
set_option maxRecDepth 20000 in
theorem aw_317 : Cond.code yX3_gapOf cX3_gapOf 3 (some .int) ∈ am_W := bw 317 rfl rfl
set_option maxRecDepth 20000 in
theorem aw_318 : Cond.methodLink RX3 82 yX1_countingFix ∈ am_W := bw 318 rfl rfl
set_option maxRecDepth 20000 in
theorem aw_319 : Cond.instanceMethod yX1_countingFix ∈ am_W := bw 319 rfl rfl
set_option maxRecDepth 20000 in
theorem aw_320 : Cond.selects RX1 yX1_countingFix yX1_countingFix ∈ am_W := bw 320 rfl rfl
set_option maxRecDepth 20000 in
theorem aw_321 : Cond.code yX1_countingFix cX1_countingFix 3 (some .int) ∈ am_W := bw 321 rfl rfl
set_option maxRecDepth 20000 in
theorem aw_322 : Cond.methodLink RX3 85 yX3_choicesFor ∈ am_W := bw 322 rfl rfl
set_option maxRecDepth 20000 in
theorem aw_324 : Cond.instanceMethod yX3_choicesFor ∈ am_W := bw 324 rfl rfl
set_option maxRecDepth 20000 in
theorem aw_325 : Cond.code yX3_choicesFor cX3_choicesFor 4 (some .int) ∈ am_W := bw 325 rfl rfl
set_option maxRecDepth 20000 in
theorem aw_326 : Cond.methodLink RX3 122 yX3_isInWindow ∈ am_W := bw 326 rfl rfl
set_option maxRecDepth 20000 in
theorem aw_328 : Cond.instanceMethod yX3_isInWindow ∈ am_W := bw 328 rfl rfl
set_option maxRecDepth 20000 in
theorem aw_329 : Cond.code yX3_isInWindow cX3_isInWindow 3 (some .boolean) ∈ am_W := bw 329 rfl rfl
set_option maxRecDepth 20000 in
theorem aw_330 : Cond.methodLink RX3 88 yX3_bestOf ∈ am_W := bw 330 rfl rfl
set_option maxRecDepth 20000 in
theorem aw_332 : Cond.instanceMethod yX3_bestOf ∈ am_W := bw 332 rfl rfl
set_option maxRecDepth 20000 in
theorem aw_333 : Cond.code yX3_bestOf cX3_bestOf 6 (some .int) ∈ am_W := bw 333 rfl rfl
set_option maxRecDepth 20000 in
theorem aw_334 : Cond.methodLink RX3 137 yX3_scoreFor ∈ am_W := bw 334 rfl rfl
set_option maxRecDepth 20000 in
theorem aw_335 : Cond.instanceMethod yX3_scoreFor ∈ am_W := bw 335 rfl rfl
set_option maxRecDepth 20000 in
theorem aw_336 : Cond.selects RX3 yX3_scoreFor yX3_scoreFor ∈ am_W := bw 336 rfl rfl
set_option maxRecDepth 20000 in
theorem aw_337 : Cond.code yX3_scoreFor cX3_scoreFor 3 (some .int) ∈ am_W := bw 337 rfl rfl
set_option maxRecDepth 20000 in
theorem aw_338 : Cond.methodLink RX3 92 yX3_rivalsFor ∈ am_W := bw 338 rfl rfl
set_option maxRecDepth 20000 in
theorem aw_340 : Cond.instanceMethod yX3_rivalsFor ∈ am_W := bw 340 rfl rfl
set_option maxRecDepth 20000 in
theorem aw_341 : Cond.code yX3_rivalsFor cX3_rivalsFor 7 (some .int) ∈ am_W := bw 341 rfl rfl
set_option maxRecDepth 20000 in
theorem aw_342 : Cond.methodLink RX4 253 yX3_follow ∈ am_W := bw 342 rfl rfl
set_option maxRecDepth 20000 in
theorem aw_343 : Cond.instanceMethod yX3_follow ∈ am_W := bw 343 rfl rfl
set_option maxRecDepth 20000 in
theorem aw_344 : Cond.selects RX3 yX3_follow yX3_follow ∈ am_W := bw 344 rfl rfl
set_option maxRecDepth 20000 in
theorem aw_345 : Cond.code yX3_follow cX3_follow 2 none ∈ am_W := bw 345 rfl rfl
set_option maxRecDepth 20000 in
theorem aw_346 : Cond.methodLink RX3 140 yX3_addToThread ∈ am_W := bw 346 rfl rfl
set_option maxRecDepth 20000 in
theorem aw_348 : Cond.instanceMethod yX3_addToThread ∈ am_W := bw 348 rfl rfl
set_option maxRecDepth 20000 in
theorem aw_349 : Cond.code yX3_addToThread cX3_addToThread 3 none ∈ am_W := bw 349 rfl rfl
set_option maxRecDepth 20000 in
theorem aw_350 : Cond.methodLink RX3 147 yX3_answerOf ∈ am_W := bw 350 rfl rfl
set_option maxRecDepth 20000 in
theorem aw_352 : Cond.instanceMethod yX3_answerOf ∈ am_W := bw 352 rfl rfl
set_option maxRecDepth 20000 in
theorem aw_353 : Cond.code yX3_answerOf cX3_answerOf 2 (some .int) ∈ am_W := bw 353 rfl rfl
set_option maxRecDepth 20000 in
theorem aw_354 : Cond.methodLink RX3 153 yX3_isPassed ∈ am_W := bw 354 rfl rfl
set_option maxRecDepth 20000 in
theorem aw_356 : Cond.instanceMethod yX3_isPassed ∈ am_W := bw 356 rfl rfl
set_option maxRecDepth 20000 in
theorem aw_357 : Cond.code yX3_isPassed cX3_isPassed 3 (some .boolean) ∈ am_W := bw 357 rfl rfl
set_option maxRecDepth 20000 in
theorem aw_358 : Cond.methodLink RX3 150 yX3_joinRivals ∈ am_W := bw 358 rfl rfl
set_option maxRecDepth 20000 in
theorem aw_360 : Cond.instanceMethod yX3_joinRivals ∈ am_W := bw 360 rfl rfl
set_option maxRecDepth 20000 in
theorem aw_361 : Cond.code yX3_joinRivals cX3_joinRivals 4 none ∈ am_W := bw 361 rfl rfl
set_option maxRecDepth 20000 in
theorem aw_362 : Cond.methodLink RX3 156 yX3_join ∈ am_W := bw 362 rfl rfl
set_option maxRecDepth 20000 in
theorem aw_364 : Cond.instanceMethod yX3_join ∈ am_W := bw 364 rfl rfl
set_option maxRecDepth 20000 in
theorem aw_365 : Cond.code yX3_join cX3_join 7 none ∈ am_W := bw 365 rfl rfl
set_option maxRecDepth 20000 in
theorem aw_366 : Cond.methodLink RX3 160 Lib.Math.min.name ∈ am_W := bw 366 rfl rfl
set_option maxRecDepth 20000 in
theorem aw_367 : Cond.static Lib.Math.min.name ∈ am_W := bw 367 rfl rfl
set_option maxRecDepth 20000 in
theorem aw_368 : Cond.code Lib.Math.min.name Lib.Math.min.code 2 (some .int) ∈ am_W := bw 368 rfl rfl
set_option maxRecDepth 20000 in
theorem aw_369 : Cond.methodLink RX3 165 Lib.Math.max.name ∈ am_W := bw 369 rfl rfl
set_option maxRecDepth 20000 in
theorem aw_370 : Cond.static Lib.Math.max.name ∈ am_W := bw 370 rfl rfl
set_option maxRecDepth 20000 in
theorem aw_371 : Cond.code Lib.Math.max.name Lib.Math.max.code 2 (some .int) ∈ am_W := bw 371 rfl rfl
set_option maxRecDepth 20000 in
theorem aw_372 : Cond.methodLink RX3 144 yX3_numberThreadAt ∈ am_W := bw 372 rfl rfl
set_option maxRecDepth 20000 in
theorem aw_374 : Cond.instanceMethod yX3_numberThreadAt ∈ am_W := bw 374 rfl rfl
set_option maxRecDepth 20000 in
theorem aw_375 : Cond.code yX3_numberThreadAt cX3_numberThreadAt 4 none ∈ am_W := bw 375 rfl rfl
set_option maxRecDepth 20000 in
theorem aw_376 : Cond.methodLink RL 105 yX4_count ∈ am_W := bw 376 rfl rfl
set_option maxRecDepth 20000 in
theorem aw_377 : Cond.instanceMethod yX4_count ∈ am_W := bw 377 rfl rfl
set_option maxRecDepth 20000 in
theorem aw_378 : Cond.selects RX4 yX4_count yX4_count ∈ am_W := bw 378 rfl rfl
set_option maxRecDepth 20000 in
theorem aw_379 : Cond.code yX4_count cX4_count 2 (some .int) ∈ am_W := bw 379 rfl rfl
set_option maxRecDepth 20000 in
theorem aw_380 : Cond.methodLink RX4 161 yX3_beginnings ∈ am_W := bw 380 rfl rfl
set_option maxRecDepth 20000 in
theorem aw_381 : Cond.instanceMethod yX3_beginnings ∈ am_W := bw 381 rfl rfl
set_option maxRecDepth 20000 in
theorem aw_382 : Cond.selects RX3 yX3_beginnings yX3_beginnings ∈ am_W := bw 382 rfl rfl
set_option maxRecDepth 20000 in
theorem aw_383 : Cond.code yX3_beginnings cX3_beginnings 1 (some .int) ∈ am_W := bw 383 rfl rfl
set_option maxRecDepth 20000 in
theorem aw_384 : Cond.methodLink RX3 175 yX3_answersTo ∈ am_W := bw 384 rfl rfl
set_option maxRecDepth 20000 in
theorem aw_385 : Cond.instanceMethod yX3_answersTo ∈ am_W := bw 385 rfl rfl
set_option maxRecDepth 20000 in
theorem aw_386 : Cond.selects RX3 yX3_answersTo yX3_answersTo ∈ am_W := bw 386 rfl rfl
set_option maxRecDepth 20000 in
theorem aw_387 : Cond.code yX3_answersTo cX3_answersTo 4 (some .int) ∈ am_W := bw 387 rfl rfl
set_option maxRecDepth 20000 in
theorem aw_388 : Cond.methodLink RX4 164 yX3_allJoins ∈ am_W := bw 388 rfl rfl
set_option maxRecDepth 20000 in
theorem aw_389 : Cond.instanceMethod yX3_allJoins ∈ am_W := bw 389 rfl rfl
set_option maxRecDepth 20000 in
theorem aw_390 : Cond.selects RX3 yX3_allJoins yX3_allJoins ∈ am_W := bw 390 rfl rfl
set_option maxRecDepth 20000 in
theorem aw_391 : Cond.code yX3_allJoins cX3_allJoins 3 (some .int) ∈ am_W := bw 391 rfl rfl
set_option maxRecDepth 20000 in
theorem aw_392 : Cond.methodLink RX4 167 yX1_fixedLines ∈ am_W := bw 392 rfl rfl
set_option maxRecDepth 20000 in
theorem aw_393 : Cond.instanceMethod yX1_fixedLines ∈ am_W := bw 393 rfl rfl
set_option maxRecDepth 20000 in
theorem aw_394 : Cond.selects RX1 yX1_fixedLines yX1_fixedLines ∈ am_W := bw 394 rfl rfl
set_option maxRecDepth 20000 in
theorem aw_395 : Cond.code yX1_fixedLines cX1_fixedLines 3 (some .int) ∈ am_W := bw 395 rfl rfl
set_option maxRecDepth 20000 in
theorem aw_396 : Cond.methodLink RX1 86 yX1_countingFix ∈ am_W := bw 396 rfl rfl
set_option maxRecDepth 20000 in
theorem aw_397 : Cond.methodLink RL 119 yL_cell ∈ am_W := bw 397 rfl rfl
set_option maxRecDepth 20000 in
theorem aw_398 : Cond.static yL_cell ∈ am_W := bw 398 rfl rfl
set_option maxRecDepth 20000 in
theorem aw_399 : Cond.code yL_cell cL_cell 2 (some .int) ∈ am_W := bw 399 rfl rfl
set_option maxRecDepth 20000 in
theorem aw_400 : Cond.constant RL 7 (40503) ∈ am_W := bw 400 rfl rfl
set_option maxRecDepth 20000 in
theorem aw_401 : Cond.methodLink RL 49 yL_low ∈ am_W := bw 401 rfl rfl
set_option maxRecDepth 20000 in
theorem aw_402 : Cond.static yL_low ∈ am_W := bw 402 rfl rfl
set_option maxRecDepth 20000 in
theorem aw_403 : Cond.code yL_low cL_low 2 (some .int) ∈ am_W := bw 403 rfl rfl
set_option maxRecDepth 20000 in
theorem aw_404 : Cond.constant RL 8 (2147483647) ∈ am_W := bw 404 rfl rfl
set_option maxRecDepth 20000 in
theorem aw_405 : Cond.methodLink RL 123 yL_acts ∈ am_W := bw 405 rfl rfl
set_option maxRecDepth 20000 in
theorem aw_406 : Cond.static yL_acts ∈ am_W := bw 406 rfl rfl
set_option maxRecDepth 20000 in
theorem aw_407 : Cond.code yL_acts cL_acts 13 (some .boolean) ∈ am_W := bw 407 rfl rfl
set_option maxRecDepth 20000 in
theorem aw_408 : Cond.constant RL 48 (10000000) ∈ am_W := bw 408 rfl rfl
set_option maxRecDepth 20000 in
theorem aw_409 : Cond.methodLink RL 53 yL_has ∈ am_W := bw 409 rfl rfl
set_option maxRecDepth 20000 in
theorem aw_410 : Cond.static yL_has ∈ am_W := bw 410 rfl rfl
set_option maxRecDepth 20000 in
theorem aw_411 : Cond.code yL_has cL_has 6 (some .int) ∈ am_W := bw 411 rfl rfl
set_option maxRecDepth 20000 in
theorem aw_412 : Cond.methodLink RL 9 yL_name ∈ am_W := bw 412 rfl rfl
set_option maxRecDepth 20000 in
theorem aw_413 : Cond.static yL_name ∈ am_W := bw 413 rfl rfl
set_option maxRecDepth 20000 in
theorem aw_414 : Cond.code yL_name cL_name 5 (some .int) ∈ am_W := bw 414 rfl rfl
set_option maxRecDepth 20000 in
theorem aw_415 : Cond.methodLink RL 56 yX4_takes ∈ am_W := bw 415 rfl rfl
set_option maxRecDepth 20000 in
theorem aw_416 : Cond.instanceMethod yX4_takes ∈ am_W := bw 416 rfl rfl
set_option maxRecDepth 20000 in
theorem aw_417 : Cond.selects RX4 yX4_takes yX4_takes ∈ am_W := bw 417 rfl rfl
set_option maxRecDepth 20000 in
theorem aw_418 : Cond.code yX4_takes cX4_takes 5 (some .int) ∈ am_W := bw 418 rfl rfl
set_option maxRecDepth 20000 in
theorem aw_419 : Cond.methodLink RX4 61 yX1_lastTakeTime ∈ am_W := bw 419 rfl rfl
set_option maxRecDepth 20000 in
theorem aw_420 : Cond.instanceMethod yX1_lastTakeTime ∈ am_W := bw 420 rfl rfl
set_option maxRecDepth 20000 in
theorem aw_421 : Cond.selects RX1 yX1_lastTakeTime yX1_lastTakeTime ∈ am_W := bw 421 rfl rfl
set_option maxRecDepth 20000 in
theorem aw_422 : Cond.code yX1_lastTakeTime cX1_lastTakeTime 1 (some .int) ∈ am_W := bw 422 rfl rfl
set_option maxRecDepth 20000 in
theorem aw_423 : Cond.methodLink RX4 69 yX4_beginChange ∈ am_W := bw 423 rfl rfl
set_option maxRecDepth 20000 in
theorem aw_425 : Cond.instanceMethod yX4_beginChange ∈ am_W := bw 425 rfl rfl
set_option maxRecDepth 20000 in
theorem aw_426 : Cond.code yX4_beginChange cX4_beginChange 1 none ∈ am_W := bw 426 rfl rfl
set_option maxRecDepth 20000 in
theorem aw_427 : Cond.methodLink RX4 277 yX0_keep ∈ am_W := bw 427 rfl rfl
set_option maxRecDepth 20000 in
theorem aw_428 : Cond.instanceMethod yX0_keep ∈ am_W := bw 428 rfl rfl
set_option maxRecDepth 20000 in
theorem aw_429 : Cond.selects RX0 yX0_keep yX0_keep ∈ am_W := bw 429 rfl rfl
set_option maxRecDepth 20000 in
theorem aw_430 : Cond.code yX0_keep cX0_keep 3 none ∈ am_W := bw 430 rfl rfl
set_option maxRecDepth 20000 in
theorem aw_431 : Cond.methodLink RX0 22 yX0_dropOldest ∈ am_W := bw 431 rfl rfl
set_option maxRecDepth 20000 in
theorem aw_433 : Cond.instanceMethod yX0_dropOldest ∈ am_W := bw 433 rfl rfl
set_option maxRecDepth 20000 in
theorem aw_434 : Cond.code yX0_dropOldest cX0_dropOldest 3 none ∈ am_W := bw 434 rfl rfl
set_option maxRecDepth 20000 in
theorem aw_435 : Cond.methodLink RX0 25 yX1_copyFrom ∈ am_W := bw 435 rfl rfl
set_option maxRecDepth 20000 in
theorem aw_436 : Cond.instanceMethod yX1_copyFrom ∈ am_W := bw 436 rfl rfl
set_option maxRecDepth 20000 in
theorem aw_437 : Cond.selects RX1 yX1_copyFrom yX1_copyFrom ∈ am_W := bw 437 rfl rfl
set_option maxRecDepth 20000 in
theorem aw_438 : Cond.code yX1_copyFrom cX1_copyFrom 2 none ∈ am_W := bw 438 rfl rfl
set_option maxRecDepth 20000 in
theorem aw_439 : Cond.methodLink RX4 72 yX1_addTake ∈ am_W := bw 439 rfl rfl
set_option maxRecDepth 20000 in
theorem aw_440 : Cond.instanceMethod yX1_addTake ∈ am_W := bw 440 rfl rfl
set_option maxRecDepth 20000 in
theorem aw_441 : Cond.selects RX1 yX1_addTake yX1_addTake ∈ am_W := bw 441 rfl rfl
set_option maxRecDepth 20000 in
theorem aw_442 : Cond.code yX1_addTake cX1_addTake 4 none ∈ am_W := bw 442 rfl rfl
set_option maxRecDepth 20000 in
theorem aw_443 : Cond.constant RL 47 (100000) ∈ am_W := bw 443 rfl rfl
set_option maxRecDepth 20000 in
theorem aw_444 : Cond.methodLink RL 62 yX4_line ∈ am_W := bw 444 rfl rfl
set_option maxRecDepth 20000 in
theorem aw_445 : Cond.instanceMethod yX4_line ∈ am_W := bw 445 rfl rfl
set_option maxRecDepth 20000 in
theorem aw_446 : Cond.selects RX4 yX4_line yX4_line ∈ am_W := bw 446 rfl rfl
set_option maxRecDepth 20000 in
theorem aw_447 : Cond.code yX4_line cX4_line 5 (some .int) ∈ am_W := bw 447 rfl rfl
set_option maxRecDepth 20000 in
theorem aw_448 : Cond.methodLink RX4 83 yX4_isSet ∈ am_W := bw 448 rfl rfl
set_option maxRecDepth 20000 in
theorem aw_449 : Cond.static yX4_isSet ∈ am_W := bw 449 rfl rfl
set_option maxRecDepth 20000 in
theorem aw_450 : Cond.code yX4_isSet cX4_isSet 1 (some .boolean) ∈ am_W := bw 450 rfl rfl
set_option maxRecDepth 20000 in
theorem aw_451 : Cond.constant RX4 273 (65535) ∈ am_W := bw 451 rfl rfl
set_option maxRecDepth 20000 in
theorem aw_452 : Cond.methodLink RX4 89 yX1_addLine ∈ am_W := bw 452 rfl rfl
set_option maxRecDepth 20000 in
theorem aw_453 : Cond.instanceMethod yX1_addLine ∈ am_W := bw 453 rfl rfl
set_option maxRecDepth 20000 in
theorem aw_454 : Cond.selects RX1 yX1_addLine yX1_addLine ∈ am_W := bw 454 rfl rfl
set_option maxRecDepth 20000 in
theorem aw_455 : Cond.code yX1_addLine cX1_addLine 5 none ∈ am_W := bw 455 rfl rfl
set_option maxRecDepth 20000 in
theorem aw_456 : Cond.constant RL 66 (65536) ∈ am_W := bw 456 rfl rfl
set_option maxRecDepth 20000 in
theorem aw_457 : Cond.constant RL 67 (100001) ∈ am_W := bw 457 rfl rfl
set_option maxRecDepth 20000 in
theorem aw_458 : Cond.methodLink RL 68 yL_drops ∈ am_W := bw 458 rfl rfl
set_option maxRecDepth 20000 in
theorem aw_459 : Cond.static yL_drops ∈ am_W := bw 459 rfl rfl
set_option maxRecDepth 20000 in
theorem aw_460 : Cond.code yL_drops cL_drops 6 none ∈ am_W := bw 460 rfl rfl
set_option maxRecDepth 20000 in
theorem aw_461 : Cond.methodLink RL 72 yX4_drop ∈ am_W := bw 461 rfl rfl
set_option maxRecDepth 20000 in
theorem aw_462 : Cond.instanceMethod yX4_drop ∈ am_W := bw 462 rfl rfl
set_option maxRecDepth 20000 in
theorem aw_463 : Cond.selects RX4 yX4_drop yX4_drop ∈ am_W := bw 463 rfl rfl
set_option maxRecDepth 20000 in
theorem aw_464 : Cond.code yX4_drop cX4_drop 2 (some .int) ∈ am_W := bw 464 rfl rfl
set_option maxRecDepth 20000 in
theorem aw_465 : Cond.methodLink RX4 93 yX1_isLine ∈ am_W := bw 465 rfl rfl
set_option maxRecDepth 20000 in
theorem aw_466 : Cond.instanceMethod yX1_isLine ∈ am_W := bw 466 rfl rfl
set_option maxRecDepth 20000 in
theorem aw_467 : Cond.selects RX1 yX1_isLine yX1_isLine ∈ am_W := bw 467 rfl rfl
set_option maxRecDepth 20000 in
theorem aw_468 : Cond.code yX1_isLine cX1_isLine 2 (some .boolean) ∈ am_W := bw 468 rfl rfl
set_option maxRecDepth 20000 in
theorem aw_469 : Cond.methodLink RX4 96 yX1_removeLine ∈ am_W := bw 469 rfl rfl
set_option maxRecDepth 20000 in
theorem aw_470 : Cond.instanceMethod yX1_removeLine ∈ am_W := bw 470 rfl rfl
set_option maxRecDepth 20000 in
theorem aw_471 : Cond.selects RX1 yX1_removeLine yX1_removeLine ∈ am_W := bw 471 rfl rfl
set_option maxRecDepth 20000 in
theorem aw_472 : Cond.code yX1_removeLine cX1_removeLine 3 none ∈ am_W := bw 472 rfl rfl
set_option maxRecDepth 20000 in
theorem aw_473 : Cond.methodLink RX1 72 yX1_removeFix ∈ am_W := bw 473 rfl rfl
set_option maxRecDepth 20000 in
theorem aw_474 : Cond.instanceMethod yX1_removeFix ∈ am_W := bw 474 rfl rfl
set_option maxRecDepth 20000 in
theorem aw_475 : Cond.selects RX1 yX1_removeFix yX1_removeFix ∈ am_W := bw 475 rfl rfl
set_option maxRecDepth 20000 in
theorem aw_476 : Cond.code yX1_removeFix cX1_removeFix 3 none ∈ am_W := bw 476 rfl rfl
set_option maxRecDepth 20000 in
theorem aw_477 : Cond.methodLink RX1 76 yX1_numberWithout ∈ am_W := bw 477 rfl rfl
set_option maxRecDepth 20000 in
theorem aw_478 : Cond.static yX1_numberWithout ∈ am_W := bw 478 rfl rfl
set_option maxRecDepth 20000 in
theorem aw_479 : Cond.code yX1_numberWithout cX1_numberWithout 2 (some .int) ∈ am_W := bw 479 rfl rfl
set_option maxRecDepth 20000 in
theorem aw_480 : Cond.methodLink RL 23 yL_ahead ∈ am_W := bw 480 rfl rfl
set_option maxRecDepth 20000 in
theorem aw_481 : Cond.static yL_ahead ∈ am_W := bw 481 rfl rfl
set_option maxRecDepth 20000 in
theorem aw_482 : Cond.code yL_ahead cL_ahead 3 (some .boolean) ∈ am_W := bw 482 rfl rfl
set_option maxRecDepth 20000 in
theorem aw_483 : Cond.methodLink RL 19 yL_told ∈ am_W := bw 483 rfl rfl
set_option maxRecDepth 20000 in
theorem aw_484 : Cond.static yL_told ∈ am_W := bw 484 rfl rfl
set_option maxRecDepth 20000 in
theorem aw_485 : Cond.code yL_told cL_told 7 (some .int) ∈ am_W := bw 485 rfl rfl
set_option maxRecDepth 20000 in
theorem aw_486 : Cond.methodLink RL 76 yX4_correct ∈ am_W := bw 486 rfl rfl
set_option maxRecDepth 20000 in
theorem aw_487 : Cond.instanceMethod yX4_correct ∈ am_W := bw 487 rfl rfl
set_option maxRecDepth 20000 in
theorem aw_488 : Cond.selects RX4 yX4_correct yX4_correct ∈ am_W := bw 488 rfl rfl
set_option maxRecDepth 20000 in
theorem aw_489 : Cond.code yX4_correct cX4_correct 5 (some .int) ∈ am_W := bw 489 rfl rfl
set_option maxRecDepth 20000 in
theorem aw_490 : Cond.methodLink RX4 180 yX1_canBeFixed ∈ am_W := bw 490 rfl rfl
set_option maxRecDepth 20000 in
theorem aw_491 : Cond.instanceMethod yX1_canBeFixed ∈ am_W := bw 491 rfl rfl
set_option maxRecDepth 20000 in
theorem aw_492 : Cond.selects RX1 yX1_canBeFixed yX1_canBeFixed ∈ am_W := bw 492 rfl rfl
set_option maxRecDepth 20000 in
theorem aw_493 : Cond.code yX1_canBeFixed cX1_canBeFixed 4 (some .boolean) ∈ am_W := bw 493 rfl rfl
set_option maxRecDepth 20000 in
theorem aw_494 : Cond.methodLink RX1 79 yX1_isEarlier ∈ am_W := bw 494 rfl rfl
set_option maxRecDepth 20000 in
theorem aw_495 : Cond.instanceMethod yX1_isEarlier ∈ am_W := bw 495 rfl rfl
set_option maxRecDepth 20000 in
theorem aw_496 : Cond.selects RX1 yX1_isEarlier yX1_isEarlier ∈ am_W := bw 496 rfl rfl
set_option maxRecDepth 20000 in
theorem aw_497 : Cond.code yX1_isEarlier cX1_isEarlier 3 (some .boolean) ∈ am_W := bw 497 rfl rfl
set_option maxRecDepth 20000 in
theorem aw_498 : Cond.methodLink RX1 82 yX1_fixLike ∈ am_W := bw 498 rfl rfl
set_option maxRecDepth 20000 in
theorem aw_499 : Cond.instanceMethod yX1_fixLike ∈ am_W := bw 499 rfl rfl
set_option maxRecDepth 20000 in
theorem aw_500 : Cond.selects RX1 yX1_fixLike yX1_fixLike ∈ am_W := bw 500 rfl rfl
set_option maxRecDepth 20000 in
theorem aw_501 : Cond.code yX1_fixLike cX1_fixLike 5 (some .int) ∈ am_W := bw 501 rfl rfl
set_option maxRecDepth 20000 in
theorem aw_502 : Cond.methodLink RX4 184 yX1_addFix ∈ am_W := bw 502 rfl rfl
set_option maxRecDepth 20000 in
theorem aw_503 : Cond.instanceMethod yX1_addFix ∈ am_W := bw 503 rfl rfl
set_option maxRecDepth 20000 in
theorem aw_504 : Cond.selects RX1 yX1_addFix yX1_addFix ∈ am_W := bw 504 rfl rfl
set_option maxRecDepth 20000 in
theorem aw_505 : Cond.code yX1_addFix cX1_addFix 4 none ∈ am_W := bw 505 rfl rfl
set_option maxRecDepth 20000 in
theorem aw_506 : Cond.methodLink RL 79 yX4_withdraw ∈ am_W := bw 506 rfl rfl
set_option maxRecDepth 20000 in
theorem aw_507 : Cond.instanceMethod yX4_withdraw ∈ am_W := bw 507 rfl rfl
set_option maxRecDepth 20000 in
theorem aw_508 : Cond.selects RX4 yX4_withdraw yX4_withdraw ∈ am_W := bw 508 rfl rfl
set_option maxRecDepth 20000 in
theorem aw_509 : Cond.code yX4_withdraw cX4_withdraw 2 (some .int) ∈ am_W := bw 509 rfl rfl
set_option maxRecDepth 20000 in
theorem aw_510 : Cond.methodLink RX4 187 yX1_isFix ∈ am_W := bw 510 rfl rfl
set_option maxRecDepth 20000 in
theorem aw_511 : Cond.instanceMethod yX1_isFix ∈ am_W := bw 511 rfl rfl
set_option maxRecDepth 20000 in
theorem aw_512 : Cond.selects RX1 yX1_isFix yX1_isFix ∈ am_W := bw 512 rfl rfl
set_option maxRecDepth 20000 in
theorem aw_513 : Cond.code yX1_isFix cX1_isFix 2 (some .boolean) ∈ am_W := bw 513 rfl rfl
set_option maxRecDepth 20000 in
theorem aw_514 : Cond.methodLink RX4 190 yX1_removeFix ∈ am_W := bw 514 rfl rfl
set_option maxRecDepth 20000 in
theorem aw_515 : Cond.methodLink RL 82 yL_goes ∈ am_W := bw 515 rfl rfl
set_option maxRecDepth 20000 in
theorem aw_516 : Cond.static yL_goes ∈ am_W := bw 516 rfl rfl
set_option maxRecDepth 20000 in
theorem aw_517 : Cond.code yL_goes cL_goes 4 none ∈ am_W := bw 517 rfl rfl
set_option maxRecDepth 20000 in
theorem aw_518 : Cond.methodLink RL 86 yL_top ∈ am_W := bw 518 rfl rfl
set_option maxRecDepth 20000 in
theorem aw_519 : Cond.static yL_top ∈ am_W := bw 519 rfl rfl
set_option maxRecDepth 20000 in
theorem aw_520 : Cond.code yL_top cL_top 1 (some .int) ∈ am_W := bw 520 rfl rfl
set_option maxRecDepth 20000 in
theorem aw_521 : Cond.methodLink RL 89 yX4_set ∈ am_W := bw 521 rfl rfl
set_option maxRecDepth 20000 in
theorem aw_522 : Cond.instanceMethod yX4_set ∈ am_W := bw 522 rfl rfl
set_option maxRecDepth 20000 in
theorem aw_523 : Cond.selects RX4 yX4_set yX4_set ∈ am_W := bw 523 rfl rfl
set_option maxRecDepth 20000 in
theorem aw_524 : Cond.code yX4_set cX4_set 4 (some .int) ∈ am_W := bw 524 rfl rfl
set_option maxRecDepth 20000 in
theorem aw_525 : Cond.methodLink RX4 152 yX4_isSettingValue ∈ am_W := bw 525 rfl rfl
set_option maxRecDepth 20000 in
theorem aw_526 : Cond.static yX4_isSettingValue ∈ am_W := bw 526 rfl rfl
set_option maxRecDepth 20000 in
theorem aw_527 : Cond.code yX4_isSettingValue cX4_isSettingValue 2 (some .boolean) ∈ am_W := bw 527 rfl rfl
set_option maxRecDepth 20000 in
theorem aw_528 : Cond.fieldLink RX4 274 "ChatThreads" "LEAST_VALUES" "[I" ∈ am_W := bw 528 rfl rfl
set_option maxRecDepth 20000 in
theorem aw_530 : Cond.fieldLink RX4 247 "ChatThreads" "GREATEST_VALUES" "[I" ∈ am_W := bw 530 rfl rfl
set_option maxRecDepth 20000 in
theorem aw_532 : Cond.methodLink RL 115 yL_isSo ∈ am_W := bw 532 rfl rfl
set_option maxRecDepth 20000 in
theorem aw_533 : Cond.static yL_isSo ∈ am_W := bw 533 rfl rfl
set_option maxRecDepth 20000 in
theorem aw_534 : Cond.code yL_isSo cL_isSo 19 (some .boolean) ∈ am_W := bw 534 rfl rfl
set_option maxRecDepth 20000 in
theorem aw_535 : Cond.methodLink RL 92 yL_lays ∈ am_W := bw 535 rfl rfl
set_option maxRecDepth 20000 in
theorem aw_536 : Cond.static yL_lays ∈ am_W := bw 536 rfl rfl
set_option maxRecDepth 20000 in
theorem aw_537 : Cond.code yL_lays cL_lays 18 (some .int) ∈ am_W := bw 537 rfl rfl
set_option maxRecDepth 20000 in
theorem aw_538 : Cond.methodLink RL 39 yL_orders ∈ am_W := bw 538 rfl rfl
set_option maxRecDepth 20000 in
theorem aw_539 : Cond.static yL_orders ∈ am_W := bw 539 rfl rfl
set_option maxRecDepth 20000 in
theorem aw_540 : Cond.code yL_orders cL_orders 6 none ∈ am_W := bw 540 rfl rfl
set_option maxRecDepth 20000 in
theorem aw_541 : Cond.methodLink RL 43 yL_answer ∈ am_W := bw 541 rfl rfl
set_option maxRecDepth 20000 in
theorem aw_542 : Cond.static yL_answer ∈ am_W := bw 542 rfl rfl
set_option maxRecDepth 20000 in
theorem aw_543 : Cond.code yL_answer cL_answer 10 (some .int) ∈ am_W := bw 543 rfl rfl
set_option maxRecDepth 20000 in
theorem aw_544 : Cond.methodLink RL 31 yL_counts ∈ am_W := bw 544 rfl rfl
set_option maxRecDepth 20000 in
theorem aw_545 : Cond.static yL_counts ∈ am_W := bw 545 rfl rfl
set_option maxRecDepth 20000 in
theorem aw_546 : Cond.code yL_counts cL_counts 4 (some .int) ∈ am_W := bw 546 rfl rfl
set_option maxRecDepth 20000 in
theorem aw_547 : Cond.methodLink RL 35 yL_might ∈ am_W := bw 547 rfl rfl
set_option maxRecDepth 20000 in
theorem aw_548 : Cond.static yL_might ∈ am_W := bw 548 rfl rfl
set_option maxRecDepth 20000 in
theorem aw_549 : Cond.code yL_might cL_might 8 (some .boolean) ∈ am_W := bw 549 rfl rfl
set_option maxRecDepth 20000 in
theorem aw_550 : Cond.methodLink RL 27 yL_score ∈ am_W := bw 550 rfl rfl
set_option maxRecDepth 20000 in
theorem aw_551 : Cond.static yL_score ∈ am_W := bw 551 rfl rfl
set_option maxRecDepth 20000 in
theorem aw_552 : Cond.code yL_score cL_score 8 (some .int) ∈ am_W := bw 552 rfl rfl
set_option maxRecDepth 20000 in
theorem aw_553 : Cond.methodLink RL 15 yL_speaks ∈ am_W := bw 553 rfl rfl
set_option maxRecDepth 20000 in
theorem aw_554 : Cond.static yL_speaks ∈ am_W := bw 554 rfl rfl
set_option maxRecDepth 20000 in
theorem aw_555 : Cond.code yL_speaks cL_speaks 6 (some .boolean) ∈ am_W := bw 555 rfl rfl
set_option maxRecDepth 20000 in
theorem aw_556 : Cond.methodLink RL 99 yX4_lineOf ∈ am_W := bw 556 rfl rfl
set_option maxRecDepth 20000 in
theorem aw_557 : Cond.instanceMethod yX4_lineOf ∈ am_W := bw 557 rfl rfl
set_option maxRecDepth 20000 in
theorem aw_558 : Cond.selects RX4 yX4_lineOf yX4_lineOf ∈ am_W := bw 558 rfl rfl
set_option maxRecDepth 20000 in
theorem aw_559 : Cond.code yX4_lineOf cX4_lineOf 3 (some .int) ∈ am_W := bw 559 rfl rfl
set_option maxRecDepth 20000 in
theorem aw_560 : Cond.methodLink RX4 129 yX3_answersTo ∈ am_W := bw 560 rfl rfl
set_option maxRecDepth 20000 in
theorem aw_561 : Cond.methodLink RL 102 yX4_correction ∈ am_W := bw 561 rfl rfl
set_option maxRecDepth 20000 in
theorem aw_562 : Cond.instanceMethod yX4_correction ∈ am_W := bw 562 rfl rfl
set_option maxRecDepth 20000 in
theorem aw_563 : Cond.selects RX4 yX4_correction yX4_correction ∈ am_W := bw 563 rfl rfl
set_option maxRecDepth 20000 in
theorem aw_564 : Cond.code yX4_correction cX4_correction 3 (some .int) ∈ am_W := bw 564 rfl rfl
set_option maxRecDepth 20000 in
theorem aw_565 : Cond.methodLink RX4 202 yX3_fixMatters ∈ am_W := bw 565 rfl rfl
set_option maxRecDepth 20000 in
theorem aw_566 : Cond.instanceMethod yX3_fixMatters ∈ am_W := bw 566 rfl rfl
set_option maxRecDepth 20000 in
theorem aw_567 : Cond.selects RX3 yX3_fixMatters yX3_fixMatters ∈ am_W := bw 567 rfl rfl
set_option maxRecDepth 20000 in
theorem aw_568 : Cond.code yX3_fixMatters cX3_fixMatters 4 (some .boolean) ∈ am_W := bw 568 rfl rfl
set_option maxRecDepth 20000 in
theorem aw_569 : Cond.methodLink RL 128 yL_areNamed ∈ am_W := bw 569 rfl rfl
set_option maxRecDepth 20000 in
theorem aw_570 : Cond.static yL_areNamed ∈ am_W := bw 570 rfl rfl
set_option maxRecDepth 20000 in
theorem aw_571 : Cond.code yL_areNamed cL_areNamed 7 (some .boolean) ∈ am_W := bw 571 rfl rfl
set_option maxRecDepth 20000 in
theorem aw_572 : Cond.constant RL 127 (1000000) ∈ am_W := bw 572 rfl rfl
theorem iw_X0 : ∀ w ∈ u_ws RX0 TX0 2, w ∈ am_W := by
  intro w hw
  obtain ⟨k, hk, rfl⟩ := List.mem_map.mp hw
  have hk := List.mem_range.mp hk
  match k, hk with
  | 0, _ => exact aw_186
  | 1, _ => exact aw_188
  | k + 2, h => exact absurd h (by omega)
theorem iw_X1 : ∀ w ∈ u_ws RX1 TX1 14, w ∈ am_W := by
  intro w hw
  obtain ⟨k, hk, rfl⟩ := List.mem_map.mp hw
  have hk := List.mem_range.mp hk
  match k, hk with
  | 0, _ => exact aw_84
  | 1, _ => exact aw_86
  | 2, _ => exact aw_88
  | 3, _ => exact aw_90
  | 4, _ => exact aw_92
  | 5, _ => exact aw_94
  | 6, _ => exact aw_96
  | 7, _ => exact aw_98
  | 8, _ => exact aw_100
  | 9, _ => exact aw_102
  | 10, _ => exact aw_104
  | 11, _ => exact aw_106
  | 12, _ => exact aw_108
  | 13, _ => exact aw_110
  | k + 14, h => exact absurd h (by omega)
theorem iw_X2 : ∀ w ∈ u_ws RX2 TX2 8, w ∈ am_W := by
  intro w hw
  obtain ⟨k, hk, rfl⟩ := List.mem_map.mp hw
  have hk := List.mem_range.mp hk
  match k, hk with
  | 0, _ => exact aw_206
  | 1, _ => exact aw_208
  | 2, _ => exact aw_210
  | 3, _ => exact aw_212
  | 4, _ => exact aw_214
  | 5, _ => exact aw_216
  | 6, _ => exact aw_218
  | 7, _ => exact aw_220
  | k + 8, h => exact absurd h (by omega)
theorem iw_X3 : ∀ w ∈ u_ws RX3 TX3 17, w ∈ am_W := by
  intro w hw
  obtain ⟨k, hk, rfl⟩ := List.mem_map.mp hw
  have hk := List.mem_range.mp hk
  match k, hk with
  | 0, _ => exact aw_139
  | 1, _ => exact aw_141
  | 2, _ => exact aw_143
  | 3, _ => exact aw_145
  | 4, _ => exact aw_147
  | 5, _ => exact aw_149
  | 6, _ => exact aw_151
  | 7, _ => exact aw_153
  | 8, _ => exact aw_155
  | 9, _ => exact aw_157
  | 10, _ => exact aw_159
  | 11, _ => exact aw_161
  | 12, _ => exact aw_163
  | 13, _ => exact aw_165
  | 14, _ => exact aw_167
  | 15, _ => exact aw_169
  | 16, _ => exact aw_171
  | k + 17, h => exact absurd h (by omega)
theorem iw_X4 : ∀ w ∈ u_ws RX4 TX4 7, w ∈ am_W := by
  intro w hw
  obtain ⟨k, hk, rfl⟩ := List.mem_map.mp hw
  have hk := List.mem_range.mp hk
  match k, hk with
  | 0, _ => exact aw_231
  | 1, _ => exact aw_233
  | 2, _ => exact aw_235
  | 3, _ => exact aw_237
  | 4, _ => exact aw_239
  | 5, _ => exact aw_241
  | 6, _ => exact aw_243
  | k + 7, h => exact absurd h (by omega)
