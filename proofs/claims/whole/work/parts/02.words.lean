/-- the tables' words that every method takes along -/
def am_W : List Cond := lw_tbl.filter goodWord
theorem am_W_tbl : ∀ w ∈ am_W, w ∈ lw_tbl := fun _ h => (List.mem_filter.mp h).1
theorem am_W_good : GoodIn am_W am_W := fun w h => ⟨h, good_of_word (List.mem_filter.mp h).2⟩
theorem bw {x : Cond} (i : Nat) (h : lw_tbl[i]? = some x) (g : goodWord x = true) : x ∈ am_W := List.mem_filter.mpr ⟨List.mem_of_getElem? h, g⟩
theorem aw_0 : Cond.selects RX4 yX4_beginChange yX4_beginChange ∈ am_W := bw 0 rfl rfl
theorem aw_1 : Cond.selects RX0 yX0_dropOldest yX0_dropOldest ∈ am_W := bw 1 rfl rfl
theorem aw_2 : Cond.selects RX4 yX4_currentThreads yX4_currentThreads ∈ am_W := bw 2 rfl rfl
theorem aw_3 : Cond.selects RX3 yX3_putInOrder yX3_putInOrder ∈ am_W := bw 3 rfl rfl
theorem aw_4 : Cond.selects RX3 yX3_rate yX3_rate ∈ am_W := bw 4 rfl rfl
theorem aw_5 : Cond.selects RX3 yX3_speaksTo yX3_speaksTo ∈ am_W := bw 5 rfl rfl
theorem aw_6 : Cond.selects RX3 yX3_choicesFor yX3_choicesFor ∈ am_W := bw 6 rfl rfl
theorem aw_7 : Cond.selects RX3 yX3_isInWindow yX3_isInWindow ∈ am_W := bw 7 rfl rfl
theorem aw_8 : Cond.selects RX3 yX3_bestOf yX3_bestOf ∈ am_W := bw 8 rfl rfl
theorem aw_9 : Cond.selects RX3 yX3_rivalsFor yX3_rivalsFor ∈ am_W := bw 9 rfl rfl
theorem aw_10 : Cond.selects RX3 yX3_addToThread yX3_addToThread ∈ am_W := bw 10 rfl rfl
theorem aw_11 : Cond.selects RX3 yX3_answerOf yX3_answerOf ∈ am_W := bw 11 rfl rfl
theorem aw_12 : Cond.selects RX3 yX3_isPassed yX3_isPassed ∈ am_W := bw 12 rfl rfl
theorem aw_13 : Cond.selects RX3 yX3_joinRivals yX3_joinRivals ∈ am_W := bw 13 rfl rfl
theorem aw_14 : Cond.selects RX3 yX3_join yX3_join ∈ am_W := bw 14 rfl rfl
theorem aw_15 : Cond.selects RX3 yX3_numberThreadAt yX3_numberThreadAt ∈ am_W := bw 15 rfl rfl
theorem aw_16 : Cond.selects RX3 yX3_isBusier yX3_isBusier ∈ am_W := bw 16 rfl rfl
theorem aw_17 : Cond.selects RX4 yX4_otherThreadCount yX4_otherThreadCount ∈ am_W := bw 17 rfl rfl
theorem aw_18 : Cond.selects RX2 yX2_readEntry yX2_readEntry ∈ am_W := bw 18 rfl rfl
theorem aw_19 : Cond.selects RX2 yX2_numbersDue yX2_numbersDue ∈ am_W := bw 19 rfl rfl
theorem aw_20 : Cond.selects RX2 yX2_readNumber yX2_readNumber ∈ am_W := bw 20 rfl rfl
theorem aw_21 : Cond.selects RX2 yX2_entryFault yX2_entryFault ∈ am_W := bw 21 rfl rfl
theorem aw_22 : Cond.selects RX2 yX2_lineFault yX2_lineFault ∈ am_W := bw 22 rfl rfl
theorem aw_23 : Cond.selects RX2 yX2_kindOfFix yX2_kindOfFix ∈ am_W := bw 23 rfl rfl
theorem aw_24 : Cond.selects RX2 yX2_earlierOfFix yX2_earlierOfFix ∈ am_W := bw 24 rfl rfl
theorem aw_25 : Cond.selects RX2 yX2_doEntry yX2_doEntry ∈ am_W := bw 25 rfl rfl
theorem aw_26 : Cond.selects RX5 yX5_changes yX5_changes ∈ am_W := bw 26 rfl rfl
theorem aw_27 : Cond.selects RX5 yX5_adds yX5_adds ∈ am_W := bw 27 rfl rfl
theorem aw_28 : Cond.selects RX5 yX5_isLine yX5_isLine ∈ am_W := bw 28 rfl rfl
theorem aw_29 : Cond.selects RX5 yX5_lays yX5_lays ∈ am_W := bw 29 rfl rfl
theorem aw_30 : Cond.selects RX5 yX5_laysScores yX5_laysScores ∈ am_W := bw 30 rfl rfl
theorem aw_31 : Cond.selects RX5 yX5_laysOrder yX5_laysOrder ∈ am_W := bw 31 rfl rfl
theorem aw_32 : Cond.selects RX5 yX5_scoreOf yX5_scoreOf ∈ am_W := bw 32 rfl rfl
theorem aw_33 : Cond.selects RX5 yX5_laysThreads yX5_laysThreads ∈ am_W := bw 33 rfl rfl
theorem aw_34 : Cond.selects RX5 yX5_answerOf yX5_answerOf ∈ am_W := bw 34 rfl rfl
theorem aw_35 : Cond.selects RX5 yX5_might yX5_might ∈ am_W := bw 35 rfl rfl
theorem aw_36 : Cond.selects RX5 yX5_joins yX5_joins ∈ am_W := bw 36 rfl rfl
theorem aw_37 : Cond.selects RX5 yX5_speaksToBoth yX5_speaksToBoth ∈ am_W := bw 37 rfl rfl
theorem aw_38 : Cond.selects RX5 yX5_unites yX5_unites ∈ am_W := bw 38 rfl rfl
theorem aw_39 : Cond.selects RX5 yX5_answeredBy yX5_answeredBy ∈ am_W := bw 39 rfl rfl
theorem aw_40 : Cond.selects RX5 yX5_reasonOf yX5_reasonOf ∈ am_W := bw 40 rfl rfl
theorem aw_41 : Cond.selects RX5 yX5_sumOf yX5_sumOf ∈ am_W := bw 41 rfl rfl
theorem aw_42 : Cond.selects RX5 yX5_canTell yX5_canTell ∈ am_W := bw 42 rfl rfl
theorem aw_43 : Cond.selects RX5 yX5_isEarlier yX5_isEarlier ∈ am_W := bw 43 rfl rfl
theorem aw_44 : Cond.selects RX5 yX5_tells yX5_tells ∈ am_W := bw 44 rfl rfl
theorem aw_45 : Cond.selects RX5 yX5_doesCount yX5_doesCount ∈ am_W := bw 45 rfl rfl
theorem aw_46 : Cond.selects RX5 yX5_laysRow yX5_laysRow ∈ am_W := bw 46 rfl rfl
theorem aw_47 : Cond.selects RX5 yX5_writers yX5_writers ∈ am_W := bw 47 rfl rfl
theorem aw_48 : Cond.selects RX5 yX5_widest yX5_widest ∈ am_W := bw 48 rfl rfl
theorem aw_49 : Cond.selects RX5 yX5_longest yX5_longest ∈ am_W := bw 49 rfl rfl
theorem aw_50 : Cond.selects RX5 yX5_weightOf yX5_weightOf ∈ am_W := bw 50 rfl rfl
theorem aw_51 : Cond.selects RX5 yX5_answersOf yX5_answersOf ∈ am_W := bw 51 rfl rfl
theorem aw_52 : Cond.selects RX5 yX5_begins yX5_begins ∈ am_W := bw 52 rfl rfl
theorem aw_53 : Cond.selects RX5 yX5_doesAll yX5_doesAll ∈ am_W := bw 53 rfl rfl
theorem aw_54 : Cond.selects RX5 yX5_does yX5_does ∈ am_W := bw 54 rfl rfl
theorem aw_55 : Cond.selects RX5 yX5_isEntry yX5_isEntry ∈ am_W := bw 55 rfl rfl
theorem aw_56 : Cond.selects RX5 yX5_isNumber yX5_isNumber ∈ am_W := bw 56 rfl rfl
theorem aw_57 : Cond.selects RX5 yX5_letsBack yX5_letsBack ∈ am_W := bw 57 rfl rfl
theorem aw_58 : Cond.initialized RL ∈ am_W := bw 58 rfl rfl
theorem aw_59 : Cond.initialized RX4 ∈ am_W := bw 59 rfl rfl
theorem aw_60 : Cond.initialized RX3 ∈ am_W := bw 60 rfl rfl
theorem aw_61 : Cond.initialized RX1 ∈ am_W := bw 61 rfl rfl
theorem aw_62 : Cond.initialized RJ10 ∈ am_W := bw 62 rfl rfl
theorem aw_63 : Cond.initialized RX0 ∈ am_W := bw 63 rfl rfl
theorem aw_64 : Cond.initialized RX2 ∈ am_W := bw 64 rfl rfl
theorem aw_65 : Cond.initialized RX5 ∈ am_W := bw 65 rfl rfl
theorem aw_66 : Cond.initialized RJ6 ∈ am_W := bw 66 rfl rfl
theorem aw_67 : Cond.initialized RJ9 ∈ am_W := bw 67 rfl rfl
theorem aw_68 : Cond.classLink RL 7 RX4 ∈ am_W := bw 68 rfl rfl
theorem aw_69 : Cond.instantiable RX4 7 ∈ am_W := bw 69 rfl rfl
theorem aw_70 : Cond.methodLink RL 9 yX4_init ∈ am_W := bw 70 rfl rfl
theorem aw_71 : Cond.instanceMethod yX4_init ∈ am_W := bw 71 rfl rfl
theorem aw_72 : Cond.code yX4_init cX4_init 1 none ∈ am_W := bw 72 rfl rfl
theorem aw_73 : Cond.methodLink RX4 1 objectInit ∈ am_W := bw 73 rfl rfl
theorem aw_74 : Cond.instanceMethod objectInit ∈ am_W := bw 74 rfl rfl
theorem aw_75 : Cond.code objectInit ⟨#[0xb1]⟩ 1 none ∈ am_W := bw 75 rfl rfl
theorem aw_76 : Cond.classLink RX4 7 RX3 ∈ am_W := bw 76 rfl rfl
theorem aw_77 : Cond.instantiable RX3 17 ∈ am_W := bw 77 rfl rfl
theorem aw_79 : Cond.instanceMethod yX3_init ∈ am_W := bw 79 rfl rfl
theorem aw_80 : Cond.code yX3_init cX3_init 1 none ∈ am_W := bw 80 rfl rfl
theorem aw_81 : Cond.methodLink RX3 3 objectInit ∈ am_W := bw 81 rfl rfl
theorem aw_82 : Cond.classLink RX3 9 RX1 ∈ am_W := bw 82 rfl rfl
theorem aw_83 : Cond.instantiable RX1 14 ∈ am_W := bw 83 rfl rfl
theorem aw_84 : Cond.methodLink RX3 11 yX1_init ∈ am_W := bw 84 rfl rfl
theorem aw_85 : Cond.instanceMethod yX1_init ∈ am_W := bw 85 rfl rfl
theorem aw_86 : Cond.code yX1_init cX1_init 1 none ∈ am_W := bw 86 rfl rfl
theorem aw_87 : Cond.methodLink RX1 3 objectInit ∈ am_W := bw 87 rfl rfl
theorem aw_90 : Cond.methodLink RX1 58 arraycopyName ∈ am_W := bw 90 rfl rfl
theorem aw_91 : Cond.static arraycopyName ∈ am_W := bw 91 rfl rfl
theorem aw_92 : Cond.native arraycopyName ∈ am_W := bw 92 rfl rfl
theorem aw_93 : Cond.fieldLink RX1 9 "ChatThreads$Log" "takeCount" "I" ∈ am_W := bw 93 rfl rfl
theorem aw_94 : Cond.fieldLink RX4 65 "ChatThreads$Log" "takeCount" "I" ∈ am_W := bw 94 rfl rfl
theorem aw_95 : Cond.fieldLink RX1 15 "ChatThreads$Log" "takers" "[I" ∈ am_W := bw 95 rfl rfl
theorem aw_96 : Cond.fieldLink RX1 19 "ChatThreads$Log" "takenNames" "[I" ∈ am_W := bw 96 rfl rfl
theorem aw_97 : Cond.fieldLink RX1 22 "ChatThreads$Log" "takeTimes" "[I" ∈ am_W := bw 97 rfl rfl
theorem aw_98 : Cond.fieldLink RX1 25 "ChatThreads$Log" "lineCount" "I" ∈ am_W := bw 98 rfl rfl
theorem aw_99 : Cond.fieldLink RX3 71 "ChatThreads$Log" "lineCount" "I" ∈ am_W := bw 99 rfl rfl
theorem aw_100 : Cond.fieldLink RX4 86 "ChatThreads$Log" "lineCount" "I" ∈ am_W := bw 100 rfl rfl
theorem aw_101 : Cond.fieldLink RX2 89 "ChatThreads$Log" "lineCount" "I" ∈ am_W := bw 101 rfl rfl
theorem aw_102 : Cond.fieldLink RX1 28 "ChatThreads$Log" "times" "[I" ∈ am_W := bw 102 rfl rfl
theorem aw_103 : Cond.fieldLink RX3 95 "ChatThreads$Log" "times" "[I" ∈ am_W := bw 103 rfl rfl
theorem aw_104 : Cond.fieldLink RX4 103 "ChatThreads$Log" "times" "[I" ∈ am_W := bw 104 rfl rfl
theorem aw_105 : Cond.fieldLink RX1 31 "ChatThreads$Log" "writers" "[I" ∈ am_W := bw 105 rfl rfl
theorem aw_106 : Cond.fieldLink RX3 98 "ChatThreads$Log" "writers" "[I" ∈ am_W := bw 106 rfl rfl
theorem aw_107 : Cond.fieldLink RX4 107 "ChatThreads$Log" "writers" "[I" ∈ am_W := bw 107 rfl rfl
theorem aw_108 : Cond.fieldLink RX1 34 "ChatThreads$Log" "names" "[I" ∈ am_W := bw 108 rfl rfl
theorem aw_109 : Cond.fieldLink RX4 110 "ChatThreads$Log" "names" "[I" ∈ am_W := bw 109 rfl rfl
theorem aw_110 : Cond.fieldLink RX1 37 "ChatThreads$Log" "words" "[I" ∈ am_W := bw 110 rfl rfl
theorem aw_111 : Cond.fieldLink RX3 108 "ChatThreads$Log" "words" "[I" ∈ am_W := bw 111 rfl rfl
theorem aw_112 : Cond.fieldLink RX4 113 "ChatThreads$Log" "words" "[I" ∈ am_W := bw 112 rfl rfl
theorem aw_113 : Cond.fieldLink RX1 40 "ChatThreads$Log" "fixCount" "I" ∈ am_W := bw 113 rfl rfl
theorem aw_114 : Cond.fieldLink RX4 100 "ChatThreads$Log" "fixCount" "I" ∈ am_W := bw 114 rfl rfl
theorem aw_115 : Cond.fieldLink RX2 77 "ChatThreads$Log" "fixCount" "I" ∈ am_W := bw 115 rfl rfl
theorem aw_116 : Cond.fieldLink RX3 125 "ChatThreads$Log" "fixCount" "I" ∈ am_W := bw 116 rfl rfl
theorem aw_117 : Cond.fieldLink RX1 43 "ChatThreads$Log" "fixKinds" "[I" ∈ am_W := bw 117 rfl rfl
theorem aw_118 : Cond.fieldLink RX3 128 "ChatThreads$Log" "fixKinds" "[I" ∈ am_W := bw 118 rfl rfl
theorem aw_119 : Cond.fieldLink RX4 193 "ChatThreads$Log" "fixKinds" "[I" ∈ am_W := bw 119 rfl rfl
theorem aw_120 : Cond.fieldLink RX1 46 "ChatThreads$Log" "fixLines" "[I" ∈ am_W := bw 120 rfl rfl
theorem aw_121 : Cond.fieldLink RX3 131 "ChatThreads$Log" "fixLines" "[I" ∈ am_W := bw 121 rfl rfl
theorem aw_122 : Cond.fieldLink RX4 196 "ChatThreads$Log" "fixLines" "[I" ∈ am_W := bw 122 rfl rfl
theorem aw_123 : Cond.fieldLink RX1 49 "ChatThreads$Log" "fixEarlier" "[I" ∈ am_W := bw 123 rfl rfl
theorem aw_124 : Cond.fieldLink RX3 134 "ChatThreads$Log" "fixEarlier" "[I" ∈ am_W := bw 124 rfl rfl
theorem aw_125 : Cond.fieldLink RX4 199 "ChatThreads$Log" "fixEarlier" "[I" ∈ am_W := bw 125 rfl rfl
theorem aw_126 : Cond.fieldLink RX1 52 "ChatThreads$Log" "settings" "[I" ∈ am_W := bw 126 rfl rfl
theorem aw_127 : Cond.fieldLink RX3 105 "ChatThreads$Log" "settings" "[I" ∈ am_W := bw 127 rfl rfl
theorem aw_128 : Cond.fieldLink RX4 155 "ChatThreads$Log" "settings" "[I" ∈ am_W := bw 128 rfl rfl
theorem aw_129 : Cond.lays RX1 "ChatThreads$Log" "takeCount" "I" ∈ am_W := bw 129 rfl rfl
theorem aw_131 : Cond.laysFinal RX1 "ChatThreads$Log" "takers" "[I" ∈ am_W := bw 131 rfl rfl
theorem aw_133 : Cond.laysFinal RX1 "ChatThreads$Log" "takenNames" "[I" ∈ am_W := bw 133 rfl rfl
theorem aw_135 : Cond.laysFinal RX1 "ChatThreads$Log" "takeTimes" "[I" ∈ am_W := bw 135 rfl rfl
theorem aw_137 : Cond.lays RX1 "ChatThreads$Log" "lineCount" "I" ∈ am_W := bw 137 rfl rfl
theorem aw_139 : Cond.laysFinal RX1 "ChatThreads$Log" "times" "[I" ∈ am_W := bw 139 rfl rfl
theorem aw_141 : Cond.laysFinal RX1 "ChatThreads$Log" "writers" "[I" ∈ am_W := bw 141 rfl rfl
theorem aw_143 : Cond.laysFinal RX1 "ChatThreads$Log" "names" "[I" ∈ am_W := bw 143 rfl rfl
theorem aw_145 : Cond.laysFinal RX1 "ChatThreads$Log" "words" "[I" ∈ am_W := bw 145 rfl rfl
theorem aw_147 : Cond.lays RX1 "ChatThreads$Log" "fixCount" "I" ∈ am_W := bw 147 rfl rfl
theorem aw_149 : Cond.laysFinal RX1 "ChatThreads$Log" "fixKinds" "[I" ∈ am_W := bw 149 rfl rfl
theorem aw_151 : Cond.laysFinal RX1 "ChatThreads$Log" "fixLines" "[I" ∈ am_W := bw 151 rfl rfl
theorem aw_153 : Cond.laysFinal RX1 "ChatThreads$Log" "fixEarlier" "[I" ∈ am_W := bw 153 rfl rfl
theorem aw_155 : Cond.laysFinal RX1 "ChatThreads$Log" "settings" "[I" ∈ am_W := bw 155 rfl rfl
theorem aw_158 : Cond.arrayClass .int ∈ am_W := bw 158 rfl rfl
theorem aw_159 : Cond.fieldLink RX3 12 "ChatThreads$Threads" "log" "LChatThreads$Log;" ∈ am_W := bw 159 rfl rfl
theorem aw_160 : Cond.fieldLink RX4 16 "ChatThreads$Threads" "log" "LChatThreads$Log;" ∈ am_W := bw 160 rfl rfl
theorem aw_161 : Cond.fieldLink RX3 18 "ChatThreads$Threads" "order" "[I" ∈ am_W := bw 161 rfl rfl
theorem aw_162 : Cond.fieldLink RX4 138 "ChatThreads$Threads" "order" "[I" ∈ am_W := bw 162 rfl rfl
theorem aw_163 : Cond.fieldLink RX3 22 "ChatThreads$Threads" "places" "[I" ∈ am_W := bw 163 rfl rfl
theorem aw_164 : Cond.fieldLink RX4 120 "ChatThreads$Threads" "places" "[I" ∈ am_W := bw 164 rfl rfl
theorem aw_165 : Cond.fieldLink RX3 25 "ChatThreads$Threads" "spokenTo" "[I" ∈ am_W := bw 165 rfl rfl
theorem aw_166 : Cond.fieldLink RX4 135 "ChatThreads$Threads" "spokenTo" "[I" ∈ am_W := bw 166 rfl rfl
theorem aw_167 : Cond.fieldLink RX3 28 "ChatThreads$Threads" "scores" "[I" ∈ am_W := bw 167 rfl rfl
theorem aw_168 : Cond.fieldLink RX3 31 "ChatThreads$Threads" "fixes" "[I" ∈ am_W := bw 168 rfl rfl
theorem aw_169 : Cond.fieldLink RX3 34 "ChatThreads$Threads" "choices" "[I" ∈ am_W := bw 169 rfl rfl
theorem aw_170 : Cond.fieldLink RX3 37 "ChatThreads$Threads" "bests" "[I" ∈ am_W := bw 170 rfl rfl
theorem aw_171 : Cond.fieldLink RX3 40 "ChatThreads$Threads" "rivals" "[I" ∈ am_W := bw 171 rfl rfl
theorem aw_172 : Cond.fieldLink RX3 43 "ChatThreads$Threads" "answered" "[I" ∈ am_W := bw 172 rfl rfl
theorem aw_173 : Cond.fieldLink RX4 126 "ChatThreads$Threads" "answered" "[I" ∈ am_W := bw 173 rfl rfl
theorem aw_174 : Cond.fieldLink RX3 46 "ChatThreads$Threads" "joins" "[I" ∈ am_W := bw 174 rfl rfl
theorem aw_175 : Cond.fieldLink RX4 132 "ChatThreads$Threads" "joins" "[I" ∈ am_W := bw 175 rfl rfl
theorem aw_176 : Cond.fieldLink RX3 49 "ChatThreads$Threads" "rows" "[I" ∈ am_W := bw 176 rfl rfl
theorem aw_177 : Cond.fieldLink RX3 52 "ChatThreads$Threads" "firstPlaces" "[I" ∈ am_W := bw 177 rfl rfl
theorem aw_178 : Cond.fieldLink RX3 55 "ChatThreads$Threads" "numbers" "[I" ∈ am_W := bw 178 rfl rfl
theorem aw_179 : Cond.fieldLink RX4 123 "ChatThreads$Threads" "numbers" "[I" ∈ am_W := bw 179 rfl rfl
theorem aw_180 : Cond.fieldLink RX3 58 "ChatThreads$Threads" "threadCount" "I" ∈ am_W := bw 180 rfl rfl
theorem aw_181 : Cond.fieldLink RX4 158 "ChatThreads$Threads" "threadCount" "I" ∈ am_W := bw 181 rfl rfl
theorem aw_182 : Cond.fieldLink RX3 62 "ChatThreads$Threads" "lengths" "[I" ∈ am_W := bw 182 rfl rfl
theorem aw_183 : Cond.fieldLink RX4 208 "ChatThreads$Threads" "lengths" "[I" ∈ am_W := bw 183 rfl rfl
theorem aw_184 : Cond.fieldLink RX3 65 "ChatThreads$Threads" "lastLines" "[I" ∈ am_W := bw 184 rfl rfl
theorem aw_185 : Cond.fieldLink RX4 217 "ChatThreads$Threads" "lastLines" "[I" ∈ am_W := bw 185 rfl rfl
theorem aw_186 : Cond.laysFinal RX3 "ChatThreads$Threads" "log" "LChatThreads$Log;" ∈ am_W := bw 186 rfl rfl
theorem aw_188 : Cond.laysFinal RX3 "ChatThreads$Threads" "order" "[I" ∈ am_W := bw 188 rfl rfl
theorem aw_190 : Cond.laysFinal RX3 "ChatThreads$Threads" "places" "[I" ∈ am_W := bw 190 rfl rfl
theorem aw_192 : Cond.laysFinal RX3 "ChatThreads$Threads" "spokenTo" "[I" ∈ am_W := bw 192 rfl rfl
theorem aw_194 : Cond.laysFinal RX3 "ChatThreads$Threads" "scores" "[I" ∈ am_W := bw 194 rfl rfl
theorem aw_196 : Cond.laysFinal RX3 "ChatThreads$Threads" "fixes" "[I" ∈ am_W := bw 196 rfl rfl
theorem aw_198 : Cond.laysFinal RX3 "ChatThreads$Threads" "choices" "[I" ∈ am_W := bw 198 rfl rfl
theorem aw_200 : Cond.laysFinal RX3 "ChatThreads$Threads" "bests" "[I" ∈ am_W := bw 200 rfl rfl
theorem aw_202 : Cond.laysFinal RX3 "ChatThreads$Threads" "rivals" "[I" ∈ am_W := bw 202 rfl rfl
theorem aw_204 : Cond.laysFinal RX3 "ChatThreads$Threads" "answered" "[I" ∈ am_W := bw 204 rfl rfl
theorem aw_206 : Cond.laysFinal RX3 "ChatThreads$Threads" "joins" "[I" ∈ am_W := bw 206 rfl rfl
theorem aw_208 : Cond.laysFinal RX3 "ChatThreads$Threads" "rows" "[I" ∈ am_W := bw 208 rfl rfl
theorem aw_210 : Cond.laysFinal RX3 "ChatThreads$Threads" "firstPlaces" "[I" ∈ am_W := bw 210 rfl rfl
theorem aw_212 : Cond.laysFinal RX3 "ChatThreads$Threads" "numbers" "[I" ∈ am_W := bw 212 rfl rfl
theorem aw_214 : Cond.lays RX3 "ChatThreads$Threads" "threadCount" "I" ∈ am_W := bw 214 rfl rfl
theorem aw_216 : Cond.laysFinal RX3 "ChatThreads$Threads" "lengths" "[I" ∈ am_W := bw 216 rfl rfl
theorem aw_218 : Cond.laysFinal RX3 "ChatThreads$Threads" "lastLines" "[I" ∈ am_W := bw 218 rfl rfl
theorem aw_221 : Cond.classLink RX4 25 RX0 ∈ am_W := bw 221 rfl rfl
theorem aw_222 : Cond.instantiable RX0 2 ∈ am_W := bw 222 rfl rfl
theorem aw_223 : Cond.methodLink RX4 27 yX0_init ∈ am_W := bw 223 rfl rfl
theorem aw_224 : Cond.instanceMethod yX0_init ∈ am_W := bw 224 rfl rfl
theorem aw_225 : Cond.code yX0_init cX0_init 2 none ∈ am_W := bw 225 rfl rfl
theorem aw_226 : Cond.methodLink RX0 3 objectInit ∈ am_W := bw 226 rfl rfl
theorem aw_227 : Cond.classLink RX0 15 RX1 ∈ am_W := bw 227 rfl rfl
theorem aw_229 : Cond.methodLink RX0 21 yX1_init ∈ am_W := bw 229 rfl rfl
theorem aw_230 : Cond.fieldLink RX0 9 "ChatThreads$History" "stateCount" "I" ∈ am_W := bw 230 rfl rfl
theorem aw_231 : Cond.fieldLink RX4 170 "ChatThreads$History" "stateCount" "I" ∈ am_W := bw 231 rfl rfl
theorem aw_232 : Cond.fieldLink RX0 17 "ChatThreads$History" "states" "[LChatThreads$Log;" ∈ am_W := bw 232 rfl rfl
theorem aw_233 : Cond.lays RX0 "ChatThreads$History" "stateCount" "I" ∈ am_W := bw 233 rfl rfl
theorem aw_235 : Cond.laysFinal RX0 "ChatThreads$History" "states" "[LChatThreads$Log;" ∈ am_W := bw 235 rfl rfl
theorem aw_238 : Cond.classLink RX4 32 RX2 ∈ am_W := bw 238 rfl rfl
theorem aw_239 : Cond.instantiable RX2 8 ∈ am_W := bw 239 rfl rfl
theorem aw_241 : Cond.instanceMethod yX2_init ∈ am_W := bw 241 rfl rfl
theorem aw_242 : Cond.code yX2_init cX2_init 1 none ∈ am_W := bw 242 rfl rfl
theorem aw_243 : Cond.methodLink RX2 3 objectInit ∈ am_W := bw 243 rfl rfl
theorem aw_244 : Cond.fieldLink RX2 9 "ChatThreads$Text" "length" "I" ∈ am_W := bw 244 rfl rfl
theorem aw_245 : Cond.fieldLink RX4 173 "ChatThreads$Text" "length" "I" ∈ am_W := bw 245 rfl rfl
theorem aw_246 : Cond.fieldLink RX2 15 "ChatThreads$Text" "signs" "[C" ∈ am_W := bw 246 rfl rfl
theorem aw_247 : Cond.fieldLink RX2 19 "ChatThreads$Text" "entryCount" "I" ∈ am_W := bw 247 rfl rfl
theorem aw_248 : Cond.fieldLink RX4 270 "ChatThreads$Text" "entryCount" "I" ∈ am_W := bw 248 rfl rfl
theorem aw_249 : Cond.fieldLink RX2 22 "ChatThreads$Text" "faultPosition" "I" ∈ am_W := bw 249 rfl rfl
theorem aw_250 : Cond.fieldLink RX4 264 "ChatThreads$Text" "faultPosition" "I" ∈ am_W := bw 250 rfl rfl
theorem aw_251 : Cond.fieldLink RX2 25 "ChatThreads$Text" "faultReason" "I" ∈ am_W := bw 251 rfl rfl
theorem aw_252 : Cond.fieldLink RX4 267 "ChatThreads$Text" "faultReason" "I" ∈ am_W := bw 252 rfl rfl
theorem aw_253 : Cond.fieldLink RX2 28 "ChatThreads$Text" "letter" "C" ∈ am_W := bw 253 rfl rfl
theorem aw_254 : Cond.fieldLink RX2 32 "ChatThreads$Text" "position" "I" ∈ am_W := bw 254 rfl rfl
theorem aw_255 : Cond.fieldLink RX2 35 "ChatThreads$Text" "numbers" "[I" ∈ am_W := bw 255 rfl rfl
theorem aw_256 : Cond.lays RX2 "ChatThreads$Text" "length" "I" ∈ am_W := bw 256 rfl rfl
theorem aw_258 : Cond.laysFinal RX2 "ChatThreads$Text" "signs" "[C" ∈ am_W := bw 258 rfl rfl
theorem aw_260 : Cond.lays RX2 "ChatThreads$Text" "entryCount" "I" ∈ am_W := bw 260 rfl rfl
theorem aw_262 : Cond.lays RX2 "ChatThreads$Text" "faultPosition" "I" ∈ am_W := bw 262 rfl rfl
theorem aw_264 : Cond.lays RX2 "ChatThreads$Text" "faultReason" "I" ∈ am_W := bw 264 rfl rfl
theorem aw_266 : Cond.lays RX2 "ChatThreads$Text" "letter" "C" ∈ am_W := bw 266 rfl rfl
theorem aw_268 : Cond.lays RX2 "ChatThreads$Text" "position" "I" ∈ am_W := bw 268 rfl rfl
theorem aw_270 : Cond.laysFinal RX2 "ChatThreads$Text" "numbers" "[I" ∈ am_W := bw 270 rfl rfl
theorem aw_273 : Cond.arrayClass .char ∈ am_W := bw 273 rfl rfl
theorem aw_274 : Cond.fieldLink RX4 10 "ChatThreads" "threads" "LChatThreads$Threads;" ∈ am_W := bw 274 rfl rfl
theorem aw_275 : Cond.fieldLink RX4 20 "ChatThreads" "log" "LChatThreads$Log;" ∈ am_W := bw 275 rfl rfl
theorem aw_276 : Cond.fieldLink RX4 21 "ChatThreads" "threadsAreOld" "Z" ∈ am_W := bw 276 rfl rfl
theorem aw_277 : Cond.fieldLink RX4 28 "ChatThreads" "history" "LChatThreads$History;" ∈ am_W := bw 277 rfl rfl
theorem aw_278 : Cond.fieldLink RX4 35 "ChatThreads" "text" "LChatThreads$Text;" ∈ am_W := bw 278 rfl rfl
theorem aw_279 : Cond.fieldLink RX4 39 "ChatThreads" "otherThreads" "LChatThreads$Threads;" ∈ am_W := bw 279 rfl rfl
theorem aw_280 : Cond.fieldLink RX4 42 "ChatThreads" "otherLog" "LChatThreads$Log;" ∈ am_W := bw 280 rfl rfl
theorem aw_281 : Cond.laysFinal RX4 "ChatThreads" "threads" "LChatThreads$Threads;" ∈ am_W := bw 281 rfl rfl
theorem aw_283 : Cond.laysFinal RX4 "ChatThreads" "log" "LChatThreads$Log;" ∈ am_W := bw 283 rfl rfl
theorem aw_285 : Cond.lays RX4 "ChatThreads" "threadsAreOld" "Z" ∈ am_W := bw 285 rfl rfl
theorem aw_287 : Cond.laysFinal RX4 "ChatThreads" "history" "LChatThreads$History;" ∈ am_W := bw 287 rfl rfl
theorem aw_289 : Cond.laysFinal RX4 "ChatThreads" "text" "LChatThreads$Text;" ∈ am_W := bw 289 rfl rfl
theorem aw_291 : Cond.laysFinal RX4 "ChatThreads" "otherThreads" "LChatThreads$Threads;" ∈ am_W := bw 291 rfl rfl
theorem aw_293 : Cond.laysFinal RX4 "ChatThreads" "otherLog" "LChatThreads$Log;" ∈ am_W := bw 293 rfl rfl
theorem aw_296 : Cond.methodLink RL 13 yX4_takes ∈ am_W := bw 296 rfl rfl
theorem aw_297 : Cond.instanceMethod yX4_takes ∈ am_W := bw 297 rfl rfl
theorem aw_298 : Cond.selects RX4 yX4_takes yX4_takes ∈ am_W := bw 298 rfl rfl
theorem aw_299 : Cond.code yX4_takes cX4_takes 5 (some .int) ∈ am_W := bw 299 rfl rfl
set_option maxRecDepth 20000 in
theorem aw_300 : Cond.methodLink RX4 45 yX4_isPerson ∈ am_W := bw 300 rfl rfl
set_option maxRecDepth 20000 in
theorem aw_301 : Cond.static yX4_isPerson ∈ am_W := bw 301 rfl rfl
set_option maxRecDepth 20000 in
theorem aw_302 : Cond.code yX4_isPerson cX4_isPerson 1 (some .boolean) ∈ am_W := bw 302 rfl rfl
set_option maxRecDepth 20000 in
theorem aw_303 : Cond.methodLink RX4 49 yX4_isName ∈ am_W := bw 303 rfl rfl
set_option maxRecDepth 20000 in
theorem aw_304 : Cond.static yX4_isName ∈ am_W := bw 304 rfl rfl
set_option maxRecDepth 20000 in
theorem aw_305 : Cond.code yX4_isName cX4_isName 1 (some .boolean) ∈ am_W := bw 305 rfl rfl
set_option maxRecDepth 20000 in
theorem aw_306 : Cond.methodLink RX4 52 yX4_isTime ∈ am_W := bw 306 rfl rfl
set_option maxRecDepth 20000 in
theorem aw_307 : Cond.static yX4_isTime ∈ am_W := bw 307 rfl rfl
set_option maxRecDepth 20000 in
theorem aw_308 : Cond.code yX4_isTime cX4_isTime 1 (some .boolean) ∈ am_W := bw 308 rfl rfl
set_option maxRecDepth 20000 in
theorem aw_309 : Cond.constant RX4 145 (100000) ∈ am_W := bw 309 rfl rfl
set_option maxRecDepth 20000 in
theorem aw_310 : Cond.methodLink RX4 55 yX1_holderAt ∈ am_W := bw 310 rfl rfl
set_option maxRecDepth 20000 in
theorem aw_311 : Cond.instanceMethod yX1_holderAt ∈ am_W := bw 311 rfl rfl
set_option maxRecDepth 20000 in
theorem aw_312 : Cond.selects RX1 yX1_holderAt yX1_holderAt ∈ am_W := bw 312 rfl rfl
set_option maxRecDepth 20000 in
theorem aw_313 : Cond.code yX1_holderAt cX1_holderAt 4 (some .int) ∈ am_W := bw 313 rfl rfl
set_option maxRecDepth 20000 in
theorem aw_314 : Cond.methodLink RX1 64 yX1_nameAt ∈ am_W := bw 314 rfl rfl
set_option maxRecDepth 20000 in
theorem aw_315 : Cond.instanceMethod yX1_nameAt ∈ am_W := bw 315 rfl rfl
set_option maxRecDepth 20000 in
theorem aw_316 : Cond.selects RX1 yX1_nameAt yX1_nameAt ∈ am_W := bw 316 rfl rfl
set_option maxRecDepth 20000 in
theorem aw_317 : Cond.code yX1_nameAt cX1_nameAt 4 (some .int) ∈ am_W := bw 317 rfl rfl
set_option maxRecDepth 20000 in
theorem aw_318 : Cond.methodLink RX4 61 yX1_lastTakeTime ∈ am_W := bw 318 rfl rfl
set_option maxRecDepth 20000 in
theorem aw_319 : Cond.instanceMethod yX1_lastTakeTime ∈ am_W := bw 319 rfl rfl
set_option maxRecDepth 20000 in
theorem aw_320 : Cond.selects RX1 yX1_lastTakeTime yX1_lastTakeTime ∈ am_W := bw 320 rfl rfl
set_option maxRecDepth 20000 in
theorem aw_321 : Cond.code yX1_lastTakeTime cX1_lastTakeTime 1 (some .int) ∈ am_W := bw 321 rfl rfl
set_option maxRecDepth 20000 in
theorem aw_322 : Cond.methodLink RX4 69 yX4_beginChange ∈ am_W := bw 322 rfl rfl
set_option maxRecDepth 20000 in
theorem aw_324 : Cond.instanceMethod yX4_beginChange ∈ am_W := bw 324 rfl rfl
set_option maxRecDepth 20000 in
theorem aw_325 : Cond.code yX4_beginChange cX4_beginChange 1 none ∈ am_W := bw 325 rfl rfl
set_option maxRecDepth 20000 in
theorem aw_326 : Cond.methodLink RX4 277 yX0_keep ∈ am_W := bw 326 rfl rfl
set_option maxRecDepth 20000 in
theorem aw_327 : Cond.instanceMethod yX0_keep ∈ am_W := bw 327 rfl rfl
set_option maxRecDepth 20000 in
theorem aw_328 : Cond.selects RX0 yX0_keep yX0_keep ∈ am_W := bw 328 rfl rfl
set_option maxRecDepth 20000 in
theorem aw_329 : Cond.code yX0_keep cX0_keep 3 none ∈ am_W := bw 329 rfl rfl
set_option maxRecDepth 20000 in
theorem aw_330 : Cond.methodLink RX0 22 yX0_dropOldest ∈ am_W := bw 330 rfl rfl
set_option maxRecDepth 20000 in
theorem aw_332 : Cond.instanceMethod yX0_dropOldest ∈ am_W := bw 332 rfl rfl
set_option maxRecDepth 20000 in
theorem aw_333 : Cond.code yX0_dropOldest cX0_dropOldest 3 none ∈ am_W := bw 333 rfl rfl
set_option maxRecDepth 20000 in
theorem aw_334 : Cond.methodLink RX0 25 yX1_copyFrom ∈ am_W := bw 334 rfl rfl
set_option maxRecDepth 20000 in
theorem aw_335 : Cond.instanceMethod yX1_copyFrom ∈ am_W := bw 335 rfl rfl
set_option maxRecDepth 20000 in
theorem aw_336 : Cond.selects RX1 yX1_copyFrom yX1_copyFrom ∈ am_W := bw 336 rfl rfl
set_option maxRecDepth 20000 in
theorem aw_337 : Cond.code yX1_copyFrom cX1_copyFrom 2 none ∈ am_W := bw 337 rfl rfl
set_option maxRecDepth 20000 in
theorem aw_338 : Cond.methodLink RX4 72 yX1_addTake ∈ am_W := bw 338 rfl rfl
set_option maxRecDepth 20000 in
theorem aw_339 : Cond.instanceMethod yX1_addTake ∈ am_W := bw 339 rfl rfl
set_option maxRecDepth 20000 in
theorem aw_340 : Cond.selects RX1 yX1_addTake yX1_addTake ∈ am_W := bw 340 rfl rfl
set_option maxRecDepth 20000 in
theorem aw_341 : Cond.code yX1_addTake cX1_addTake 4 none ∈ am_W := bw 341 rfl rfl
set_option maxRecDepth 20000 in
theorem aw_342 : Cond.methodLink RL 18 yX4_nameOf ∈ am_W := bw 342 rfl rfl
set_option maxRecDepth 20000 in
theorem aw_343 : Cond.instanceMethod yX4_nameOf ∈ am_W := bw 343 rfl rfl
set_option maxRecDepth 20000 in
theorem aw_344 : Cond.selects RX4 yX4_nameOf yX4_nameOf ∈ am_W := bw 344 rfl rfl
set_option maxRecDepth 20000 in
theorem aw_345 : Cond.code yX4_nameOf cX4_nameOf 3 (some .int) ∈ am_W := bw 345 rfl rfl
set_option maxRecDepth 20000 in
theorem aw_346 : Cond.methodLink RX4 76 yX1_nameAt ∈ am_W := bw 346 rfl rfl
set_option maxRecDepth 20000 in
theorem aw_347 : Cond.methodLink RX4 79 yX4_orNotFound ∈ am_W := bw 347 rfl rfl
set_option maxRecDepth 20000 in
theorem aw_348 : Cond.static yX4_orNotFound ∈ am_W := bw 348 rfl rfl
set_option maxRecDepth 20000 in
theorem aw_349 : Cond.code yX4_orNotFound cX4_orNotFound 1 (some .int) ∈ am_W := bw 349 rfl rfl
set_option maxRecDepth 20000 in
theorem aw_350 : Cond.methodLink RL 23 yX4_whoHas ∈ am_W := bw 350 rfl rfl
set_option maxRecDepth 20000 in
theorem aw_351 : Cond.instanceMethod yX4_whoHas ∈ am_W := bw 351 rfl rfl
set_option maxRecDepth 20000 in
theorem aw_352 : Cond.selects RX4 yX4_whoHas yX4_whoHas ∈ am_W := bw 352 rfl rfl
set_option maxRecDepth 20000 in
theorem aw_353 : Cond.code yX4_whoHas cX4_whoHas 3 (some .int) ∈ am_W := bw 353 rfl rfl
set_option maxRecDepth 20000 in
theorem aw_354 : Cond.methodLink RL 27 yX4_line ∈ am_W := bw 354 rfl rfl
set_option maxRecDepth 20000 in
theorem aw_355 : Cond.instanceMethod yX4_line ∈ am_W := bw 355 rfl rfl
set_option maxRecDepth 20000 in
theorem aw_356 : Cond.selects RX4 yX4_line yX4_line ∈ am_W := bw 356 rfl rfl
set_option maxRecDepth 20000 in
theorem aw_357 : Cond.code yX4_line cX4_line 5 (some .int) ∈ am_W := bw 357 rfl rfl
set_option maxRecDepth 20000 in
theorem aw_358 : Cond.methodLink RX4 83 yX4_isSet ∈ am_W := bw 358 rfl rfl
set_option maxRecDepth 20000 in
theorem aw_359 : Cond.static yX4_isSet ∈ am_W := bw 359 rfl rfl
set_option maxRecDepth 20000 in
theorem aw_360 : Cond.code yX4_isSet cX4_isSet 1 (some .boolean) ∈ am_W := bw 360 rfl rfl
set_option maxRecDepth 20000 in
theorem aw_361 : Cond.constant RX4 273 (65535) ∈ am_W := bw 361 rfl rfl
set_option maxRecDepth 20000 in
theorem aw_362 : Cond.methodLink RX4 89 yX1_addLine ∈ am_W := bw 362 rfl rfl
set_option maxRecDepth 20000 in
theorem aw_363 : Cond.instanceMethod yX1_addLine ∈ am_W := bw 363 rfl rfl
set_option maxRecDepth 20000 in
theorem aw_364 : Cond.selects RX1 yX1_addLine yX1_addLine ∈ am_W := bw 364 rfl rfl
set_option maxRecDepth 20000 in
theorem aw_365 : Cond.code yX1_addLine cX1_addLine 5 none ∈ am_W := bw 365 rfl rfl
set_option maxRecDepth 20000 in
theorem aw_366 : Cond.methodLink RL 32 yX4_drop ∈ am_W := bw 366 rfl rfl
set_option maxRecDepth 20000 in
theorem aw_367 : Cond.instanceMethod yX4_drop ∈ am_W := bw 367 rfl rfl
set_option maxRecDepth 20000 in
theorem aw_368 : Cond.selects RX4 yX4_drop yX4_drop ∈ am_W := bw 368 rfl rfl
set_option maxRecDepth 20000 in
theorem aw_369 : Cond.code yX4_drop cX4_drop 2 (some .int) ∈ am_W := bw 369 rfl rfl
set_option maxRecDepth 20000 in
theorem aw_370 : Cond.methodLink RX4 93 yX1_isLine ∈ am_W := bw 370 rfl rfl
set_option maxRecDepth 20000 in
theorem aw_371 : Cond.instanceMethod yX1_isLine ∈ am_W := bw 371 rfl rfl
set_option maxRecDepth 20000 in
theorem aw_372 : Cond.selects RX1 yX1_isLine yX1_isLine ∈ am_W := bw 372 rfl rfl
set_option maxRecDepth 20000 in
theorem aw_373 : Cond.code yX1_isLine cX1_isLine 2 (some .boolean) ∈ am_W := bw 373 rfl rfl
set_option maxRecDepth 20000 in
theorem aw_374 : Cond.methodLink RX4 96 yX1_removeLine ∈ am_W := bw 374 rfl rfl
set_option maxRecDepth 20000 in
theorem aw_375 : Cond.instanceMethod yX1_removeLine ∈ am_W := bw 375 rfl rfl
set_option maxRecDepth 20000 in
theorem aw_376 : Cond.selects RX1 yX1_removeLine yX1_removeLine ∈ am_W := bw 376 rfl rfl
set_option maxRecDepth 20000 in
theorem aw_377 : Cond.code yX1_removeLine cX1_removeLine 3 none ∈ am_W := bw 377 rfl rfl
set_option maxRecDepth 20000 in
theorem aw_378 : Cond.methodLink RX1 72 yX1_removeFix ∈ am_W := bw 378 rfl rfl
set_option maxRecDepth 20000 in
theorem aw_379 : Cond.instanceMethod yX1_removeFix ∈ am_W := bw 379 rfl rfl
set_option maxRecDepth 20000 in
theorem aw_380 : Cond.selects RX1 yX1_removeFix yX1_removeFix ∈ am_W := bw 380 rfl rfl
set_option maxRecDepth 20000 in
theorem aw_381 : Cond.code yX1_removeFix cX1_removeFix 3 none ∈ am_W := bw 381 rfl rfl
set_option maxRecDepth 20000 in
theorem aw_382 : Cond.methodLink RX1 76 yX1_numberWithout ∈ am_W := bw 382 rfl rfl
set_option maxRecDepth 20000 in
theorem aw_383 : Cond.static yX1_numberWithout ∈ am_W := bw 383 rfl rfl
set_option maxRecDepth 20000 in
theorem aw_384 : Cond.code yX1_numberWithout cX1_numberWithout 2 (some .int) ∈ am_W := bw 384 rfl rfl
set_option maxRecDepth 20000 in
theorem aw_385 : Cond.methodLink RL 37 yX4_lineOf ∈ am_W := bw 385 rfl rfl
set_option maxRecDepth 20000 in
theorem aw_386 : Cond.instanceMethod yX4_lineOf ∈ am_W := bw 386 rfl rfl
set_option maxRecDepth 20000 in
theorem aw_387 : Cond.selects RX4 yX4_lineOf yX4_lineOf ∈ am_W := bw 387 rfl rfl
set_option maxRecDepth 20000 in
theorem aw_388 : Cond.code yX4_lineOf cX4_lineOf 3 (some .int) ∈ am_W := bw 388 rfl rfl
set_option maxRecDepth 20000 in
theorem aw_389 : Cond.methodLink RX4 116 yX4_currentThreads ∈ am_W := bw 389 rfl rfl
set_option maxRecDepth 20000 in
theorem aw_391 : Cond.instanceMethod yX4_currentThreads ∈ am_W := bw 391 rfl rfl
set_option maxRecDepth 20000 in
theorem aw_392 : Cond.code yX4_currentThreads cX4_currentThreads 1 (some (.object "ChatThreads$Threads")) ∈ am_W := bw 392 rfl rfl
set_option maxRecDepth 20000 in
theorem aw_393 : Cond.methodLink RX4 244 yX3_rateAll ∈ am_W := bw 393 rfl rfl
set_option maxRecDepth 20000 in
theorem aw_394 : Cond.instanceMethod yX3_rateAll ∈ am_W := bw 394 rfl rfl
set_option maxRecDepth 20000 in
theorem aw_395 : Cond.selects RX3 yX3_rateAll yX3_rateAll ∈ am_W := bw 395 rfl rfl
set_option maxRecDepth 20000 in
theorem aw_396 : Cond.code yX3_rateAll cX3_rateAll 4 none ∈ am_W := bw 396 rfl rfl
set_option maxRecDepth 20000 in
theorem aw_397 : Cond.methodLink RX3 68 yX3_putInOrder ∈ am_W := bw 397 rfl rfl
set_option maxRecDepth 20000 in
theorem aw_399 : Cond.instanceMethod yX3_putInOrder ∈ am_W := bw 399 rfl rfl
set_option maxRecDepth 20000 in
theorem aw_400 : Cond.code yX3_putInOrder cX3_putInOrder 3 none ∈ am_W := bw 400 rfl rfl
set_option maxRecDepth 20000 in
theorem aw_401 : Cond.methodLink RX3 74 yX1_personsNamedIn ∈ am_W := bw 401 rfl rfl
set_option maxRecDepth 20000 in
theorem aw_402 : Cond.instanceMethod yX1_personsNamedIn ∈ am_W := bw 402 rfl rfl
set_option maxRecDepth 20000 in
theorem aw_403 : Cond.selects RX1 yX1_personsNamedIn yX1_personsNamedIn ∈ am_W := bw 403 rfl rfl
set_option maxRecDepth 20000 in
theorem aw_404 : Cond.code yX1_personsNamedIn cX1_personsNamedIn 6 (some .int) ∈ am_W := bw 404 rfl rfl
set_option maxRecDepth 20000 in
theorem aw_406 : Cond.static yX4_isIn ∈ am_W := bw 406 rfl rfl
set_option maxRecDepth 20000 in
theorem aw_407 : Cond.code yX4_isIn cX4_isIn 2 (some .boolean) ∈ am_W := bw 407 rfl rfl
set_option maxRecDepth 20000 in
theorem aw_408 : Cond.methodLink RX3 78 yX3_rate ∈ am_W := bw 408 rfl rfl
set_option maxRecDepth 20000 in
theorem aw_410 : Cond.instanceMethod yX3_rate ∈ am_W := bw 410 rfl rfl
set_option maxRecDepth 20000 in
theorem aw_411 : Cond.code yX3_rate cX3_rate 5 none ∈ am_W := bw 411 rfl rfl
set_option maxRecDepth 20000 in
theorem aw_412 : Cond.methodLink RX3 101 yX3_speaksTo ∈ am_W := bw 412 rfl rfl
set_option maxRecDepth 20000 in
theorem aw_414 : Cond.instanceMethod yX3_speaksTo ∈ am_W := bw 414 rfl rfl
set_option maxRecDepth 20000 in
theorem aw_415 : Cond.code yX3_speaksTo cX3_speaksTo 3 (some .boolean) ∈ am_W := bw 415 rfl rfl
set_option maxRecDepth 20000 in
theorem aw_417 : Cond.methodLink RX3 111 yJ6_bitCount_0f7a4 ∈ am_W := bw 417 rfl rfl
set_option maxRecDepth 20000 in
theorem aw_418 : Cond.static yJ6_bitCount_0f7a4 ∈ am_W := bw 418 rfl rfl
set_option maxRecDepth 20000 in
theorem aw_419 : Cond.code yJ6_bitCount_0f7a4 cJ6_bitCount_0f7a4 1 (some .int) ∈ am_W := bw 419 rfl rfl
set_option maxRecDepth 20000 in
theorem aw_420 : Cond.constant RJ6 265 (1431655765) ∈ am_W := bw 420 rfl rfl
set_option maxRecDepth 20000 in
theorem aw_421 : Cond.constant RJ6 266 (858993459) ∈ am_W := bw 421 rfl rfl
set_option maxRecDepth 20000 in
theorem aw_422 : Cond.constant RJ6 267 (252645135) ∈ am_W := bw 422 rfl rfl
set_option maxRecDepth 20000 in
theorem aw_423 : Cond.methodLink RX3 116 yX3_gapOf ∈ am_W := bw 423 rfl rfl
set_option maxRecDepth 20000 in
theorem aw_424 : Cond.instanceMethod yX3_gapOf ∈ am_W := bw 424 rfl rfl
set_option maxRecDepth 20000 in
theorem aw_425 : Cond.selects RX3 yX3_gapOf yX3_gapOf ∈ am_W := bw 425 rfl rfl
set_option maxRecDepth 20000 in
theorem aw_426 : Cond.code yX3_gapOf cX3_gapOf 3 (some .int) ∈ am_W := bw 426 rfl rfl
set_option maxRecDepth 20000 in
theorem aw_427 : Cond.methodLink RX3 82 yX1_countingFix ∈ am_W := bw 427 rfl rfl
set_option maxRecDepth 20000 in
theorem aw_428 : Cond.instanceMethod yX1_countingFix ∈ am_W := bw 428 rfl rfl
set_option maxRecDepth 20000 in
theorem aw_429 : Cond.selects RX1 yX1_countingFix yX1_countingFix ∈ am_W := bw 429 rfl rfl
set_option maxRecDepth 20000 in
theorem aw_430 : Cond.code yX1_countingFix cX1_countingFix 3 (some .int) ∈ am_W := bw 430 rfl rfl
set_option maxRecDepth 20000 in
theorem aw_431 : Cond.methodLink RX3 85 yX3_choicesFor ∈ am_W := bw 431 rfl rfl
set_option maxRecDepth 20000 in
theorem aw_433 : Cond.instanceMethod yX3_choicesFor ∈ am_W := bw 433 rfl rfl
set_option maxRecDepth 20000 in
theorem aw_434 : Cond.code yX3_choicesFor cX3_choicesFor 4 (some .int) ∈ am_W := bw 434 rfl rfl
set_option maxRecDepth 20000 in
theorem aw_435 : Cond.methodLink RX3 122 yX3_isInWindow ∈ am_W := bw 435 rfl rfl
set_option maxRecDepth 20000 in
theorem aw_437 : Cond.instanceMethod yX3_isInWindow ∈ am_W := bw 437 rfl rfl
set_option maxRecDepth 20000 in
theorem aw_438 : Cond.code yX3_isInWindow cX3_isInWindow 3 (some .boolean) ∈ am_W := bw 438 rfl rfl
set_option maxRecDepth 20000 in
theorem aw_439 : Cond.methodLink RX3 88 yX3_bestOf ∈ am_W := bw 439 rfl rfl
set_option maxRecDepth 20000 in
theorem aw_441 : Cond.instanceMethod yX3_bestOf ∈ am_W := bw 441 rfl rfl
set_option maxRecDepth 20000 in
theorem aw_442 : Cond.code yX3_bestOf cX3_bestOf 6 (some .int) ∈ am_W := bw 442 rfl rfl
set_option maxRecDepth 20000 in
theorem aw_443 : Cond.methodLink RX3 137 yX3_scoreFor ∈ am_W := bw 443 rfl rfl
set_option maxRecDepth 20000 in
theorem aw_444 : Cond.instanceMethod yX3_scoreFor ∈ am_W := bw 444 rfl rfl
set_option maxRecDepth 20000 in
theorem aw_445 : Cond.selects RX3 yX3_scoreFor yX3_scoreFor ∈ am_W := bw 445 rfl rfl
set_option maxRecDepth 20000 in
theorem aw_446 : Cond.code yX3_scoreFor cX3_scoreFor 3 (some .int) ∈ am_W := bw 446 rfl rfl
set_option maxRecDepth 20000 in
theorem aw_447 : Cond.methodLink RX3 92 yX3_rivalsFor ∈ am_W := bw 447 rfl rfl
set_option maxRecDepth 20000 in
theorem aw_449 : Cond.instanceMethod yX3_rivalsFor ∈ am_W := bw 449 rfl rfl
set_option maxRecDepth 20000 in
theorem aw_450 : Cond.code yX3_rivalsFor cX3_rivalsFor 7 (some .int) ∈ am_W := bw 450 rfl rfl
set_option maxRecDepth 20000 in
theorem aw_451 : Cond.methodLink RX4 253 yX3_follow ∈ am_W := bw 451 rfl rfl
set_option maxRecDepth 20000 in
theorem aw_452 : Cond.instanceMethod yX3_follow ∈ am_W := bw 452 rfl rfl
set_option maxRecDepth 20000 in
theorem aw_453 : Cond.selects RX3 yX3_follow yX3_follow ∈ am_W := bw 453 rfl rfl
set_option maxRecDepth 20000 in
theorem aw_454 : Cond.code yX3_follow cX3_follow 2 none ∈ am_W := bw 454 rfl rfl
set_option maxRecDepth 20000 in
theorem aw_455 : Cond.methodLink RX3 140 yX3_addToThread ∈ am_W := bw 455 rfl rfl
set_option maxRecDepth 20000 in
theorem aw_457 : Cond.instanceMethod yX3_addToThread ∈ am_W := bw 457 rfl rfl
set_option maxRecDepth 20000 in
theorem aw_458 : Cond.code yX3_addToThread cX3_addToThread 3 none ∈ am_W := bw 458 rfl rfl
set_option maxRecDepth 20000 in
theorem aw_459 : Cond.methodLink RX3 147 yX3_answerOf ∈ am_W := bw 459 rfl rfl
set_option maxRecDepth 20000 in
theorem aw_461 : Cond.instanceMethod yX3_answerOf ∈ am_W := bw 461 rfl rfl
set_option maxRecDepth 20000 in
theorem aw_462 : Cond.code yX3_answerOf cX3_answerOf 2 (some .int) ∈ am_W := bw 462 rfl rfl
set_option maxRecDepth 20000 in
theorem aw_463 : Cond.methodLink RX3 153 yX3_isPassed ∈ am_W := bw 463 rfl rfl
set_option maxRecDepth 20000 in
theorem aw_465 : Cond.instanceMethod yX3_isPassed ∈ am_W := bw 465 rfl rfl
set_option maxRecDepth 20000 in
theorem aw_466 : Cond.code yX3_isPassed cX3_isPassed 3 (some .boolean) ∈ am_W := bw 466 rfl rfl
set_option maxRecDepth 20000 in
theorem aw_467 : Cond.methodLink RX3 150 yX3_joinRivals ∈ am_W := bw 467 rfl rfl
set_option maxRecDepth 20000 in
theorem aw_469 : Cond.instanceMethod yX3_joinRivals ∈ am_W := bw 469 rfl rfl
set_option maxRecDepth 20000 in
theorem aw_470 : Cond.code yX3_joinRivals cX3_joinRivals 4 none ∈ am_W := bw 470 rfl rfl
set_option maxRecDepth 20000 in
theorem aw_471 : Cond.methodLink RX3 156 yX3_join ∈ am_W := bw 471 rfl rfl
set_option maxRecDepth 20000 in
theorem aw_473 : Cond.instanceMethod yX3_join ∈ am_W := bw 473 rfl rfl
set_option maxRecDepth 20000 in
theorem aw_474 : Cond.code yX3_join cX3_join 7 none ∈ am_W := bw 474 rfl rfl
set_option maxRecDepth 20000 in
theorem aw_475 : Cond.methodLink RX3 160 Lib.Math.min.name ∈ am_W := bw 475 rfl rfl
set_option maxRecDepth 20000 in
theorem aw_476 : Cond.static Lib.Math.min.name ∈ am_W := bw 476 rfl rfl
set_option maxRecDepth 20000 in
theorem aw_477 : Cond.code Lib.Math.min.name Lib.Math.min.code 2 (some .int) ∈ am_W := bw 477 rfl rfl
set_option maxRecDepth 20000 in
theorem aw_478 : Cond.methodLink RX3 165 Lib.Math.max.name ∈ am_W := bw 478 rfl rfl
set_option maxRecDepth 20000 in
theorem aw_479 : Cond.static Lib.Math.max.name ∈ am_W := bw 479 rfl rfl
set_option maxRecDepth 20000 in
theorem aw_480 : Cond.code Lib.Math.max.name Lib.Math.max.code 2 (some .int) ∈ am_W := bw 480 rfl rfl
set_option maxRecDepth 20000 in
theorem aw_481 : Cond.methodLink RX3 144 yX3_numberThreadAt ∈ am_W := bw 481 rfl rfl
set_option maxRecDepth 20000 in
theorem aw_483 : Cond.instanceMethod yX3_numberThreadAt ∈ am_W := bw 483 rfl rfl
set_option maxRecDepth 20000 in
theorem aw_484 : Cond.code yX3_numberThreadAt cX3_numberThreadAt 4 none ∈ am_W := bw 484 rfl rfl
set_option maxRecDepth 20000 in
theorem aw_485 : Cond.methodLink RX4 129 yX3_answersTo ∈ am_W := bw 485 rfl rfl
set_option maxRecDepth 20000 in
theorem aw_486 : Cond.instanceMethod yX3_answersTo ∈ am_W := bw 486 rfl rfl
set_option maxRecDepth 20000 in
theorem aw_487 : Cond.selects RX3 yX3_answersTo yX3_answersTo ∈ am_W := bw 487 rfl rfl
set_option maxRecDepth 20000 in
theorem aw_488 : Cond.code yX3_answersTo cX3_answersTo 4 (some .int) ∈ am_W := bw 488 rfl rfl
set_option maxRecDepth 20000 in
theorem aw_489 : Cond.methodLink RL 41 yX4_inOrder ∈ am_W := bw 489 rfl rfl
set_option maxRecDepth 20000 in
theorem aw_490 : Cond.instanceMethod yX4_inOrder ∈ am_W := bw 490 rfl rfl
set_option maxRecDepth 20000 in
theorem aw_491 : Cond.selects RX4 yX4_inOrder yX4_inOrder ∈ am_W := bw 491 rfl rfl
set_option maxRecDepth 20000 in
theorem aw_492 : Cond.code yX4_inOrder cX4_inOrder 2 (some .int) ∈ am_W := bw 492 rfl rfl
set_option maxRecDepth 20000 in
theorem aw_493 : Cond.methodLink RL 45 yX4_score ∈ am_W := bw 493 rfl rfl
set_option maxRecDepth 20000 in
theorem aw_494 : Cond.instanceMethod yX4_score ∈ am_W := bw 494 rfl rfl
set_option maxRecDepth 20000 in
theorem aw_495 : Cond.selects RX4 yX4_score yX4_score ∈ am_W := bw 495 rfl rfl
set_option maxRecDepth 20000 in
theorem aw_496 : Cond.code yX4_score cX4_score 3 (some .int) ∈ am_W := bw 496 rfl rfl
set_option maxRecDepth 20000 in
theorem aw_497 : Cond.methodLink RX4 141 yX1_isEarlier ∈ am_W := bw 497 rfl rfl
set_option maxRecDepth 20000 in
theorem aw_498 : Cond.instanceMethod yX1_isEarlier ∈ am_W := bw 498 rfl rfl
set_option maxRecDepth 20000 in
theorem aw_499 : Cond.selects RX1 yX1_isEarlier yX1_isEarlier ∈ am_W := bw 499 rfl rfl
set_option maxRecDepth 20000 in
theorem aw_500 : Cond.code yX1_isEarlier cX1_isEarlier 3 (some .boolean) ∈ am_W := bw 500 rfl rfl
set_option maxRecDepth 20000 in
theorem aw_501 : Cond.methodLink RX4 146 yX3_scoreFor ∈ am_W := bw 501 rfl rfl
set_option maxRecDepth 20000 in
theorem aw_502 : Cond.methodLink RL 49 yX4_reason ∈ am_W := bw 502 rfl rfl
set_option maxRecDepth 20000 in
theorem aw_503 : Cond.instanceMethod yX4_reason ∈ am_W := bw 503 rfl rfl
set_option maxRecDepth 20000 in
theorem aw_504 : Cond.selects RX4 yX4_reason yX4_reason ∈ am_W := bw 504 rfl rfl
set_option maxRecDepth 20000 in
theorem aw_505 : Cond.code yX4_reason cX4_reason 3 (some .int) ∈ am_W := bw 505 rfl rfl
set_option maxRecDepth 20000 in
theorem aw_506 : Cond.methodLink RX4 149 yX3_reasonAgainst ∈ am_W := bw 506 rfl rfl
set_option maxRecDepth 20000 in
theorem aw_507 : Cond.instanceMethod yX3_reasonAgainst ∈ am_W := bw 507 rfl rfl
set_option maxRecDepth 20000 in
theorem aw_508 : Cond.selects RX3 yX3_reasonAgainst yX3_reasonAgainst ∈ am_W := bw 508 rfl rfl
set_option maxRecDepth 20000 in
theorem aw_509 : Cond.code yX3_reasonAgainst cX3_reasonAgainst 3 (some .int) ∈ am_W := bw 509 rfl rfl
set_option maxRecDepth 20000 in
theorem aw_510 : Cond.methodLink RX3 168 yX1_isEarlier ∈ am_W := bw 510 rfl rfl
set_option maxRecDepth 20000 in
theorem aw_511 : Cond.methodLink RX3 171 yX1_fixLike ∈ am_W := bw 511 rfl rfl
set_option maxRecDepth 20000 in
theorem aw_512 : Cond.instanceMethod yX1_fixLike ∈ am_W := bw 512 rfl rfl
set_option maxRecDepth 20000 in
theorem aw_513 : Cond.selects RX1 yX1_fixLike yX1_fixLike ∈ am_W := bw 513 rfl rfl
set_option maxRecDepth 20000 in
theorem aw_514 : Cond.code yX1_fixLike cX1_fixLike 5 (some .int) ∈ am_W := bw 514 rfl rfl
set_option maxRecDepth 20000 in
theorem aw_515 : Cond.methodLink RL 53 yX4_set ∈ am_W := bw 515 rfl rfl
set_option maxRecDepth 20000 in
theorem aw_516 : Cond.instanceMethod yX4_set ∈ am_W := bw 516 rfl rfl
set_option maxRecDepth 20000 in
theorem aw_517 : Cond.selects RX4 yX4_set yX4_set ∈ am_W := bw 517 rfl rfl
set_option maxRecDepth 20000 in
theorem aw_518 : Cond.code yX4_set cX4_set 4 (some .int) ∈ am_W := bw 518 rfl rfl
set_option maxRecDepth 20000 in
theorem aw_519 : Cond.methodLink RX4 152 yX4_isSettingValue ∈ am_W := bw 519 rfl rfl
set_option maxRecDepth 20000 in
theorem aw_520 : Cond.static yX4_isSettingValue ∈ am_W := bw 520 rfl rfl
set_option maxRecDepth 20000 in
theorem aw_521 : Cond.code yX4_isSettingValue cX4_isSettingValue 2 (some .boolean) ∈ am_W := bw 521 rfl rfl
set_option maxRecDepth 20000 in
theorem aw_522 : Cond.fieldLink RX4 274 "ChatThreads" "LEAST_VALUES" "[I" ∈ am_W := bw 522 rfl rfl
set_option maxRecDepth 20000 in
theorem aw_524 : Cond.fieldLink RX4 247 "ChatThreads" "GREATEST_VALUES" "[I" ∈ am_W := bw 524 rfl rfl
set_option maxRecDepth 20000 in
theorem aw_526 : Cond.methodLink RL 57 yX4_count ∈ am_W := bw 526 rfl rfl
set_option maxRecDepth 20000 in
theorem aw_527 : Cond.instanceMethod yX4_count ∈ am_W := bw 527 rfl rfl
set_option maxRecDepth 20000 in
theorem aw_528 : Cond.selects RX4 yX4_count yX4_count ∈ am_W := bw 528 rfl rfl
set_option maxRecDepth 20000 in
theorem aw_529 : Cond.code yX4_count cX4_count 2 (some .int) ∈ am_W := bw 529 rfl rfl
set_option maxRecDepth 20000 in
theorem aw_530 : Cond.methodLink RX4 161 yX3_beginnings ∈ am_W := bw 530 rfl rfl
set_option maxRecDepth 20000 in
theorem aw_531 : Cond.instanceMethod yX3_beginnings ∈ am_W := bw 531 rfl rfl
set_option maxRecDepth 20000 in
theorem aw_532 : Cond.selects RX3 yX3_beginnings yX3_beginnings ∈ am_W := bw 532 rfl rfl
set_option maxRecDepth 20000 in
theorem aw_533 : Cond.code yX3_beginnings cX3_beginnings 1 (some .int) ∈ am_W := bw 533 rfl rfl
set_option maxRecDepth 20000 in
theorem aw_534 : Cond.methodLink RX3 175 yX3_answersTo ∈ am_W := bw 534 rfl rfl
set_option maxRecDepth 20000 in
theorem aw_535 : Cond.methodLink RX4 164 yX3_allJoins ∈ am_W := bw 535 rfl rfl
set_option maxRecDepth 20000 in
theorem aw_536 : Cond.instanceMethod yX3_allJoins ∈ am_W := bw 536 rfl rfl
set_option maxRecDepth 20000 in
theorem aw_537 : Cond.selects RX3 yX3_allJoins yX3_allJoins ∈ am_W := bw 537 rfl rfl
set_option maxRecDepth 20000 in
theorem aw_538 : Cond.code yX3_allJoins cX3_allJoins 3 (some .int) ∈ am_W := bw 538 rfl rfl
set_option maxRecDepth 20000 in
theorem aw_539 : Cond.methodLink RX4 167 yX1_fixedLines ∈ am_W := bw 539 rfl rfl
set_option maxRecDepth 20000 in
theorem aw_540 : Cond.instanceMethod yX1_fixedLines ∈ am_W := bw 540 rfl rfl
set_option maxRecDepth 20000 in
theorem aw_541 : Cond.selects RX1 yX1_fixedLines yX1_fixedLines ∈ am_W := bw 541 rfl rfl
set_option maxRecDepth 20000 in
theorem aw_542 : Cond.code yX1_fixedLines cX1_fixedLines 3 (some .int) ∈ am_W := bw 542 rfl rfl
set_option maxRecDepth 20000 in
theorem aw_543 : Cond.methodLink RX1 86 yX1_countingFix ∈ am_W := bw 543 rfl rfl
set_option maxRecDepth 20000 in
theorem aw_544 : Cond.methodLink RL 61 yX4_undo ∈ am_W := bw 544 rfl rfl
set_option maxRecDepth 20000 in
theorem aw_545 : Cond.instanceMethod yX4_undo ∈ am_W := bw 545 rfl rfl
set_option maxRecDepth 20000 in
theorem aw_546 : Cond.selects RX4 yX4_undo yX4_undo ∈ am_W := bw 546 rfl rfl
set_option maxRecDepth 20000 in
theorem aw_547 : Cond.code yX4_undo cX4_undo 1 (some .int) ∈ am_W := bw 547 rfl rfl
set_option maxRecDepth 20000 in
theorem aw_548 : Cond.methodLink RX4 176 yX0_takeBack ∈ am_W := bw 548 rfl rfl
set_option maxRecDepth 20000 in
theorem aw_549 : Cond.instanceMethod yX0_takeBack ∈ am_W := bw 549 rfl rfl
set_option maxRecDepth 20000 in
theorem aw_550 : Cond.selects RX0 yX0_takeBack yX0_takeBack ∈ am_W := bw 550 rfl rfl
set_option maxRecDepth 20000 in
theorem aw_551 : Cond.code yX0_takeBack cX0_takeBack 3 none ∈ am_W := bw 551 rfl rfl
set_option maxRecDepth 20000 in
theorem aw_552 : Cond.methodLink RL 66 yX4_correct ∈ am_W := bw 552 rfl rfl
set_option maxRecDepth 20000 in
theorem aw_553 : Cond.instanceMethod yX4_correct ∈ am_W := bw 553 rfl rfl
set_option maxRecDepth 20000 in
theorem aw_554 : Cond.selects RX4 yX4_correct yX4_correct ∈ am_W := bw 554 rfl rfl
set_option maxRecDepth 20000 in
theorem aw_555 : Cond.code yX4_correct cX4_correct 5 (some .int) ∈ am_W := bw 555 rfl rfl
set_option maxRecDepth 20000 in
theorem aw_556 : Cond.methodLink RX4 180 yX1_canBeFixed ∈ am_W := bw 556 rfl rfl
set_option maxRecDepth 20000 in
theorem aw_557 : Cond.instanceMethod yX1_canBeFixed ∈ am_W := bw 557 rfl rfl
set_option maxRecDepth 20000 in
theorem aw_558 : Cond.selects RX1 yX1_canBeFixed yX1_canBeFixed ∈ am_W := bw 558 rfl rfl
set_option maxRecDepth 20000 in
theorem aw_559 : Cond.code yX1_canBeFixed cX1_canBeFixed 4 (some .boolean) ∈ am_W := bw 559 rfl rfl
set_option maxRecDepth 20000 in
theorem aw_560 : Cond.methodLink RX1 79 yX1_isEarlier ∈ am_W := bw 560 rfl rfl
set_option maxRecDepth 20000 in
theorem aw_561 : Cond.methodLink RX1 82 yX1_fixLike ∈ am_W := bw 561 rfl rfl
set_option maxRecDepth 20000 in
theorem aw_562 : Cond.methodLink RX4 184 yX1_addFix ∈ am_W := bw 562 rfl rfl
set_option maxRecDepth 20000 in
theorem aw_563 : Cond.instanceMethod yX1_addFix ∈ am_W := bw 563 rfl rfl
set_option maxRecDepth 20000 in
theorem aw_564 : Cond.selects RX1 yX1_addFix yX1_addFix ∈ am_W := bw 564 rfl rfl
set_option maxRecDepth 20000 in
theorem aw_565 : Cond.code yX1_addFix cX1_addFix 4 none ∈ am_W := bw 565 rfl rfl
set_option maxRecDepth 20000 in
theorem aw_566 : Cond.methodLink RL 70 yX4_withdraw ∈ am_W := bw 566 rfl rfl
set_option maxRecDepth 20000 in
theorem aw_567 : Cond.instanceMethod yX4_withdraw ∈ am_W := bw 567 rfl rfl
set_option maxRecDepth 20000 in
theorem aw_568 : Cond.selects RX4 yX4_withdraw yX4_withdraw ∈ am_W := bw 568 rfl rfl
set_option maxRecDepth 20000 in
theorem aw_569 : Cond.code yX4_withdraw cX4_withdraw 2 (some .int) ∈ am_W := bw 569 rfl rfl
set_option maxRecDepth 20000 in
theorem aw_570 : Cond.methodLink RX4 187 yX1_isFix ∈ am_W := bw 570 rfl rfl
set_option maxRecDepth 20000 in
theorem aw_571 : Cond.instanceMethod yX1_isFix ∈ am_W := bw 571 rfl rfl
set_option maxRecDepth 20000 in
theorem aw_572 : Cond.selects RX1 yX1_isFix yX1_isFix ∈ am_W := bw 572 rfl rfl
set_option maxRecDepth 20000 in
theorem aw_573 : Cond.code yX1_isFix cX1_isFix 2 (some .boolean) ∈ am_W := bw 573 rfl rfl
set_option maxRecDepth 20000 in
theorem aw_574 : Cond.methodLink RX4 190 yX1_removeFix ∈ am_W := bw 574 rfl rfl
set_option maxRecDepth 20000 in
theorem aw_575 : Cond.methodLink RL 74 yX4_correction ∈ am_W := bw 575 rfl rfl
set_option maxRecDepth 20000 in
theorem aw_576 : Cond.instanceMethod yX4_correction ∈ am_W := bw 576 rfl rfl
set_option maxRecDepth 20000 in
theorem aw_577 : Cond.selects RX4 yX4_correction yX4_correction ∈ am_W := bw 577 rfl rfl
set_option maxRecDepth 20000 in
theorem aw_578 : Cond.code yX4_correction cX4_correction 3 (some .int) ∈ am_W := bw 578 rfl rfl
set_option maxRecDepth 20000 in
theorem aw_579 : Cond.methodLink RX4 202 yX3_fixMatters ∈ am_W := bw 579 rfl rfl
set_option maxRecDepth 20000 in
theorem aw_580 : Cond.instanceMethod yX3_fixMatters ∈ am_W := bw 580 rfl rfl
set_option maxRecDepth 20000 in
theorem aw_581 : Cond.selects RX3 yX3_fixMatters yX3_fixMatters ∈ am_W := bw 581 rfl rfl
set_option maxRecDepth 20000 in
theorem aw_582 : Cond.code yX3_fixMatters cX3_fixMatters 4 (some .boolean) ∈ am_W := bw 582 rfl rfl
set_option maxRecDepth 20000 in
theorem aw_583 : Cond.methodLink RL 78 yX4_threadOf ∈ am_W := bw 583 rfl rfl
set_option maxRecDepth 20000 in
theorem aw_584 : Cond.instanceMethod yX4_threadOf ∈ am_W := bw 584 rfl rfl
set_option maxRecDepth 20000 in
theorem aw_585 : Cond.selects RX4 yX4_threadOf yX4_threadOf ∈ am_W := bw 585 rfl rfl
set_option maxRecDepth 20000 in
theorem aw_586 : Cond.code yX4_threadOf cX4_threadOf 4 (some .int) ∈ am_W := bw 586 rfl rfl
set_option maxRecDepth 20000 in
theorem aw_587 : Cond.methodLink RX4 205 yX3_isThread ∈ am_W := bw 587 rfl rfl
set_option maxRecDepth 20000 in
theorem aw_588 : Cond.instanceMethod yX3_isThread ∈ am_W := bw 588 rfl rfl
set_option maxRecDepth 20000 in
theorem aw_589 : Cond.selects RX3 yX3_isThread yX3_isThread ∈ am_W := bw 589 rfl rfl
set_option maxRecDepth 20000 in
theorem aw_590 : Cond.code yX3_isThread cX3_isThread 2 (some .boolean) ∈ am_W := bw 590 rfl rfl
set_option maxRecDepth 20000 in
theorem aw_591 : Cond.methodLink RX4 211 yX3_writersOf ∈ am_W := bw 591 rfl rfl
set_option maxRecDepth 20000 in
theorem aw_592 : Cond.instanceMethod yX3_writersOf ∈ am_W := bw 592 rfl rfl
set_option maxRecDepth 20000 in
theorem aw_593 : Cond.selects RX3 yX3_writersOf yX3_writersOf ∈ am_W := bw 593 rfl rfl
set_option maxRecDepth 20000 in
theorem aw_594 : Cond.code yX3_writersOf cX3_writersOf 4 (some .int) ∈ am_W := bw 594 rfl rfl
set_option maxRecDepth 20000 in
theorem aw_595 : Cond.methodLink RX4 214 yX3_memberOf ∈ am_W := bw 595 rfl rfl
set_option maxRecDepth 20000 in
theorem aw_596 : Cond.instanceMethod yX3_memberOf ∈ am_W := bw 596 rfl rfl
set_option maxRecDepth 20000 in
theorem aw_597 : Cond.selects RX3 yX3_memberOf yX3_memberOf ∈ am_W := bw 597 rfl rfl
set_option maxRecDepth 20000 in
theorem aw_598 : Cond.code yX3_memberOf cX3_memberOf 5 (some .int) ∈ am_W := bw 598 rfl rfl
set_option maxRecDepth 20000 in
theorem aw_599 : Cond.methodLink RX4 220 yX3_spanOf ∈ am_W := bw 599 rfl rfl
set_option maxRecDepth 20000 in
theorem aw_600 : Cond.instanceMethod yX3_spanOf ∈ am_W := bw 600 rfl rfl
set_option maxRecDepth 20000 in
theorem aw_601 : Cond.selects RX3 yX3_spanOf yX3_spanOf ∈ am_W := bw 601 rfl rfl
set_option maxRecDepth 20000 in
theorem aw_602 : Cond.code yX3_spanOf cX3_spanOf 3 (some .int) ∈ am_W := bw 602 rfl rfl
set_option maxRecDepth 20000 in
theorem aw_603 : Cond.methodLink RX3 178 yX3_memberOf ∈ am_W := bw 603 rfl rfl
set_option maxRecDepth 20000 in
theorem aw_604 : Cond.methodLink RX4 223 yX3_greatestGapOf ∈ am_W := bw 604 rfl rfl
set_option maxRecDepth 20000 in
theorem aw_605 : Cond.instanceMethod yX3_greatestGapOf ∈ am_W := bw 605 rfl rfl
set_option maxRecDepth 20000 in
theorem aw_606 : Cond.selects RX3 yX3_greatestGapOf yX3_greatestGapOf ∈ am_W := bw 606 rfl rfl
set_option maxRecDepth 20000 in
theorem aw_607 : Cond.code yX3_greatestGapOf cX3_greatestGapOf 6 (some .int) ∈ am_W := bw 607 rfl rfl
set_option maxRecDepth 20000 in
theorem aw_608 : Cond.methodLink RX4 226 yX3_longestRowOf ∈ am_W := bw 608 rfl rfl
set_option maxRecDepth 20000 in
theorem aw_609 : Cond.instanceMethod yX3_longestRowOf ∈ am_W := bw 609 rfl rfl
set_option maxRecDepth 20000 in
theorem aw_610 : Cond.selects RX3 yX3_longestRowOf yX3_longestRowOf ∈ am_W := bw 610 rfl rfl
set_option maxRecDepth 20000 in
theorem aw_611 : Cond.code yX3_longestRowOf cX3_longestRowOf 4 (some .int) ∈ am_W := bw 611 rfl rfl
set_option maxRecDepth 20000 in
theorem aw_612 : Cond.methodLink RL 82 yX4_lineIn ∈ am_W := bw 612 rfl rfl
set_option maxRecDepth 20000 in
theorem aw_613 : Cond.instanceMethod yX4_lineIn ∈ am_W := bw 613 rfl rfl
set_option maxRecDepth 20000 in
theorem aw_614 : Cond.selects RX4 yX4_lineIn yX4_lineIn ∈ am_W := bw 614 rfl rfl
set_option maxRecDepth 20000 in
theorem aw_615 : Cond.code yX4_lineIn cX4_lineIn 4 (some .int) ∈ am_W := bw 615 rfl rfl
set_option maxRecDepth 20000 in
theorem aw_616 : Cond.methodLink RL 86 yX4_busiest ∈ am_W := bw 616 rfl rfl
set_option maxRecDepth 20000 in
theorem aw_617 : Cond.instanceMethod yX4_busiest ∈ am_W := bw 617 rfl rfl
set_option maxRecDepth 20000 in
theorem aw_618 : Cond.selects RX4 yX4_busiest yX4_busiest ∈ am_W := bw 618 rfl rfl
set_option maxRecDepth 20000 in
theorem aw_619 : Cond.code yX4_busiest cX4_busiest 2 (some .int) ∈ am_W := bw 619 rfl rfl
set_option maxRecDepth 20000 in
theorem aw_620 : Cond.methodLink RX4 229 yX3_ranked ∈ am_W := bw 620 rfl rfl
set_option maxRecDepth 20000 in
theorem aw_621 : Cond.instanceMethod yX3_ranked ∈ am_W := bw 621 rfl rfl
set_option maxRecDepth 20000 in
theorem aw_622 : Cond.selects RX3 yX3_ranked yX3_ranked ∈ am_W := bw 622 rfl rfl
set_option maxRecDepth 20000 in
theorem aw_623 : Cond.code yX3_ranked cX3_ranked 5 (some .int) ∈ am_W := bw 623 rfl rfl
set_option maxRecDepth 20000 in
theorem aw_624 : Cond.methodLink RX3 181 yX3_isBusier ∈ am_W := bw 624 rfl rfl
set_option maxRecDepth 20000 in
theorem aw_626 : Cond.instanceMethod yX3_isBusier ∈ am_W := bw 626 rfl rfl
set_option maxRecDepth 20000 in
theorem aw_627 : Cond.code yX3_isBusier cX3_isBusier 4 (some .boolean) ∈ am_W := bw 627 rfl rfl
set_option maxRecDepth 20000 in
theorem aw_628 : Cond.methodLink RL 90 yX4_answers ∈ am_W := bw 628 rfl rfl
set_option maxRecDepth 20000 in
theorem aw_629 : Cond.instanceMethod yX4_answers ∈ am_W := bw 629 rfl rfl
set_option maxRecDepth 20000 in
theorem aw_630 : Cond.selects RX4 yX4_answers yX4_answers ∈ am_W := bw 630 rfl rfl
set_option maxRecDepth 20000 in
theorem aw_631 : Cond.code yX4_answers cX4_answers 3 (some .int) ∈ am_W := bw 631 rfl rfl
set_option maxRecDepth 20000 in
theorem aw_632 : Cond.methodLink RX4 232 yX3_answersBetween ∈ am_W := bw 632 rfl rfl
set_option maxRecDepth 20000 in
theorem aw_633 : Cond.instanceMethod yX3_answersBetween ∈ am_W := bw 633 rfl rfl
set_option maxRecDepth 20000 in
theorem aw_634 : Cond.selects RX3 yX3_answersBetween yX3_answersBetween ∈ am_W := bw 634 rfl rfl
set_option maxRecDepth 20000 in
theorem aw_635 : Cond.code yX3_answersBetween cX3_answersBetween 6 (some .int) ∈ am_W := bw 635 rfl rfl
set_option maxRecDepth 20000 in
theorem aw_636 : Cond.methodLink RL 94 yX4_partner ∈ am_W := bw 636 rfl rfl
set_option maxRecDepth 20000 in
theorem aw_637 : Cond.instanceMethod yX4_partner ∈ am_W := bw 637 rfl rfl
set_option maxRecDepth 20000 in
theorem aw_638 : Cond.selects RX4 yX4_partner yX4_partner ∈ am_W := bw 638 rfl rfl
set_option maxRecDepth 20000 in
theorem aw_639 : Cond.code yX4_partner cX4_partner 6 (some .int) ∈ am_W := bw 639 rfl rfl
set_option maxRecDepth 20000 in
theorem aw_640 : Cond.methodLink RL 98 yX4_awake ∈ am_W := bw 640 rfl rfl
set_option maxRecDepth 20000 in
theorem aw_641 : Cond.instanceMethod yX4_awake ∈ am_W := bw 641 rfl rfl
set_option maxRecDepth 20000 in
theorem aw_642 : Cond.selects RX4 yX4_awake yX4_awake ∈ am_W := bw 642 rfl rfl
set_option maxRecDepth 20000 in
theorem aw_643 : Cond.code yX4_awake cX4_awake 5 (some .int) ∈ am_W := bw 643 rfl rfl
set_option maxRecDepth 20000 in
theorem aw_644 : Cond.methodLink RX4 235 yX3_isAwake ∈ am_W := bw 644 rfl rfl
set_option maxRecDepth 20000 in
theorem aw_645 : Cond.instanceMethod yX3_isAwake ∈ am_W := bw 645 rfl rfl
set_option maxRecDepth 20000 in
theorem aw_646 : Cond.selects RX3 yX3_isAwake yX3_isAwake ∈ am_W := bw 646 rfl rfl
set_option maxRecDepth 20000 in
theorem aw_647 : Cond.code yX3_isAwake cX3_isAwake 4 (some .boolean) ∈ am_W := bw 647 rfl rfl
set_option maxRecDepth 20000 in
theorem aw_648 : Cond.methodLink RL 102 yX4_threadsWith ∈ am_W := bw 648 rfl rfl
set_option maxRecDepth 20000 in
theorem aw_649 : Cond.instanceMethod yX4_threadsWith ∈ am_W := bw 649 rfl rfl
set_option maxRecDepth 20000 in
theorem aw_650 : Cond.selects RX4 yX4_threadsWith yX4_threadsWith ∈ am_W := bw 650 rfl rfl
set_option maxRecDepth 20000 in
theorem aw_651 : Cond.code yX4_threadsWith cX4_threadsWith 3 (some .int) ∈ am_W := bw 651 rfl rfl
set_option maxRecDepth 20000 in
theorem aw_652 : Cond.methodLink RX4 238 yX1_copyFrom ∈ am_W := bw 652 rfl rfl
set_option maxRecDepth 20000 in
theorem aw_653 : Cond.methodLink RX4 241 yX4_otherThreadCount ∈ am_W := bw 653 rfl rfl
set_option maxRecDepth 20000 in
theorem aw_655 : Cond.instanceMethod yX4_otherThreadCount ∈ am_W := bw 655 rfl rfl
set_option maxRecDepth 20000 in
theorem aw_656 : Cond.code yX4_otherThreadCount cX4_otherThreadCount 1 (some .int) ∈ am_W := bw 656 rfl rfl
set_option maxRecDepth 20000 in
theorem aw_657 : Cond.methodLink RL 106 yX4_threadsWithout ∈ am_W := bw 657 rfl rfl
set_option maxRecDepth 20000 in
theorem aw_658 : Cond.instanceMethod yX4_threadsWithout ∈ am_W := bw 658 rfl rfl
set_option maxRecDepth 20000 in
theorem aw_659 : Cond.selects RX4 yX4_threadsWithout yX4_threadsWithout ∈ am_W := bw 659 rfl rfl
set_option maxRecDepth 20000 in
theorem aw_660 : Cond.code yX4_threadsWithout cX4_threadsWithout 2 (some .int) ∈ am_W := bw 660 rfl rfl
set_option maxRecDepth 20000 in
theorem aw_661 : Cond.methodLink RL 110 yX4_parting ∈ am_W := bw 661 rfl rfl
set_option maxRecDepth 20000 in
theorem aw_662 : Cond.instanceMethod yX4_parting ∈ am_W := bw 662 rfl rfl
set_option maxRecDepth 20000 in
theorem aw_663 : Cond.selects RX4 yX4_parting yX4_parting ∈ am_W := bw 663 rfl rfl
set_option maxRecDepth 20000 in
theorem aw_664 : Cond.code yX4_parting cX4_parting 4 (some .int) ∈ am_W := bw 664 rfl rfl
set_option maxRecDepth 20000 in
theorem aw_665 : Cond.methodLink RX4 250 yX3_scoreMatters ∈ am_W := bw 665 rfl rfl
set_option maxRecDepth 20000 in
theorem aw_666 : Cond.instanceMethod yX3_scoreMatters ∈ am_W := bw 666 rfl rfl
set_option maxRecDepth 20000 in
theorem aw_667 : Cond.selects RX3 yX3_scoreMatters yX3_scoreMatters ∈ am_W := bw 667 rfl rfl
set_option maxRecDepth 20000 in
theorem aw_668 : Cond.code yX3_scoreMatters cX3_scoreMatters 4 (some .boolean) ∈ am_W := bw 668 rfl rfl
set_option maxRecDepth 20000 in
theorem aw_669 : Cond.methodLink RL 114 yX4_type ∈ am_W := bw 669 rfl rfl
set_option maxRecDepth 20000 in
theorem aw_670 : Cond.instanceMethod yX4_type ∈ am_W := bw 670 rfl rfl
set_option maxRecDepth 20000 in
theorem aw_671 : Cond.selects RX4 yX4_type yX4_type ∈ am_W := bw 671 rfl rfl
set_option maxRecDepth 20000 in
theorem aw_672 : Cond.code yX4_type cX4_type 2 (some .int) ∈ am_W := bw 672 rfl rfl
set_option maxRecDepth 20000 in
theorem aw_673 : Cond.methodLink RX4 256 yX2_add ∈ am_W := bw 673 rfl rfl
set_option maxRecDepth 20000 in
theorem aw_674 : Cond.instanceMethod yX2_add ∈ am_W := bw 674 rfl rfl
set_option maxRecDepth 20000 in
theorem aw_675 : Cond.selects RX2 yX2_add yX2_add ∈ am_W := bw 675 rfl rfl
set_option maxRecDepth 20000 in
theorem aw_676 : Cond.code yX2_add cX2_add 2 none ∈ am_W := bw 676 rfl rfl
set_option maxRecDepth 20000 in
theorem aw_677 : Cond.methodLink RL 118 yX4_clearText ∈ am_W := bw 677 rfl rfl
set_option maxRecDepth 20000 in
theorem aw_678 : Cond.instanceMethod yX4_clearText ∈ am_W := bw 678 rfl rfl
set_option maxRecDepth 20000 in
theorem aw_679 : Cond.selects RX4 yX4_clearText yX4_clearText ∈ am_W := bw 679 rfl rfl
set_option maxRecDepth 20000 in
theorem aw_680 : Cond.code yX4_clearText cX4_clearText 2 (some .int) ∈ am_W := bw 680 rfl rfl
set_option maxRecDepth 20000 in
theorem aw_681 : Cond.methodLink RL 122 yX4_fault ∈ am_W := bw 681 rfl rfl
set_option maxRecDepth 20000 in
theorem aw_682 : Cond.instanceMethod yX4_fault ∈ am_W := bw 682 rfl rfl
set_option maxRecDepth 20000 in
theorem aw_683 : Cond.selects RX4 yX4_fault yX4_fault ∈ am_W := bw 683 rfl rfl
set_option maxRecDepth 20000 in
theorem aw_684 : Cond.code yX4_fault cX4_fault 2 (some .int) ∈ am_W := bw 684 rfl rfl
set_option maxRecDepth 20000 in
theorem aw_685 : Cond.methodLink RX4 260 yX2_doneOn ∈ am_W := bw 685 rfl rfl
set_option maxRecDepth 20000 in
theorem aw_686 : Cond.instanceMethod yX2_doneOn ∈ am_W := bw 686 rfl rfl
set_option maxRecDepth 20000 in
theorem aw_687 : Cond.selects RX2 yX2_doneOn yX2_doneOn ∈ am_W := bw 687 rfl rfl
set_option maxRecDepth 20000 in
theorem aw_688 : Cond.code yX2_doneOn cX2_doneOn 3 (some .boolean) ∈ am_W := bw 688 rfl rfl
set_option maxRecDepth 20000 in
theorem aw_689 : Cond.methodLink RX2 39 yX2_readEntry ∈ am_W := bw 689 rfl rfl
set_option maxRecDepth 20000 in
theorem aw_691 : Cond.instanceMethod yX2_readEntry ∈ am_W := bw 691 rfl rfl
set_option maxRecDepth 20000 in
theorem aw_692 : Cond.code yX2_readEntry cX2_readEntry 4 (some .boolean) ∈ am_W := bw 692 rfl rfl
set_option maxRecDepth 20000 in
theorem aw_693 : Cond.methodLink RX2 51 yX2_numbersDue ∈ am_W := bw 693 rfl rfl
set_option maxRecDepth 20000 in
theorem aw_695 : Cond.instanceMethod yX2_numbersDue ∈ am_W := bw 695 rfl rfl
set_option maxRecDepth 20000 in
theorem aw_696 : Cond.code yX2_numbersDue cX2_numbersDue 1 (some .int) ∈ am_W := bw 696 rfl rfl
set_option maxRecDepth 20000 in
theorem aw_697 : Cond.methodLink RX2 55 yX2_readNumber ∈ am_W := bw 697 rfl rfl
set_option maxRecDepth 20000 in
theorem aw_699 : Cond.instanceMethod yX2_readNumber ∈ am_W := bw 699 rfl rfl
set_option maxRecDepth 20000 in
theorem aw_700 : Cond.code yX2_readNumber cX2_readNumber 3 (some .int) ∈ am_W := bw 700 rfl rfl
set_option maxRecDepth 20000 in
theorem aw_701 : Cond.methodLink RX2 43 yX2_entryFault ∈ am_W := bw 701 rfl rfl
set_option maxRecDepth 20000 in
theorem aw_703 : Cond.instanceMethod yX2_entryFault ∈ am_W := bw 703 rfl rfl
set_option maxRecDepth 20000 in
theorem aw_704 : Cond.code yX2_entryFault cX2_entryFault 4 (some .int) ∈ am_W := bw 704 rfl rfl
set_option maxRecDepth 20000 in
theorem aw_705 : Cond.methodLink RX2 58 yX2_lineFault ∈ am_W := bw 705 rfl rfl
set_option maxRecDepth 20000 in
theorem aw_707 : Cond.instanceMethod yX2_lineFault ∈ am_W := bw 707 rfl rfl
set_option maxRecDepth 20000 in
theorem aw_708 : Cond.code yX2_lineFault cX2_lineFault 2 (some .int) ∈ am_W := bw 708 rfl rfl
set_option maxRecDepth 20000 in
theorem aw_712 : Cond.methodLink RX2 61 yX2_kindOfFix ∈ am_W := bw 712 rfl rfl
set_option maxRecDepth 20000 in
theorem aw_714 : Cond.instanceMethod yX2_kindOfFix ∈ am_W := bw 714 rfl rfl
set_option maxRecDepth 20000 in
theorem aw_715 : Cond.code yX2_kindOfFix cX2_kindOfFix 1 (some .int) ∈ am_W := bw 715 rfl rfl
set_option maxRecDepth 20000 in
theorem aw_716 : Cond.methodLink RX2 64 yX2_earlierOfFix ∈ am_W := bw 716 rfl rfl
set_option maxRecDepth 20000 in
theorem aw_718 : Cond.instanceMethod yX2_earlierOfFix ∈ am_W := bw 718 rfl rfl
set_option maxRecDepth 20000 in
theorem aw_719 : Cond.code yX2_earlierOfFix cX2_earlierOfFix 1 (some .int) ∈ am_W := bw 719 rfl rfl
set_option maxRecDepth 20000 in
theorem aw_720 : Cond.methodLink RX2 67 yX1_isLine ∈ am_W := bw 720 rfl rfl
set_option maxRecDepth 20000 in
theorem aw_721 : Cond.methodLink RX2 73 yX1_canBeFixed ∈ am_W := bw 721 rfl rfl
set_option maxRecDepth 20000 in
theorem aw_722 : Cond.methodLink RX2 47 yX2_doEntry ∈ am_W := bw 722 rfl rfl
set_option maxRecDepth 20000 in
theorem aw_724 : Cond.instanceMethod yX2_doEntry ∈ am_W := bw 724 rfl rfl
set_option maxRecDepth 20000 in
theorem aw_725 : Cond.code yX2_doEntry cX2_doEntry 2 none ∈ am_W := bw 725 rfl rfl
set_option maxRecDepth 20000 in
theorem aw_726 : Cond.methodLink RX2 92 yX1_addLine ∈ am_W := bw 726 rfl rfl
set_option maxRecDepth 20000 in
theorem aw_727 : Cond.methodLink RX2 96 yX1_addFix ∈ am_W := bw 727 rfl rfl
set_option maxRecDepth 20000 in
theorem aw_728 : Cond.methodLink RL 126 yX4_load ∈ am_W := bw 728 rfl rfl
set_option maxRecDepth 20000 in
theorem aw_729 : Cond.instanceMethod yX4_load ∈ am_W := bw 729 rfl rfl
set_option maxRecDepth 20000 in
theorem aw_730 : Cond.selects RX4 yX4_load yX4_load ∈ am_W := bw 730 rfl rfl
set_option maxRecDepth 20000 in
theorem aw_731 : Cond.code yX4_load cX4_load 1 (some .int) ∈ am_W := bw 731 rfl rfl
set_option maxRecDepth 20000 in
theorem aw_732 : Cond.classLink RL 10 RX5 ∈ am_W := bw 732 rfl rfl
set_option maxRecDepth 20000 in
theorem aw_733 : Cond.instantiable RX5 21 ∈ am_W := bw 733 rfl rfl
set_option maxRecDepth 20000 in
theorem aw_734 : Cond.methodLink RL 12 yX5_init ∈ am_W := bw 734 rfl rfl
set_option maxRecDepth 20000 in
theorem aw_735 : Cond.instanceMethod yX5_init ∈ am_W := bw 735 rfl rfl
set_option maxRecDepth 20000 in
theorem aw_736 : Cond.code yX5_init cX5_init 1 none ∈ am_W := bw 736 rfl rfl
set_option maxRecDepth 20000 in
theorem aw_737 : Cond.methodLink RX5 1 objectInit ∈ am_W := bw 737 rfl rfl
set_option maxRecDepth 20000 in
theorem aw_738 : Cond.fieldLink RX5 7 "ChatThreadsModel" "s" "[I" ∈ am_W := bw 738 rfl rfl
set_option maxRecDepth 20000 in
theorem aw_739 : Cond.fieldLink RX5 13 "ChatThreadsModel" "w" "[I" ∈ am_W := bw 739 rfl rfl
set_option maxRecDepth 20000 in
theorem aw_740 : Cond.fieldLink RX5 16 "ChatThreadsModel" "past" "[I" ∈ am_W := bw 740 rfl rfl
set_option maxRecDepth 20000 in
theorem aw_741 : Cond.fieldLink RX5 52 "ChatThreadsModel" "pasts" "I" ∈ am_W := bw 741 rfl rfl
set_option maxRecDepth 20000 in
theorem aw_742 : Cond.fieldLink RX5 19 "ChatThreadsModel" "text" "[I" ∈ am_W := bw 742 rfl rfl
set_option maxRecDepth 20000 in
theorem aw_743 : Cond.fieldLink RX5 165 "ChatThreadsModel" "typed" "I" ∈ am_W := bw 743 rfl rfl
set_option maxRecDepth 20000 in
theorem aw_744 : Cond.fieldLink RX5 22 "ChatThreadsModel" "order" "[I" ∈ am_W := bw 744 rfl rfl
set_option maxRecDepth 20000 in
theorem aw_745 : Cond.fieldLink RX5 25 "ChatThreadsModel" "place" "[I" ∈ am_W := bw 745 rfl rfl
set_option maxRecDepth 20000 in
theorem aw_746 : Cond.fieldLink RX5 28 "ChatThreadsModel" "spoken" "[I" ∈ am_W := bw 746 rfl rfl
set_option maxRecDepth 20000 in
theorem aw_747 : Cond.fieldLink RX5 31 "ChatThreadsModel" "scores" "[I" ∈ am_W := bw 747 rfl rfl
set_option maxRecDepth 20000 in
theorem aw_748 : Cond.fieldLink RX5 34 "ChatThreadsModel" "answer" "[I" ∈ am_W := bw 748 rfl rfl
set_option maxRecDepth 20000 in
theorem aw_749 : Cond.fieldLink RX5 37 "ChatThreadsModel" "thread" "[I" ∈ am_W := bw 749 rfl rfl
set_option maxRecDepth 20000 in
theorem aw_750 : Cond.fieldLink RX5 40 "ChatThreadsModel" "joined" "[I" ∈ am_W := bw 750 rfl rfl
set_option maxRecDepth 20000 in
theorem aw_751 : Cond.fieldLink RX5 43 "ChatThreadsModel" "number" "[I" ∈ am_W := bw 751 rfl rfl
set_option maxRecDepth 20000 in
theorem aw_752 : Cond.fieldLink RX5 117 "ChatThreadsModel" "threads" "I" ∈ am_W := bw 752 rfl rfl
set_option maxRecDepth 20000 in
theorem aw_753 : Cond.fieldLink RX5 46 "ChatThreadsModel" "row" "[I" ∈ am_W := bw 753 rfl rfl
set_option maxRecDepth 20000 in
theorem aw_754 : Cond.fieldLink RX5 202 "ChatThreadsModel" "spot" "I" ∈ am_W := bw 754 rfl rfl
set_option maxRecDepth 20000 in
theorem aw_755 : Cond.fieldLink RX5 205 "ChatThreadsModel" "letter" "I" ∈ am_W := bw 755 rfl rfl
set_option maxRecDepth 20000 in
theorem aw_756 : Cond.fieldLink RX5 49 "ChatThreadsModel" "read" "[I" ∈ am_W := bw 756 rfl rfl
set_option maxRecDepth 20000 in
theorem aw_757 : Cond.fieldLink RX5 218 "ChatThreadsModel" "faultAt" "I" ∈ am_W := bw 757 rfl rfl
set_option maxRecDepth 20000 in
theorem aw_758 : Cond.fieldLink RX5 215 "ChatThreadsModel" "entries" "I" ∈ am_W := bw 758 rfl rfl
set_option maxRecDepth 20000 in
theorem aw_759 : Cond.laysFinal RX5 "ChatThreadsModel" "s" "[I" ∈ am_W := bw 759 rfl rfl
set_option maxRecDepth 20000 in
theorem aw_761 : Cond.laysFinal RX5 "ChatThreadsModel" "w" "[I" ∈ am_W := bw 761 rfl rfl
set_option maxRecDepth 20000 in
theorem aw_763 : Cond.laysFinal RX5 "ChatThreadsModel" "past" "[I" ∈ am_W := bw 763 rfl rfl
set_option maxRecDepth 20000 in
theorem aw_765 : Cond.lays RX5 "ChatThreadsModel" "pasts" "I" ∈ am_W := bw 765 rfl rfl
set_option maxRecDepth 20000 in
theorem aw_767 : Cond.laysFinal RX5 "ChatThreadsModel" "text" "[I" ∈ am_W := bw 767 rfl rfl
set_option maxRecDepth 20000 in
theorem aw_769 : Cond.lays RX5 "ChatThreadsModel" "typed" "I" ∈ am_W := bw 769 rfl rfl
set_option maxRecDepth 20000 in
theorem aw_771 : Cond.laysFinal RX5 "ChatThreadsModel" "order" "[I" ∈ am_W := bw 771 rfl rfl
set_option maxRecDepth 20000 in
theorem aw_773 : Cond.laysFinal RX5 "ChatThreadsModel" "place" "[I" ∈ am_W := bw 773 rfl rfl
set_option maxRecDepth 20000 in
theorem aw_775 : Cond.laysFinal RX5 "ChatThreadsModel" "spoken" "[I" ∈ am_W := bw 775 rfl rfl
set_option maxRecDepth 20000 in
theorem aw_777 : Cond.laysFinal RX5 "ChatThreadsModel" "scores" "[I" ∈ am_W := bw 777 rfl rfl
set_option maxRecDepth 20000 in
theorem aw_779 : Cond.laysFinal RX5 "ChatThreadsModel" "answer" "[I" ∈ am_W := bw 779 rfl rfl
set_option maxRecDepth 20000 in
theorem aw_781 : Cond.laysFinal RX5 "ChatThreadsModel" "thread" "[I" ∈ am_W := bw 781 rfl rfl
set_option maxRecDepth 20000 in
theorem aw_783 : Cond.laysFinal RX5 "ChatThreadsModel" "joined" "[I" ∈ am_W := bw 783 rfl rfl
set_option maxRecDepth 20000 in
theorem aw_785 : Cond.laysFinal RX5 "ChatThreadsModel" "number" "[I" ∈ am_W := bw 785 rfl rfl
set_option maxRecDepth 20000 in
theorem aw_787 : Cond.lays RX5 "ChatThreadsModel" "threads" "I" ∈ am_W := bw 787 rfl rfl
set_option maxRecDepth 20000 in
theorem aw_789 : Cond.laysFinal RX5 "ChatThreadsModel" "row" "[I" ∈ am_W := bw 789 rfl rfl
set_option maxRecDepth 20000 in
theorem aw_791 : Cond.lays RX5 "ChatThreadsModel" "spot" "I" ∈ am_W := bw 791 rfl rfl
set_option maxRecDepth 20000 in
theorem aw_793 : Cond.lays RX5 "ChatThreadsModel" "letter" "I" ∈ am_W := bw 793 rfl rfl
set_option maxRecDepth 20000 in
theorem aw_795 : Cond.laysFinal RX5 "ChatThreadsModel" "read" "[I" ∈ am_W := bw 795 rfl rfl
set_option maxRecDepth 20000 in
theorem aw_797 : Cond.lays RX5 "ChatThreadsModel" "faultAt" "I" ∈ am_W := bw 797 rfl rfl
set_option maxRecDepth 20000 in
theorem aw_799 : Cond.lays RX5 "ChatThreadsModel" "entries" "I" ∈ am_W := bw 799 rfl rfl
set_option maxRecDepth 20000 in
theorem aw_802 : Cond.methodLink RL 17 yX5_takes ∈ am_W := bw 802 rfl rfl
set_option maxRecDepth 20000 in
theorem aw_803 : Cond.instanceMethod yX5_takes ∈ am_W := bw 803 rfl rfl
set_option maxRecDepth 20000 in
theorem aw_804 : Cond.selects RX5 yX5_takes yX5_takes ∈ am_W := bw 804 rfl rfl
set_option maxRecDepth 20000 in
theorem aw_805 : Cond.code yX5_takes cX5_takes 6 (some .int) ∈ am_W := bw 805 rfl rfl
set_option maxRecDepth 20000 in
theorem aw_806 : Cond.methodLink RX5 60 yX5_in ∈ am_W := bw 806 rfl rfl
set_option maxRecDepth 20000 in
theorem aw_807 : Cond.static yX5_in ∈ am_W := bw 807 rfl rfl
set_option maxRecDepth 20000 in
theorem aw_808 : Cond.code yX5_in cX5_in 3 (some .boolean) ∈ am_W := bw 808 rfl rfl
set_option maxRecDepth 20000 in
theorem aw_809 : Cond.constant RX5 64 (100000) ∈ am_W := bw 809 rfl rfl
set_option maxRecDepth 20000 in
theorem aw_810 : Cond.methodLink RX5 65 yX5_holder ∈ am_W := bw 810 rfl rfl
set_option maxRecDepth 20000 in
theorem aw_811 : Cond.static yX5_holder ∈ am_W := bw 811 rfl rfl
set_option maxRecDepth 20000 in
theorem aw_812 : Cond.code yX5_holder cX5_holder 5 (some .int) ∈ am_W := bw 812 rfl rfl
set_option maxRecDepth 20000 in
theorem aw_813 : Cond.methodLink RX5 56 yX5_nameAt ∈ am_W := bw 813 rfl rfl
set_option maxRecDepth 20000 in
theorem aw_814 : Cond.static yX5_nameAt ∈ am_W := bw 814 rfl rfl
set_option maxRecDepth 20000 in
theorem aw_815 : Cond.code yX5_nameAt cX5_nameAt 6 (some .int) ∈ am_W := bw 815 rfl rfl
set_option maxRecDepth 20000 in
theorem aw_816 : Cond.methodLink RX5 68 yX5_changes ∈ am_W := bw 816 rfl rfl
set_option maxRecDepth 20000 in
theorem aw_818 : Cond.instanceMethod yX5_changes ∈ am_W := bw 818 rfl rfl
set_option maxRecDepth 20000 in
theorem aw_819 : Cond.code yX5_changes cX5_changes 2 none ∈ am_W := bw 819 rfl rfl
set_option maxRecDepth 20000 in
theorem aw_820 : Cond.methodLink RL 22 yX5_nameOf ∈ am_W := bw 820 rfl rfl
set_option maxRecDepth 20000 in
theorem aw_821 : Cond.instanceMethod yX5_nameOf ∈ am_W := bw 821 rfl rfl
set_option maxRecDepth 20000 in
theorem aw_822 : Cond.selects RX5 yX5_nameOf yX5_nameOf ∈ am_W := bw 822 rfl rfl
set_option maxRecDepth 20000 in
theorem aw_823 : Cond.code yX5_nameOf cX5_nameOf 3 (some .int) ∈ am_W := bw 823 rfl rfl
set_option maxRecDepth 20000 in
theorem aw_824 : Cond.methodLink RL 26 yX5_whoHas ∈ am_W := bw 824 rfl rfl
set_option maxRecDepth 20000 in
theorem aw_825 : Cond.instanceMethod yX5_whoHas ∈ am_W := bw 825 rfl rfl
set_option maxRecDepth 20000 in
theorem aw_826 : Cond.selects RX5 yX5_whoHas yX5_whoHas ∈ am_W := bw 826 rfl rfl
set_option maxRecDepth 20000 in
theorem aw_827 : Cond.code yX5_whoHas cX5_whoHas 3 (some .int) ∈ am_W := bw 827 rfl rfl
set_option maxRecDepth 20000 in
theorem aw_828 : Cond.methodLink RL 31 yX5_line ∈ am_W := bw 828 rfl rfl
set_option maxRecDepth 20000 in
theorem aw_829 : Cond.instanceMethod yX5_line ∈ am_W := bw 829 rfl rfl
set_option maxRecDepth 20000 in
theorem aw_830 : Cond.selects RX5 yX5_line yX5_line ∈ am_W := bw 830 rfl rfl
set_option maxRecDepth 20000 in
theorem aw_831 : Cond.code yX5_line cX5_line 5 (some .int) ∈ am_W := bw 831 rfl rfl
set_option maxRecDepth 20000 in
theorem aw_832 : Cond.methodLink RX5 127 yX5_isTold ∈ am_W := bw 832 rfl rfl
set_option maxRecDepth 20000 in
theorem aw_833 : Cond.static yX5_isTold ∈ am_W := bw 833 rfl rfl
set_option maxRecDepth 20000 in
theorem aw_834 : Cond.code yX5_isTold cX5_isTold 4 (some .boolean) ∈ am_W := bw 834 rfl rfl
set_option maxRecDepth 20000 in
theorem aw_835 : Cond.constant RX5 126 (65535) ∈ am_W := bw 835 rfl rfl
set_option maxRecDepth 20000 in
theorem aw_836 : Cond.methodLink RX5 131 yX5_adds ∈ am_W := bw 836 rfl rfl
set_option maxRecDepth 20000 in
theorem aw_838 : Cond.instanceMethod yX5_adds ∈ am_W := bw 838 rfl rfl
set_option maxRecDepth 20000 in
theorem aw_839 : Cond.code yX5_adds cX5_adds 6 none ∈ am_W := bw 839 rfl rfl
set_option maxRecDepth 20000 in
theorem aw_840 : Cond.methodLink RL 36 yX5_drop ∈ am_W := bw 840 rfl rfl
set_option maxRecDepth 20000 in
theorem aw_841 : Cond.instanceMethod yX5_drop ∈ am_W := bw 841 rfl rfl
set_option maxRecDepth 20000 in
theorem aw_842 : Cond.selects RX5 yX5_drop yX5_drop ∈ am_W := bw 842 rfl rfl
set_option maxRecDepth 20000 in
theorem aw_843 : Cond.code yX5_drop cX5_drop 2 (some .int) ∈ am_W := bw 843 rfl rfl
set_option maxRecDepth 20000 in
theorem aw_844 : Cond.methodLink RX5 138 yX5_isLine ∈ am_W := bw 844 rfl rfl
set_option maxRecDepth 20000 in
theorem aw_846 : Cond.instanceMethod yX5_isLine ∈ am_W := bw 846 rfl rfl
set_option maxRecDepth 20000 in
theorem aw_847 : Cond.code yX5_isLine cX5_isLine 2 (some .boolean) ∈ am_W := bw 847 rfl rfl
set_option maxRecDepth 20000 in
theorem aw_848 : Cond.methodLink RX5 142 yX5_drops ∈ am_W := bw 848 rfl rfl
set_option maxRecDepth 20000 in
theorem aw_849 : Cond.static yX5_drops ∈ am_W := bw 849 rfl rfl
set_option maxRecDepth 20000 in
theorem aw_850 : Cond.code yX5_drops cX5_drops 4 none ∈ am_W := bw 850 rfl rfl
set_option maxRecDepth 20000 in
theorem aw_851 : Cond.methodLink RX5 89 yX5_told ∈ am_W := bw 851 rfl rfl
set_option maxRecDepth 20000 in
theorem aw_852 : Cond.static yX5_told ∈ am_W := bw 852 rfl rfl
set_option maxRecDepth 20000 in
theorem aw_853 : Cond.code yX5_told cX5_told 3 (some .int) ∈ am_W := bw 853 rfl rfl
set_option maxRecDepth 20000 in
theorem aw_854 : Cond.methodLink RX5 135 yX5_goes ∈ am_W := bw 854 rfl rfl
set_option maxRecDepth 20000 in
theorem aw_855 : Cond.static yX5_goes ∈ am_W := bw 855 rfl rfl
set_option maxRecDepth 20000 in
theorem aw_856 : Cond.code yX5_goes cX5_goes 3 none ∈ am_W := bw 856 rfl rfl
set_option maxRecDepth 20000 in
theorem aw_857 : Cond.methodLink RL 40 yX5_lineOf ∈ am_W := bw 857 rfl rfl
set_option maxRecDepth 20000 in
theorem aw_858 : Cond.instanceMethod yX5_lineOf ∈ am_W := bw 858 rfl rfl
set_option maxRecDepth 20000 in
theorem aw_859 : Cond.selects RX5 yX5_lineOf yX5_lineOf ∈ am_W := bw 859 rfl rfl
set_option maxRecDepth 20000 in
theorem aw_860 : Cond.code yX5_lineOf cX5_lineOf 3 (some .int) ∈ am_W := bw 860 rfl rfl
set_option maxRecDepth 20000 in
theorem aw_861 : Cond.methodLink RX5 145 yX5_lays ∈ am_W := bw 861 rfl rfl
set_option maxRecDepth 20000 in
theorem aw_863 : Cond.instanceMethod yX5_lays ∈ am_W := bw 863 rfl rfl
set_option maxRecDepth 20000 in
theorem aw_864 : Cond.code yX5_lays cX5_lays 2 none ∈ am_W := bw 864 rfl rfl
set_option maxRecDepth 20000 in
theorem aw_865 : Cond.methodLink RX5 120 yX5_laysScores ∈ am_W := bw 865 rfl rfl
set_option maxRecDepth 20000 in
theorem aw_867 : Cond.instanceMethod yX5_laysScores ∈ am_W := bw 867 rfl rfl
set_option maxRecDepth 20000 in
theorem aw_868 : Cond.code yX5_laysScores cX5_laysScores 4 none ∈ am_W := bw 868 rfl rfl
set_option maxRecDepth 20000 in
theorem aw_869 : Cond.methodLink RX5 82 yX5_laysOrder ∈ am_W := bw 869 rfl rfl
set_option maxRecDepth 20000 in
theorem aw_871 : Cond.instanceMethod yX5_laysOrder ∈ am_W := bw 871 rfl rfl
set_option maxRecDepth 20000 in
theorem aw_872 : Cond.code yX5_laysOrder cX5_laysOrder 5 none ∈ am_W := bw 872 rfl rfl
set_option maxRecDepth 20000 in
theorem aw_873 : Cond.methodLink RX5 71 yX5_of ∈ am_W := bw 873 rfl rfl
set_option maxRecDepth 20000 in
theorem aw_874 : Cond.static yX5_of ∈ am_W := bw 874 rfl rfl
set_option maxRecDepth 20000 in
theorem aw_875 : Cond.code yX5_of cX5_of 3 (some .int) ∈ am_W := bw 875 rfl rfl
set_option maxRecDepth 20000 in
theorem aw_876 : Cond.methodLink RX5 74 yX5_speaksTo ∈ am_W := bw 876 rfl rfl
set_option maxRecDepth 20000 in
theorem aw_877 : Cond.static yX5_speaksTo ∈ am_W := bw 877 rfl rfl
set_option maxRecDepth 20000 in
theorem aw_878 : Cond.code yX5_speaksTo cX5_speaksTo 5 (some .int) ∈ am_W := bw 878 rfl rfl
set_option maxRecDepth 20000 in
theorem aw_879 : Cond.methodLink RX5 86 yX5_scoreOf ∈ am_W := bw 879 rfl rfl
set_option maxRecDepth 20000 in
theorem aw_881 : Cond.instanceMethod yX5_scoreOf ∈ am_W := bw 881 rfl rfl
set_option maxRecDepth 20000 in
theorem aw_882 : Cond.code yX5_scoreOf cX5_scoreOf 7 (some .int) ∈ am_W := bw 882 rfl rfl
set_option maxRecDepth 20000 in
theorem aw_883 : Cond.methodLink RX5 78 yX5_ones ∈ am_W := bw 883 rfl rfl
set_option maxRecDepth 20000 in
theorem aw_884 : Cond.static yX5_ones ∈ am_W := bw 884 rfl rfl
set_option maxRecDepth 20000 in
theorem aw_885 : Cond.code yX5_ones cX5_ones 3 (some .int) ∈ am_W := bw 885 rfl rfl
set_option maxRecDepth 20000 in
theorem aw_886 : Cond.methodLink RX5 123 yX5_laysThreads ∈ am_W := bw 886 rfl rfl
set_option maxRecDepth 20000 in
theorem aw_888 : Cond.instanceMethod yX5_laysThreads ∈ am_W := bw 888 rfl rfl
set_option maxRecDepth 20000 in
theorem aw_889 : Cond.code yX5_laysThreads cX5_laysThreads 4 none ∈ am_W := bw 889 rfl rfl
set_option maxRecDepth 20000 in
theorem aw_890 : Cond.methodLink RX5 110 yX5_answerOf ∈ am_W := bw 890 rfl rfl
set_option maxRecDepth 20000 in
theorem aw_892 : Cond.instanceMethod yX5_answerOf ∈ am_W := bw 892 rfl rfl
set_option maxRecDepth 20000 in
theorem aw_893 : Cond.code yX5_answerOf cX5_answerOf 9 (some .int) ∈ am_W := bw 893 rfl rfl
set_option maxRecDepth 20000 in
theorem aw_894 : Cond.methodLink RX5 96 yX5_counting ∈ am_W := bw 894 rfl rfl
set_option maxRecDepth 20000 in
theorem aw_895 : Cond.static yX5_counting ∈ am_W := bw 895 rfl rfl
set_option maxRecDepth 20000 in
theorem aw_896 : Cond.code yX5_counting cX5_counting 4 (some .int) ∈ am_W := bw 896 rfl rfl
set_option maxRecDepth 20000 in
theorem aw_897 : Cond.methodLink RX5 99 yX5_might ∈ am_W := bw 897 rfl rfl
set_option maxRecDepth 20000 in
theorem aw_899 : Cond.instanceMethod yX5_might ∈ am_W := bw 899 rfl rfl
set_option maxRecDepth 20000 in
theorem aw_900 : Cond.code yX5_might cX5_might 6 (some .boolean) ∈ am_W := bw 900 rfl rfl
set_option maxRecDepth 20000 in
theorem aw_901 : Cond.methodLink RX5 92 yX5_find ∈ am_W := bw 901 rfl rfl
set_option maxRecDepth 20000 in
theorem aw_902 : Cond.static yX5_find ∈ am_W := bw 902 rfl rfl
set_option maxRecDepth 20000 in
theorem aw_903 : Cond.code yX5_find cX5_find 7 (some .int) ∈ am_W := bw 903 rfl rfl
set_option maxRecDepth 20000 in
theorem aw_904 : Cond.methodLink RX5 113 yX5_joins ∈ am_W := bw 904 rfl rfl
set_option maxRecDepth 20000 in
theorem aw_906 : Cond.instanceMethod yX5_joins ∈ am_W := bw 906 rfl rfl
set_option maxRecDepth 20000 in
theorem aw_907 : Cond.code yX5_joins cX5_joins 8 none ∈ am_W := bw 907 rfl rfl
set_option maxRecDepth 20000 in
theorem aw_908 : Cond.methodLink RX5 103 yX5_speaksToBoth ∈ am_W := bw 908 rfl rfl
set_option maxRecDepth 20000 in
theorem aw_910 : Cond.instanceMethod yX5_speaksToBoth ∈ am_W := bw 910 rfl rfl
set_option maxRecDepth 20000 in
theorem aw_911 : Cond.code yX5_speaksToBoth cX5_speaksToBoth 7 (some .boolean) ∈ am_W := bw 911 rfl rfl
set_option maxRecDepth 20000 in
theorem aw_912 : Cond.methodLink RX5 106 yX5_unites ∈ am_W := bw 912 rfl rfl
set_option maxRecDepth 20000 in
theorem aw_914 : Cond.instanceMethod yX5_unites ∈ am_W := bw 914 rfl rfl
set_option maxRecDepth 20000 in
theorem aw_915 : Cond.code yX5_unites cX5_unites 5 none ∈ am_W := bw 915 rfl rfl
set_option maxRecDepth 20000 in
theorem aw_916 : Cond.methodLink RX5 148 yX5_answeredBy ∈ am_W := bw 916 rfl rfl
set_option maxRecDepth 20000 in
theorem aw_918 : Cond.instanceMethod yX5_answeredBy ∈ am_W := bw 918 rfl rfl
set_option maxRecDepth 20000 in
theorem aw_919 : Cond.code yX5_answeredBy cX5_answeredBy 4 (some .int) ∈ am_W := bw 919 rfl rfl
set_option maxRecDepth 20000 in
theorem aw_920 : Cond.methodLink RL 44 yX5_inOrder ∈ am_W := bw 920 rfl rfl
set_option maxRecDepth 20000 in
theorem aw_921 : Cond.instanceMethod yX5_inOrder ∈ am_W := bw 921 rfl rfl
set_option maxRecDepth 20000 in
theorem aw_922 : Cond.selects RX5 yX5_inOrder yX5_inOrder ∈ am_W := bw 922 rfl rfl
set_option maxRecDepth 20000 in
theorem aw_923 : Cond.code yX5_inOrder cX5_inOrder 2 (some .int) ∈ am_W := bw 923 rfl rfl
set_option maxRecDepth 20000 in
theorem aw_924 : Cond.methodLink RL 48 yX5_score ∈ am_W := bw 924 rfl rfl
set_option maxRecDepth 20000 in
theorem aw_925 : Cond.instanceMethod yX5_score ∈ am_W := bw 925 rfl rfl
set_option maxRecDepth 20000 in
theorem aw_926 : Cond.selects RX5 yX5_score yX5_score ∈ am_W := bw 926 rfl rfl
set_option maxRecDepth 20000 in
theorem aw_927 : Cond.code yX5_score cX5_score 3 (some .int) ∈ am_W := bw 927 rfl rfl
set_option maxRecDepth 20000 in
theorem aw_928 : Cond.methodLink RL 52 yX5_reason ∈ am_W := bw 928 rfl rfl
set_option maxRecDepth 20000 in
theorem aw_929 : Cond.instanceMethod yX5_reason ∈ am_W := bw 929 rfl rfl
set_option maxRecDepth 20000 in
theorem aw_930 : Cond.selects RX5 yX5_reason yX5_reason ∈ am_W := bw 930 rfl rfl
set_option maxRecDepth 20000 in
theorem aw_931 : Cond.code yX5_reason cX5_reason 3 (some .int) ∈ am_W := bw 931 rfl rfl
set_option maxRecDepth 20000 in
theorem aw_932 : Cond.methodLink RX5 151 yX5_reasonOf ∈ am_W := bw 932 rfl rfl
set_option maxRecDepth 20000 in
theorem aw_934 : Cond.instanceMethod yX5_reasonOf ∈ am_W := bw 934 rfl rfl
set_option maxRecDepth 20000 in
theorem aw_935 : Cond.code yX5_reasonOf cX5_reasonOf 6 (some .int) ∈ am_W := bw 935 rfl rfl
set_option maxRecDepth 20000 in
theorem aw_936 : Cond.methodLink RL 56 yX5_set ∈ am_W := bw 936 rfl rfl
set_option maxRecDepth 20000 in
theorem aw_937 : Cond.instanceMethod yX5_set ∈ am_W := bw 937 rfl rfl
set_option maxRecDepth 20000 in
theorem aw_938 : Cond.selects RX5 yX5_set yX5_set ∈ am_W := bw 938 rfl rfl
set_option maxRecDepth 20000 in
theorem aw_939 : Cond.code yX5_set cX5_set 4 (some .int) ∈ am_W := bw 939 rfl rfl
set_option maxRecDepth 20000 in
theorem aw_940 : Cond.methodLink RX5 158 yX5_isSetting ∈ am_W := bw 940 rfl rfl
set_option maxRecDepth 20000 in
theorem aw_941 : Cond.static yX5_isSetting ∈ am_W := bw 941 rfl rfl
set_option maxRecDepth 20000 in
theorem aw_942 : Cond.code yX5_isSetting cX5_isSetting 2 (some .boolean) ∈ am_W := bw 942 rfl rfl
set_option maxRecDepth 20000 in
theorem aw_943 : Cond.methodLink RX5 155 yX5_most ∈ am_W := bw 943 rfl rfl
set_option maxRecDepth 20000 in
theorem aw_944 : Cond.static yX5_most ∈ am_W := bw 944 rfl rfl
set_option maxRecDepth 20000 in
theorem aw_945 : Cond.code yX5_most cX5_most 1 (some .int) ∈ am_W := bw 945 rfl rfl
set_option maxRecDepth 20000 in
theorem aw_946 : Cond.methodLink RL 60 yX5_count ∈ am_W := bw 946 rfl rfl
set_option maxRecDepth 20000 in
theorem aw_947 : Cond.instanceMethod yX5_count ∈ am_W := bw 947 rfl rfl
set_option maxRecDepth 20000 in
theorem aw_948 : Cond.selects RX5 yX5_count yX5_count ∈ am_W := bw 948 rfl rfl
set_option maxRecDepth 20000 in
theorem aw_949 : Cond.code yX5_count cX5_count 2 (some .int) ∈ am_W := bw 949 rfl rfl
set_option maxRecDepth 20000 in
theorem aw_950 : Cond.methodLink RX5 162 yX5_sumOf ∈ am_W := bw 950 rfl rfl
set_option maxRecDepth 20000 in
theorem aw_952 : Cond.instanceMethod yX5_sumOf ∈ am_W := bw 952 rfl rfl
set_option maxRecDepth 20000 in
theorem aw_953 : Cond.code yX5_sumOf cX5_sumOf 4 (some .int) ∈ am_W := bw 953 rfl rfl
set_option maxRecDepth 20000 in
theorem aw_954 : Cond.methodLink RL 65 yX5_undo ∈ am_W := bw 954 rfl rfl
set_option maxRecDepth 20000 in
theorem aw_955 : Cond.instanceMethod yX5_undo ∈ am_W := bw 955 rfl rfl
set_option maxRecDepth 20000 in
theorem aw_956 : Cond.selects RX5 yX5_undo yX5_undo ∈ am_W := bw 956 rfl rfl
set_option maxRecDepth 20000 in
theorem aw_957 : Cond.code yX5_undo cX5_undo 2 (some .int) ∈ am_W := bw 957 rfl rfl
set_option maxRecDepth 20000 in
theorem aw_958 : Cond.methodLink RL 69 yX5_correct ∈ am_W := bw 958 rfl rfl
set_option maxRecDepth 20000 in
theorem aw_959 : Cond.instanceMethod yX5_correct ∈ am_W := bw 959 rfl rfl
set_option maxRecDepth 20000 in
theorem aw_960 : Cond.selects RX5 yX5_correct yX5_correct ∈ am_W := bw 960 rfl rfl
set_option maxRecDepth 20000 in
theorem aw_961 : Cond.code yX5_correct cX5_correct 4 (some .int) ∈ am_W := bw 961 rfl rfl
set_option maxRecDepth 20000 in
theorem aw_962 : Cond.methodLink RX5 171 yX5_canTell ∈ am_W := bw 962 rfl rfl
set_option maxRecDepth 20000 in
theorem aw_964 : Cond.instanceMethod yX5_canTell ∈ am_W := bw 964 rfl rfl
set_option maxRecDepth 20000 in
theorem aw_965 : Cond.code yX5_canTell cX5_canTell 4 (some .boolean) ∈ am_W := bw 965 rfl rfl
set_option maxRecDepth 20000 in
theorem aw_966 : Cond.methodLink RX5 168 yX5_isEarlier ∈ am_W := bw 966 rfl rfl
set_option maxRecDepth 20000 in
theorem aw_968 : Cond.instanceMethod yX5_isEarlier ∈ am_W := bw 968 rfl rfl
set_option maxRecDepth 20000 in
theorem aw_969 : Cond.code yX5_isEarlier cX5_isEarlier 4 (some .boolean) ∈ am_W := bw 969 rfl rfl
set_option maxRecDepth 20000 in
theorem aw_970 : Cond.methodLink RX5 174 yX5_tells ∈ am_W := bw 970 rfl rfl
set_option maxRecDepth 20000 in
theorem aw_972 : Cond.instanceMethod yX5_tells ∈ am_W := bw 972 rfl rfl
set_option maxRecDepth 20000 in
theorem aw_973 : Cond.code yX5_tells cX5_tells 5 none ∈ am_W := bw 973 rfl rfl
set_option maxRecDepth 20000 in
theorem aw_974 : Cond.methodLink RL 73 yX5_withdraw ∈ am_W := bw 974 rfl rfl
set_option maxRecDepth 20000 in
theorem aw_975 : Cond.instanceMethod yX5_withdraw ∈ am_W := bw 975 rfl rfl
set_option maxRecDepth 20000 in
theorem aw_976 : Cond.selects RX5 yX5_withdraw yX5_withdraw ∈ am_W := bw 976 rfl rfl
set_option maxRecDepth 20000 in
theorem aw_977 : Cond.code yX5_withdraw cX5_withdraw 2 (some .int) ∈ am_W := bw 977 rfl rfl
set_option maxRecDepth 20000 in
theorem aw_978 : Cond.methodLink RL 77 yX5_correction ∈ am_W := bw 978 rfl rfl
set_option maxRecDepth 20000 in
theorem aw_979 : Cond.instanceMethod yX5_correction ∈ am_W := bw 979 rfl rfl
set_option maxRecDepth 20000 in
theorem aw_980 : Cond.selects RX5 yX5_correction yX5_correction ∈ am_W := bw 980 rfl rfl
set_option maxRecDepth 20000 in
theorem aw_981 : Cond.code yX5_correction cX5_correction 3 (some .int) ∈ am_W := bw 981 rfl rfl
set_option maxRecDepth 20000 in
theorem aw_982 : Cond.methodLink RX5 178 yX5_doesCount ∈ am_W := bw 982 rfl rfl
set_option maxRecDepth 20000 in
theorem aw_984 : Cond.instanceMethod yX5_doesCount ∈ am_W := bw 984 rfl rfl
set_option maxRecDepth 20000 in
theorem aw_985 : Cond.code yX5_doesCount cX5_doesCount 3 (some .int) ∈ am_W := bw 985 rfl rfl
set_option maxRecDepth 20000 in
theorem aw_986 : Cond.methodLink RL 81 yX5_threadOf ∈ am_W := bw 986 rfl rfl
set_option maxRecDepth 20000 in
theorem aw_987 : Cond.instanceMethod yX5_threadOf ∈ am_W := bw 987 rfl rfl
set_option maxRecDepth 20000 in
theorem aw_988 : Cond.selects RX5 yX5_threadOf yX5_threadOf ∈ am_W := bw 988 rfl rfl
set_option maxRecDepth 20000 in
theorem aw_989 : Cond.code yX5_threadOf cX5_threadOf 4 (some .int) ∈ am_W := bw 989 rfl rfl
set_option maxRecDepth 20000 in
theorem aw_990 : Cond.methodLink RX5 181 yX5_laysRow ∈ am_W := bw 990 rfl rfl
set_option maxRecDepth 20000 in
theorem aw_992 : Cond.instanceMethod yX5_laysRow ∈ am_W := bw 992 rfl rfl
set_option maxRecDepth 20000 in
theorem aw_993 : Cond.code yX5_laysRow cX5_laysRow 4 (some .int) ∈ am_W := bw 993 rfl rfl
set_option maxRecDepth 20000 in
theorem aw_994 : Cond.methodLink RX5 184 yX5_writers ∈ am_W := bw 994 rfl rfl
set_option maxRecDepth 20000 in
theorem aw_996 : Cond.instanceMethod yX5_writers ∈ am_W := bw 996 rfl rfl
set_option maxRecDepth 20000 in
theorem aw_997 : Cond.code yX5_writers cX5_writers 4 (some .int) ∈ am_W := bw 997 rfl rfl
set_option maxRecDepth 20000 in
theorem aw_998 : Cond.methodLink RX5 187 yX5_widest ∈ am_W := bw 998 rfl rfl
set_option maxRecDepth 20000 in
theorem aw_1000 : Cond.instanceMethod yX5_widest ∈ am_W := bw 1000 rfl rfl
set_option maxRecDepth 20000 in
theorem aw_1001 : Cond.code yX5_widest cX5_widest 5 (some .int) ∈ am_W := bw 1001 rfl rfl
set_option maxRecDepth 20000 in
theorem aw_1002 : Cond.methodLink RX5 190 yX5_longest ∈ am_W := bw 1002 rfl rfl
set_option maxRecDepth 20000 in
theorem aw_1004 : Cond.instanceMethod yX5_longest ∈ am_W := bw 1004 rfl rfl
set_option maxRecDepth 20000 in
theorem aw_1005 : Cond.code yX5_longest cX5_longest 6 (some .int) ∈ am_W := bw 1005 rfl rfl
set_option maxRecDepth 20000 in
theorem aw_1006 : Cond.methodLink RL 85 yX5_lineIn ∈ am_W := bw 1006 rfl rfl
set_option maxRecDepth 20000 in
theorem aw_1007 : Cond.instanceMethod yX5_lineIn ∈ am_W := bw 1007 rfl rfl
set_option maxRecDepth 20000 in
theorem aw_1008 : Cond.selects RX5 yX5_lineIn yX5_lineIn ∈ am_W := bw 1008 rfl rfl
set_option maxRecDepth 20000 in
theorem aw_1009 : Cond.code yX5_lineIn cX5_lineIn 3 (some .int) ∈ am_W := bw 1009 rfl rfl
set_option maxRecDepth 20000 in
theorem aw_1010 : Cond.methodLink RL 89 yX5_busiest ∈ am_W := bw 1010 rfl rfl
set_option maxRecDepth 20000 in
theorem aw_1011 : Cond.instanceMethod yX5_busiest ∈ am_W := bw 1011 rfl rfl
set_option maxRecDepth 20000 in
theorem aw_1012 : Cond.selects RX5 yX5_busiest yX5_busiest ∈ am_W := bw 1012 rfl rfl
set_option maxRecDepth 20000 in
theorem aw_1013 : Cond.code yX5_busiest cX5_busiest 6 (some .int) ∈ am_W := bw 1013 rfl rfl
set_option maxRecDepth 20000 in
theorem aw_1014 : Cond.methodLink RX5 193 yX5_weightOf ∈ am_W := bw 1014 rfl rfl
set_option maxRecDepth 20000 in
theorem aw_1016 : Cond.instanceMethod yX5_weightOf ∈ am_W := bw 1016 rfl rfl
set_option maxRecDepth 20000 in
theorem aw_1017 : Cond.code yX5_weightOf cX5_weightOf 3 (some .int) ∈ am_W := bw 1017 rfl rfl
set_option maxRecDepth 20000 in
theorem aw_1018 : Cond.methodLink RL 93 yX5_answers ∈ am_W := bw 1018 rfl rfl
set_option maxRecDepth 20000 in
theorem aw_1019 : Cond.instanceMethod yX5_answers ∈ am_W := bw 1019 rfl rfl
set_option maxRecDepth 20000 in
theorem aw_1020 : Cond.selects RX5 yX5_answers yX5_answers ∈ am_W := bw 1020 rfl rfl
set_option maxRecDepth 20000 in
theorem aw_1021 : Cond.code yX5_answers cX5_answers 3 (some .int) ∈ am_W := bw 1021 rfl rfl
set_option maxRecDepth 20000 in
theorem aw_1022 : Cond.methodLink RX5 196 yX5_answersOf ∈ am_W := bw 1022 rfl rfl
set_option maxRecDepth 20000 in
theorem aw_1024 : Cond.instanceMethod yX5_answersOf ∈ am_W := bw 1024 rfl rfl
set_option maxRecDepth 20000 in
theorem aw_1025 : Cond.code yX5_answersOf cX5_answersOf 5 (some .int) ∈ am_W := bw 1025 rfl rfl
set_option maxRecDepth 20000 in
theorem aw_1026 : Cond.methodLink RL 97 yX5_partner ∈ am_W := bw 1026 rfl rfl
set_option maxRecDepth 20000 in
theorem aw_1027 : Cond.instanceMethod yX5_partner ∈ am_W := bw 1027 rfl rfl
set_option maxRecDepth 20000 in
theorem aw_1028 : Cond.selects RX5 yX5_partner yX5_partner ∈ am_W := bw 1028 rfl rfl
set_option maxRecDepth 20000 in
theorem aw_1029 : Cond.code yX5_partner cX5_partner 6 (some .int) ∈ am_W := bw 1029 rfl rfl
set_option maxRecDepth 20000 in
theorem aw_1030 : Cond.methodLink RL 101 yX5_awake ∈ am_W := bw 1030 rfl rfl
set_option maxRecDepth 20000 in
theorem aw_1031 : Cond.instanceMethod yX5_awake ∈ am_W := bw 1031 rfl rfl
set_option maxRecDepth 20000 in
theorem aw_1032 : Cond.selects RX5 yX5_awake yX5_awake ∈ am_W := bw 1032 rfl rfl
set_option maxRecDepth 20000 in
theorem aw_1033 : Cond.code yX5_awake cX5_awake 5 (some .int) ∈ am_W := bw 1033 rfl rfl
set_option maxRecDepth 20000 in
theorem aw_1034 : Cond.methodLink RL 105 yX5_threadsWith ∈ am_W := bw 1034 rfl rfl
set_option maxRecDepth 20000 in
theorem aw_1035 : Cond.instanceMethod yX5_threadsWith ∈ am_W := bw 1035 rfl rfl
set_option maxRecDepth 20000 in
theorem aw_1036 : Cond.selects RX5 yX5_threadsWith yX5_threadsWith ∈ am_W := bw 1036 rfl rfl
set_option maxRecDepth 20000 in
theorem aw_1037 : Cond.code yX5_threadsWith cX5_threadsWith 3 (some .int) ∈ am_W := bw 1037 rfl rfl
set_option maxRecDepth 20000 in
theorem aw_1038 : Cond.methodLink RX5 199 yX5_begins ∈ am_W := bw 1038 rfl rfl
set_option maxRecDepth 20000 in
theorem aw_1040 : Cond.instanceMethod yX5_begins ∈ am_W := bw 1040 rfl rfl
set_option maxRecDepth 20000 in
theorem aw_1041 : Cond.code yX5_begins cX5_begins 2 none ∈ am_W := bw 1041 rfl rfl
set_option maxRecDepth 20000 in
theorem aw_1042 : Cond.methodLink RL 109 yX5_threadsWithout ∈ am_W := bw 1042 rfl rfl
set_option maxRecDepth 20000 in
theorem aw_1043 : Cond.instanceMethod yX5_threadsWithout ∈ am_W := bw 1043 rfl rfl
set_option maxRecDepth 20000 in
theorem aw_1044 : Cond.selects RX5 yX5_threadsWithout yX5_threadsWithout ∈ am_W := bw 1044 rfl rfl
set_option maxRecDepth 20000 in
theorem aw_1045 : Cond.code yX5_threadsWithout cX5_threadsWithout 2 (some .int) ∈ am_W := bw 1045 rfl rfl
set_option maxRecDepth 20000 in
theorem aw_1046 : Cond.methodLink RL 113 yX5_parting ∈ am_W := bw 1046 rfl rfl
set_option maxRecDepth 20000 in
theorem aw_1047 : Cond.instanceMethod yX5_parting ∈ am_W := bw 1047 rfl rfl
set_option maxRecDepth 20000 in
theorem aw_1048 : Cond.selects RX5 yX5_parting yX5_parting ∈ am_W := bw 1048 rfl rfl
set_option maxRecDepth 20000 in
theorem aw_1049 : Cond.code yX5_parting cX5_parting 4 (some .int) ∈ am_W := bw 1049 rfl rfl
set_option maxRecDepth 20000 in
theorem aw_1050 : Cond.methodLink RL 117 yX5_type ∈ am_W := bw 1050 rfl rfl
set_option maxRecDepth 20000 in
theorem aw_1051 : Cond.instanceMethod yX5_type ∈ am_W := bw 1051 rfl rfl
set_option maxRecDepth 20000 in
theorem aw_1052 : Cond.selects RX5 yX5_type yX5_type ∈ am_W := bw 1052 rfl rfl
set_option maxRecDepth 20000 in
theorem aw_1053 : Cond.code yX5_type cX5_type 2 (some .int) ∈ am_W := bw 1053 rfl rfl
set_option maxRecDepth 20000 in
theorem aw_1054 : Cond.methodLink RL 121 yX5_clearText ∈ am_W := bw 1054 rfl rfl
set_option maxRecDepth 20000 in
theorem aw_1055 : Cond.instanceMethod yX5_clearText ∈ am_W := bw 1055 rfl rfl
set_option maxRecDepth 20000 in
theorem aw_1056 : Cond.selects RX5 yX5_clearText yX5_clearText ∈ am_W := bw 1056 rfl rfl
set_option maxRecDepth 20000 in
theorem aw_1057 : Cond.code yX5_clearText cX5_clearText 2 (some .int) ∈ am_W := bw 1057 rfl rfl
set_option maxRecDepth 20000 in
theorem aw_1058 : Cond.methodLink RL 125 yX5_fault ∈ am_W := bw 1058 rfl rfl
set_option maxRecDepth 20000 in
theorem aw_1059 : Cond.instanceMethod yX5_fault ∈ am_W := bw 1059 rfl rfl
set_option maxRecDepth 20000 in
theorem aw_1060 : Cond.selects RX5 yX5_fault yX5_fault ∈ am_W := bw 1060 rfl rfl
set_option maxRecDepth 20000 in
theorem aw_1061 : Cond.code yX5_fault cX5_fault 3 (some .int) ∈ am_W := bw 1061 rfl rfl
set_option maxRecDepth 20000 in
theorem aw_1062 : Cond.methodLink RX5 225 yX5_doesAll ∈ am_W := bw 1062 rfl rfl
set_option maxRecDepth 20000 in
theorem aw_1064 : Cond.instanceMethod yX5_doesAll ∈ am_W := bw 1064 rfl rfl
set_option maxRecDepth 20000 in
theorem aw_1065 : Cond.code yX5_doesAll cX5_doesAll 2 (some .int) ∈ am_W := bw 1065 rfl rfl
set_option maxRecDepth 20000 in
theorem aw_1066 : Cond.methodLink RX5 221 yX5_does ∈ am_W := bw 1066 rfl rfl
set_option maxRecDepth 20000 in
theorem aw_1068 : Cond.instanceMethod yX5_does ∈ am_W := bw 1068 rfl rfl
set_option maxRecDepth 20000 in
theorem aw_1069 : Cond.code yX5_does cX5_does 2 (some .int) ∈ am_W := bw 1069 rfl rfl
set_option maxRecDepth 20000 in
theorem aw_1070 : Cond.methodLink RX5 211 yX5_isEntry ∈ am_W := bw 1070 rfl rfl
set_option maxRecDepth 20000 in
theorem aw_1072 : Cond.instanceMethod yX5_isEntry ∈ am_W := bw 1072 rfl rfl
set_option maxRecDepth 20000 in
theorem aw_1073 : Cond.code yX5_isEntry cX5_isEntry 4 (some .boolean) ∈ am_W := bw 1073 rfl rfl
set_option maxRecDepth 20000 in
theorem aw_1074 : Cond.methodLink RX5 208 yX5_isNumber ∈ am_W := bw 1074 rfl rfl
set_option maxRecDepth 20000 in
theorem aw_1076 : Cond.instanceMethod yX5_isNumber ∈ am_W := bw 1076 rfl rfl
set_option maxRecDepth 20000 in
theorem aw_1077 : Cond.code yX5_isNumber cX5_isNumber 5 (some .boolean) ∈ am_W := bw 1077 rfl rfl
set_option maxRecDepth 20000 in
theorem aw_1078 : Cond.methodLink RX5 228 yX5_letsBack ∈ am_W := bw 1078 rfl rfl
set_option maxRecDepth 20000 in
theorem aw_1080 : Cond.instanceMethod yX5_letsBack ∈ am_W := bw 1080 rfl rfl
set_option maxRecDepth 20000 in
theorem aw_1081 : Cond.code yX5_letsBack cX5_letsBack 2 none ∈ am_W := bw 1081 rfl rfl
set_option maxRecDepth 20000 in
theorem aw_1082 : Cond.methodLink RL 129 yX5_load ∈ am_W := bw 1082 rfl rfl
set_option maxRecDepth 20000 in
theorem aw_1083 : Cond.instanceMethod yX5_load ∈ am_W := bw 1083 rfl rfl
set_option maxRecDepth 20000 in
theorem aw_1084 : Cond.selects RX5 yX5_load yX5_load ∈ am_W := bw 1084 rfl rfl
set_option maxRecDepth 20000 in
theorem aw_1085 : Cond.code yX5_load cX5_load 2 (some .int) ∈ am_W := bw 1085 rfl rfl
theorem iw_X0 : ∀ w ∈ u_ws RX0 TX0 2, w ∈ am_W := by
  intro w hw
  obtain ⟨k, hk, rfl⟩ := List.mem_map.mp hw
  have hk := List.mem_range.mp hk
  match k, hk with
  | 0, _ => exact aw_233
  | 1, _ => exact aw_235
  | k + 2, h => exact absurd h (by omega)
theorem iw_X1 : ∀ w ∈ u_ws RX1 TX1 14, w ∈ am_W := by
  intro w hw
  obtain ⟨k, hk, rfl⟩ := List.mem_map.mp hw
  have hk := List.mem_range.mp hk
  match k, hk with
  | 0, _ => exact aw_129
  | 1, _ => exact aw_131
  | 2, _ => exact aw_133
  | 3, _ => exact aw_135
  | 4, _ => exact aw_137
  | 5, _ => exact aw_139
  | 6, _ => exact aw_141
  | 7, _ => exact aw_143
  | 8, _ => exact aw_145
  | 9, _ => exact aw_147
  | 10, _ => exact aw_149
  | 11, _ => exact aw_151
  | 12, _ => exact aw_153
  | 13, _ => exact aw_155
  | k + 14, h => exact absurd h (by omega)
theorem iw_X2 : ∀ w ∈ u_ws RX2 TX2 8, w ∈ am_W := by
  intro w hw
  obtain ⟨k, hk, rfl⟩ := List.mem_map.mp hw
  have hk := List.mem_range.mp hk
  match k, hk with
  | 0, _ => exact aw_256
  | 1, _ => exact aw_258
  | 2, _ => exact aw_260
  | 3, _ => exact aw_262
  | 4, _ => exact aw_264
  | 5, _ => exact aw_266
  | 6, _ => exact aw_268
  | 7, _ => exact aw_270
  | k + 8, h => exact absurd h (by omega)
theorem iw_X3 : ∀ w ∈ u_ws RX3 TX3 17, w ∈ am_W := by
  intro w hw
  obtain ⟨k, hk, rfl⟩ := List.mem_map.mp hw
  have hk := List.mem_range.mp hk
  match k, hk with
  | 0, _ => exact aw_186
  | 1, _ => exact aw_188
  | 2, _ => exact aw_190
  | 3, _ => exact aw_192
  | 4, _ => exact aw_194
  | 5, _ => exact aw_196
  | 6, _ => exact aw_198
  | 7, _ => exact aw_200
  | 8, _ => exact aw_202
  | 9, _ => exact aw_204
  | 10, _ => exact aw_206
  | 11, _ => exact aw_208
  | 12, _ => exact aw_210
  | 13, _ => exact aw_212
  | 14, _ => exact aw_214
  | 15, _ => exact aw_216
  | 16, _ => exact aw_218
  | k + 17, h => exact absurd h (by omega)
theorem iw_X4 : ∀ w ∈ u_ws RX4 TX4 7, w ∈ am_W := by
  intro w hw
  obtain ⟨k, hk, rfl⟩ := List.mem_map.mp hw
  have hk := List.mem_range.mp hk
  match k, hk with
  | 0, _ => exact aw_281
  | 1, _ => exact aw_283
  | 2, _ => exact aw_285
  | 3, _ => exact aw_287
  | 4, _ => exact aw_289
  | 5, _ => exact aw_291
  | 6, _ => exact aw_293
  | k + 7, h => exact absurd h (by omega)
theorem iw_X5 : ∀ w ∈ u_ws RX5 TX5 21, w ∈ am_W := by
  intro w hw
  obtain ⟨k, hk, rfl⟩ := List.mem_map.mp hw
  have hk := List.mem_range.mp hk
  match k, hk with
  | 0, _ => exact aw_759
  | 1, _ => exact aw_761
  | 2, _ => exact aw_763
  | 3, _ => exact aw_765
  | 4, _ => exact aw_767
  | 5, _ => exact aw_769
  | 6, _ => exact aw_771
  | 7, _ => exact aw_773
  | 8, _ => exact aw_775
  | 9, _ => exact aw_777
  | 10, _ => exact aw_779
  | 11, _ => exact aw_781
  | 12, _ => exact aw_783
  | 13, _ => exact aw_785
  | 14, _ => exact aw_787
  | 15, _ => exact aw_789
  | 16, _ => exact aw_791
  | 17, _ => exact aw_793
  | 18, _ => exact aw_795
  | 19, _ => exact aw_797
  | 20, _ => exact aw_799
  | k + 21, h => exact absurd h (by omega)
