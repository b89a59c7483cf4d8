-- X5_does
theorem dX5_does_0 : decode cX5_does 0 = .ok (.aload_n 0, 1) := by decide +kernel
theorem dX5_does_1 : decode cX5_does 1 = .ok (.invokevirtual 211, 3) := by decide +kernel
theorem dX5_does_4 : decode cX5_does 4 = .ok (.ifCond .ne 5, 3) := by decide +kernel
theorem dX5_does_7 : decode cX5_does 7 = .ok (.iconst 1, 1) := by decide +kernel
theorem dX5_does_8 : decode cX5_does 8 = .ok (.ireturn, 1) := by decide +kernel
theorem dX5_does_9 : decode cX5_does 9 = .ok (.aload_n 0, 1) := by decide +kernel
theorem dX5_does_10 : decode cX5_does 10 = .ok (.getfield 205, 3) := by decide +kernel
theorem dX5_does_13 : decode cX5_does 13 = .ok (.bipush 108, 2) := by decide +kernel
theorem dX5_does_15 : decode cX5_does 15 = .ok (.if_icmp .ne 79, 3) := by decide +kernel
theorem dX5_does_18 : decode cX5_does 18 = .ok (.aload_n 0, 1) := by decide +kernel
theorem dX5_does_19 : decode cX5_does 19 = .ok (.getfield 49, 3) := by decide +kernel
theorem dX5_does_22 : decode cX5_does 22 = .ok (.iconst 0, 1) := by decide +kernel
theorem dX5_does_23 : decode cX5_does 23 = .ok (.iaload, 1) := by decide +kernel
theorem dX5_does_24 : decode cX5_does 24 = .ok (.aload_n 0, 1) := by decide +kernel
theorem dX5_does_25 : decode cX5_does 25 = .ok (.getfield 49, 3) := by decide +kernel
theorem dX5_does_28 : decode cX5_does 28 = .ok (.iconst 1, 1) := by decide +kernel
theorem dX5_does_29 : decode cX5_does 29 = .ok (.iaload, 1) := by decide +kernel
theorem dX5_does_30 : decode cX5_does 30 = .ok (.aload_n 0, 1) := by decide +kernel
theorem dX5_does_31 : decode cX5_does 31 = .ok (.getfield 49, 3) := by decide +kernel
theorem dX5_does_34 : decode cX5_does 34 = .ok (.iconst 2, 1) := by decide +kernel
theorem dX5_does_35 : decode cX5_does 35 = .ok (.iaload, 1) := by decide +kernel
theorem dX5_does_36 : decode cX5_does 36 = .ok (.aload_n 0, 1) := by decide +kernel
theorem dX5_does_37 : decode cX5_does 37 = .ok (.getfield 49, 3) := by decide +kernel
theorem dX5_does_40 : decode cX5_does 40 = .ok (.iconst 3, 1) := by decide +kernel
theorem dX5_does_41 : decode cX5_does 41 = .ok (.iaload, 1) := by decide +kernel
theorem dX5_does_42 : decode cX5_does 42 = .ok (.invokestatic 127, 3) := by decide +kernel
theorem dX5_does_45 : decode cX5_does 45 = .ok (.ifCond .ne 5, 3) := by decide +kernel
theorem dX5_does_48 : decode cX5_does 48 = .ok (.iconst 2, 1) := by decide +kernel
theorem dX5_does_49 : decode cX5_does 49 = .ok (.ireturn, 1) := by decide +kernel
theorem dX5_does_50 : decode cX5_does 50 = .ok (.aload_n 0, 1) := by decide +kernel
theorem dX5_does_51 : decode cX5_does 51 = .ok (.getfield 7, 3) := by decide +kernel
theorem dX5_does_54 : decode cX5_does 54 = .ok (.bipush 9, 2) := by decide +kernel
theorem dX5_does_56 : decode cX5_does 56 = .ok (.iaload, 1) := by decide +kernel
theorem dX5_does_57 : decode cX5_does 57 = .ok (.bipush 30, 2) := by decide +kernel
theorem dX5_does_59 : decode cX5_does 59 = .ok (.if_icmp .ne 5, 3) := by decide +kernel
theorem dX5_does_62 : decode cX5_does 62 = .ok (.iconst 4, 1) := by decide +kernel
theorem dX5_does_63 : decode cX5_does 63 = .ok (.ireturn, 1) := by decide +kernel
theorem dX5_does_64 : decode cX5_does 64 = .ok (.aload_n 0, 1) := by decide +kernel
theorem dX5_does_65 : decode cX5_does 65 = .ok (.aload_n 0, 1) := by decide +kernel
theorem dX5_does_66 : decode cX5_does 66 = .ok (.getfield 49, 3) := by decide +kernel
theorem dX5_does_69 : decode cX5_does 69 = .ok (.iconst 0, 1) := by decide +kernel
theorem dX5_does_70 : decode cX5_does 70 = .ok (.iaload, 1) := by decide +kernel
theorem dX5_does_71 : decode cX5_does 71 = .ok (.aload_n 0, 1) := by decide +kernel
theorem dX5_does_72 : decode cX5_does 72 = .ok (.getfield 49, 3) := by decide +kernel
theorem dX5_does_75 : decode cX5_does 75 = .ok (.iconst 1, 1) := by decide +kernel
theorem dX5_does_76 : decode cX5_does 76 = .ok (.iaload, 1) := by decide +kernel
theorem dX5_does_77 : decode cX5_does 77 = .ok (.aload_n 0, 1) := by decide +kernel
theorem dX5_does_78 : decode cX5_does 78 = .ok (.getfield 49, 3) := by decide +kernel
theorem dX5_does_81 : decode cX5_does 81 = .ok (.iconst 2, 1) := by decide +kernel
theorem dX5_does_82 : decode cX5_does 82 = .ok (.iaload, 1) := by decide +kernel
theorem dX5_does_83 : decode cX5_does 83 = .ok (.aload_n 0, 1) := by decide +kernel
theorem dX5_does_84 : decode cX5_does 84 = .ok (.getfield 49, 3) := by decide +kernel
theorem dX5_does_87 : decode cX5_does 87 = .ok (.iconst 3, 1) := by decide +kernel
theorem dX5_does_88 : decode cX5_does 88 = .ok (.iaload, 1) := by decide +kernel
theorem dX5_does_89 : decode cX5_does 89 = .ok (.invokevirtual 131, 3) := by decide +kernel
theorem dX5_does_92 : decode cX5_does 92 = .ok (.iconst 0, 1) := by decide +kernel
theorem dX5_does_93 : decode cX5_does 93 = .ok (.ireturn, 1) := by decide +kernel
theorem dX5_does_94 : decode cX5_does 94 = .ok (.aload_n 0, 1) := by decide +kernel
theorem dX5_does_95 : decode cX5_does 95 = .ok (.getfield 205, 3) := by decide +kernel
theorem dX5_does_98 : decode cX5_does 98 = .ok (.bipush 98, 2) := by decide +kernel
theorem dX5_does_100 : decode cX5_does 100 = .ok (.if_icmp .ne 7, 3) := by decide +kernel
theorem dX5_does_103 : decode cX5_does 103 = .ok (.iconst 0, 1) := by decide +kernel
theorem dX5_does_104 : decode cX5_does 104 = .ok (.goto 17, 3) := by decide +kernel
theorem dX5_does_107 : decode cX5_does 107 = .ok (.aload_n 0, 1) := by decide +kernel
theorem dX5_does_108 : decode cX5_does 108 = .ok (.getfield 205, 3) := by decide +kernel
theorem dX5_does_111 : decode cX5_does 111 = .ok (.bipush 97, 2) := by decide +kernel
theorem dX5_does_113 : decode cX5_does 113 = .ok (.if_icmp .ne 7, 3) := by decide +kernel
theorem dX5_does_116 : decode cX5_does 116 = .ok (.iconst 1, 1) := by decide +kernel
theorem dX5_does_117 : decode cX5_does 117 = .ok (.goto 4, 3) := by decide +kernel
theorem dX5_does_120 : decode cX5_does 120 = .ok (.iconst 2, 1) := by decide +kernel
theorem dX5_does_121 : decode cX5_does 121 = .ok (.istore_n 1, 1) := by decide +kernel
theorem dX5_does_122 : decode cX5_does 122 = .ok (.aload_n 0, 1) := by decide +kernel
theorem dX5_does_123 : decode cX5_does 123 = .ok (.aload_n 0, 1) := by decide +kernel
theorem dX5_does_124 : decode cX5_does 124 = .ok (.getfield 49, 3) := by decide +kernel
theorem dX5_does_127 : decode cX5_does 127 = .ok (.iconst 0, 1) := by decide +kernel
theorem dX5_does_128 : decode cX5_does 128 = .ok (.iaload, 1) := by decide +kernel
theorem dX5_does_129 : decode cX5_does 129 = .ok (.invokevirtual 138, 3) := by decide +kernel
theorem dX5_does_132 : decode cX5_does 132 = .ok (.ifCond .eq 20, 3) := by decide +kernel
theorem dX5_does_135 : decode cX5_does 135 = .ok (.iload_n 1, 1) := by decide +kernel
theorem dX5_does_136 : decode cX5_does 136 = .ok (.ifCond .eq 18, 3) := by decide +kernel
theorem dX5_does_139 : decode cX5_does 139 = .ok (.aload_n 0, 1) := by decide +kernel
theorem dX5_does_140 : decode cX5_does 140 = .ok (.aload_n 0, 1) := by decide +kernel
theorem dX5_does_141 : decode cX5_does 141 = .ok (.getfield 49, 3) := by decide +kernel
theorem dX5_does_144 : decode cX5_does 144 = .ok (.iconst 1, 1) := by decide +kernel
theorem dX5_does_145 : decode cX5_does 145 = .ok (.iaload, 1) := by decide +kernel
theorem dX5_does_146 : decode cX5_does 146 = .ok (.invokevirtual 138, 3) := by decide +kernel
theorem dX5_does_149 : decode cX5_does 149 = .ok (.ifCond .ne 5, 3) := by decide +kernel
theorem dX5_does_152 : decode cX5_does 152 = .ok (.iconst 2, 1) := by decide +kernel
theorem dX5_does_153 : decode cX5_does 153 = .ok (.ireturn, 1) := by decide +kernel
theorem dX5_does_154 : decode cX5_does 154 = .ok (.aload_n 0, 1) := by decide +kernel
theorem dX5_does_155 : decode cX5_does 155 = .ok (.iload_n 1, 1) := by decide +kernel
theorem dX5_does_156 : decode cX5_does 156 = .ok (.aload_n 0, 1) := by decide +kernel
theorem dX5_does_157 : decode cX5_does 157 = .ok (.getfield 49, 3) := by decide +kernel
theorem dX5_does_160 : decode cX5_does 160 = .ok (.iconst 0, 1) := by decide +kernel
theorem dX5_does_161 : decode cX5_does 161 = .ok (.iaload, 1) := by decide +kernel
theorem dX5_does_162 : decode cX5_does 162 = .ok (.aload_n 0, 1) := by decide +kernel
theorem dX5_does_163 : decode cX5_does 163 = .ok (.getfield 49, 3) := by decide +kernel
theorem dX5_does_166 : decode cX5_does 166 = .ok (.iconst 1, 1) := by decide +kernel
theorem dX5_does_167 : decode cX5_does 167 = .ok (.iaload, 1) := by decide +kernel
theorem dX5_does_168 : decode cX5_does 168 = .ok (.invokevirtual 171, 3) := by decide +kernel
theorem dX5_does_171 : decode cX5_does 171 = .ok (.ifCond .ne 5, 3) := by decide +kernel
theorem dX5_does_174 : decode cX5_does 174 = .ok (.iconst 3, 1) := by decide +kernel
theorem dX5_does_175 : decode cX5_does 175 = .ok (.ireturn, 1) := by decide +kernel
theorem dX5_does_176 : decode cX5_does 176 = .ok (.aload_n 0, 1) := by decide +kernel
theorem dX5_does_177 : decode cX5_does 177 = .ok (.getfield 7, 3) := by decide +kernel
theorem dX5_does_180 : decode cX5_does 180 = .ok (.bipush 10, 2) := by decide +kernel
theorem dX5_does_182 : decode cX5_does 182 = .ok (.iaload, 1) := by decide +kernel
theorem dX5_does_183 : decode cX5_does 183 = .ok (.bipush 12, 2) := by decide +kernel
theorem dX5_does_185 : decode cX5_does 185 = .ok (.if_icmp .ne 5, 3) := by decide +kernel
theorem dX5_does_188 : decode cX5_does 188 = .ok (.iconst 4, 1) := by decide +kernel
theorem dX5_does_189 : decode cX5_does 189 = .ok (.ireturn, 1) := by decide +kernel
theorem dX5_does_190 : decode cX5_does 190 = .ok (.aload_n 0, 1) := by decide +kernel
theorem dX5_does_191 : decode cX5_does 191 = .ok (.iload_n 1, 1) := by decide +kernel
theorem dX5_does_192 : decode cX5_does 192 = .ok (.aload_n 0, 1) := by decide +kernel
theorem dX5_does_193 : decode cX5_does 193 = .ok (.getfield 49, 3) := by decide +kernel
theorem dX5_does_196 : decode cX5_does 196 = .ok (.iconst 0, 1) := by decide +kernel
theorem dX5_does_197 : decode cX5_does 197 = .ok (.iaload, 1) := by decide +kernel
theorem dX5_does_198 : decode cX5_does 198 = .ok (.aload_n 0, 1) := by decide +kernel
theorem dX5_does_199 : decode cX5_does 199 = .ok (.getfield 49, 3) := by decide +kernel
theorem dX5_does_202 : decode cX5_does 202 = .ok (.iconst 1, 1) := by decide +kernel
theorem dX5_does_203 : decode cX5_does 203 = .ok (.iaload, 1) := by decide +kernel
theorem dX5_does_204 : decode cX5_does 204 = .ok (.invokevirtual 174, 3) := by decide +kernel
theorem dX5_does_207 : decode cX5_does 207 = .ok (.iconst 0, 1) := by decide +kernel
theorem dX5_does_208 : decode cX5_does 208 = .ok (.ireturn, 1) := by decide +kernel
def t_X5_does_190 : am_T := tb_aload 0 <|
  tb_iload 1 <|
  tb_aload 0 <|
  tb_getR 5 18 <|
  tb_const 0 <|
  tb_iald <|
  tb_aload 0 <|
  tb_getR 5 18 <|
  tb_const 1 <|
  tb_iald <|
  tb_callV 5 sp_X5_tells 4 <|
  tb_const 0 <|
  tb_iret
def t_X5_does_176 : am_T := tb_aload 0 <|
  tb_getR 5 0 <|
  tb_const 10 <|
  tb_iald <|
  tb_const 12 <|
  tb_ic (fun x y => x ≠ y) (t_X5_does_190) <|
  tb_const 4 <|
  tb_iret
def t_X5_does_154 : am_T := tb_aload 0 <|
  tb_iload 1 <|
  tb_aload 0 <|
  tb_getR 5 18 <|
  tb_const 0 <|
  tb_iald <|
  tb_aload 0 <|
  tb_getR 5 18 <|
  tb_const 1 <|
  tb_iald <|
  tb_callV 5 sp_X5_canTell 4 <|
  tb_if (fun x => x ≠ 0) (t_X5_does_176) <|
  tb_const 3 <|
  tb_iret
def t_X5_does_152 : am_T := tb_const 2 <|
  tb_iret
def t_X5_does_121 : am_T := tb_istore 1 <|
  tb_aload 0 <|
  tb_aload 0 <|
  tb_getR 5 18 <|
  tb_const 0 <|
  tb_iald <|
  tb_callV 5 sp_X5_isLine 2 <|
  tb_if (fun x => x = 0) (t_X5_does_152) <|
  tb_iload 1 <|
  tb_if (fun x => x = 0) (t_X5_does_154) <|
  tb_aload 0 <|
  tb_aload 0 <|
  tb_getR 5 18 <|
  tb_const 1 <|
  tb_iald <|
  tb_callV 5 sp_X5_isLine 2 <|
  tb_if (fun x => x ≠ 0) (t_X5_does_154) <|
  t_X5_does_152
def t_X5_does_120 : am_T := tb_const 2 <|
  t_X5_does_121
def t_X5_does_107 : am_T := tb_aload 0 <|
  tb_getI 5 17 <|
  tb_const 97 <|
  tb_ic (fun x y => x ≠ y) (t_X5_does_120) <|
  tb_const 1 <|
  t_X5_does_121
def t_X5_does_94 : am_T := tb_aload 0 <|
  tb_getI 5 17 <|
  tb_const 98 <|
  tb_ic (fun x y => x ≠ y) (t_X5_does_107) <|
  tb_const 0 <|
  t_X5_does_121
def t_X5_does_64 : am_T := tb_aload 0 <|
  tb_aload 0 <|
  tb_getR 5 18 <|
  tb_const 0 <|
  tb_iald <|
  tb_aload 0 <|
  tb_getR 5 18 <|
  tb_const 1 <|
  tb_iald <|
  tb_aload 0 <|
  tb_getR 5 18 <|
  tb_const 2 <|
  tb_iald <|
  tb_aload 0 <|
  tb_getR 5 18 <|
  tb_const 3 <|
  tb_iald <|
  tb_callV 5 sp_X5_adds 5 <|
  tb_const 0 <|
  tb_iret
def t_X5_does_50 : am_T := tb_aload 0 <|
  tb_getR 5 0 <|
  tb_const 9 <|
  tb_iald <|
  tb_const 30 <|
  tb_ic (fun x y => x ≠ y) (t_X5_does_64) <|
  tb_const 4 <|
  tb_iret
def t_X5_does_9 : am_T := tb_aload 0 <|
  tb_getI 5 17 <|
  tb_const 108 <|
  tb_ic (fun x y => x ≠ y) (t_X5_does_94) <|
  tb_aload 0 <|
  tb_getR 5 18 <|
  tb_const 0 <|
  tb_iald <|
  tb_aload 0 <|
  tb_getR 5 18 <|
  tb_const 1 <|
  tb_iald <|
  tb_aload 0 <|
  tb_getR 5 18 <|
  tb_const 2 <|
  tb_iald <|
  tb_aload 0 <|
  tb_getR 5 18 <|
  tb_const 3 <|
  tb_iald <|
  tb_callS sp_X5_isTold 4 <|
  tb_if (fun x => x ≠ 0) (t_X5_does_50) <|
  tb_const 2 <|
  tb_iret
def t_X5_does_0 : am_T := tb_aload 0 <|
  tb_callV 5 sp_X5_isEntry 1 <|
  tb_if (fun x => x ≠ 0) (t_X5_does_9) <|
  tb_const 1 <|
  tb_iret
def h_X5_does : am_Hd := fun h => if h = 0 then t_X5_does_0 else tb_bad
theorem h_X5_does_0 : h_X5_does 0 = t_X5_does_0 := rfl
def rm_X5_does : Room := { frames := 3, cells := 0, slots := 0, locals := 71 }
def sp_X5_does : am_sp := fun as M Q => as.length ≤ 2 ∧ am_OK h_X5_does Q 0 (am_in 2 as) M
theorem s_X5_does_190 {G : am_G} {bc bs : Nat} (X : am_Cx G cX5_does RX5 "does" rm_X5_does (some .int) 2 bc bs true) : am_S G 190 (t_X5_does_190) := by
  unfold t_X5_does_190
  refine as_aload_n (pc := 190) X dX5_does_190 rfl ?_
  refine as_iload_n (pc := 191) X dX5_does_191 rfl ?_
  refine as_aload_n (pc := 192) X dX5_does_192 rfl ?_
  refine as_getR (ci := 5) (j := 18) (pc := 193) X (Cn := RX5) (Tf := TX5) (N := 21) rfl rfl (by decide) iw_X5 aw_756 rfl dX5_does_193 ?_
  refine as_iconst (pc := 196) X dX5_does_196 (by decide) ?_
  refine as_iald (pc := 197) X dX5_does_197 ?_
  refine as_aload_n (pc := 198) X dX5_does_198 rfl ?_
  refine as_getR (ci := 5) (j := 18) (pc := 199) X (Cn := RX5) (Tf := TX5) (N := 21) rfl rfl (by decide) iw_X5 aw_756 rfl dX5_does_199 ?_
  refine as_iconst (pc := 202) X dX5_does_202 (by decide) ?_
  refine as_iald (pc := 203) X dX5_does_203 ?_
  refine as_callV (ci := 5) (np := 3) (ix := 174) (pc := 204) X ct_X5_tells (Cn := (RX5, TX5, 21)) rfl ⟨rfl, rfl⟩ aw_970 aw_972 aw_44 aw_973 aw_65 (by decide +kernel) (by decide) dX5_does_204 ?_
  refine as_iconst (pc := 207) X dX5_does_207 (by decide) ?_
  exact as_iret (pc := 208) X ⟨rfl, rfl⟩ rfl dX5_does_208
theorem s_X5_does_176 {G : am_G} {bc bs : Nat} (X : am_Cx G cX5_does RX5 "does" rm_X5_does (some .int) 2 bc bs true) : am_S G 176 (t_X5_does_176) := by
  unfold t_X5_does_176
  refine as_aload_n (pc := 176) X dX5_does_176 rfl ?_
  refine as_getR (ci := 5) (j := 0) (pc := 177) X (Cn := RX5) (Tf := TX5) (N := 21) rfl rfl (by decide) iw_X5 aw_738 rfl dX5_does_177 ?_
  refine as_bipush (pc := 180) X dX5_does_180 (by decide) ?_
  refine as_iald (pc := 182) X dX5_does_182 ?_
  refine as_bipush (pc := 183) X dX5_does_183 (by decide) ?_
  refine as_ic_ne (pc := 185) X 190 dX5_does_185 (by decide) (s_X5_does_190 X) ?_
  refine as_iconst (pc := 188) X dX5_does_188 (by decide) ?_
  exact as_iret (pc := 189) X ⟨rfl, rfl⟩ rfl dX5_does_189
theorem s_X5_does_154 {G : am_G} {bc bs : Nat} (X : am_Cx G cX5_does RX5 "does" rm_X5_does (some .int) 2 bc bs true) : am_S G 154 (t_X5_does_154) := by
  unfold t_X5_does_154
  refine as_aload_n (pc := 154) X dX5_does_154 rfl ?_
  refine as_iload_n (pc := 155) X dX5_does_155 rfl ?_
  refine as_aload_n (pc := 156) X dX5_does_156 rfl ?_
  refine as_getR (ci := 5) (j := 18) (pc := 157) X (Cn := RX5) (Tf := TX5) (N := 21) rfl rfl (by decide) iw_X5 aw_756 rfl dX5_does_157 ?_
  refine as_iconst (pc := 160) X dX5_does_160 (by decide) ?_
  refine as_iald (pc := 161) X dX5_does_161 ?_
  refine as_aload_n (pc := 162) X dX5_does_162 rfl ?_
  refine as_getR (ci := 5) (j := 18) (pc := 163) X (Cn := RX5) (Tf := TX5) (N := 21) rfl rfl (by decide) iw_X5 aw_756 rfl dX5_does_163 ?_
  refine as_iconst (pc := 166) X dX5_does_166 (by decide) ?_
  refine as_iald (pc := 167) X dX5_does_167 ?_
  refine as_callV (ci := 5) (np := 3) (ix := 171) (pc := 168) X ct_X5_canTell (Cn := (RX5, TX5, 21)) rfl ⟨rfl, rfl⟩ aw_962 aw_964 aw_42 aw_965 aw_65 (by decide +kernel) (by decide) dX5_does_168 ?_
  refine as_if_ne (pc := 171) X 176 dX5_does_171 (by decide) (s_X5_does_176 X) ?_
  refine as_iconst (pc := 174) X dX5_does_174 (by decide) ?_
  exact as_iret (pc := 175) X ⟨rfl, rfl⟩ rfl dX5_does_175
theorem s_X5_does_152 {G : am_G} {bc bs : Nat} (X : am_Cx G cX5_does RX5 "does" rm_X5_does (some .int) 2 bc bs true) : am_S G 152 (t_X5_does_152) := by
  unfold t_X5_does_152
  refine as_iconst (pc := 152) X dX5_does_152 (by decide) ?_
  exact as_iret (pc := 153) X ⟨rfl, rfl⟩ rfl dX5_does_153
theorem s_X5_does_121 {G : am_G} {bc bs : Nat} (X : am_Cx G cX5_does RX5 "does" rm_X5_does (some .int) 2 bc bs true) : am_S G 121 (t_X5_does_121) := by
  unfold t_X5_does_121
  refine as_istore_n (pc := 121) X dX5_does_121 rfl ?_ (by decide)
  refine as_aload_n (pc := 122) X dX5_does_122 rfl ?_
  refine as_aload_n (pc := 123) X dX5_does_123 rfl ?_
  refine as_getR (ci := 5) (j := 18) (pc := 124) X (Cn := RX5) (Tf := TX5) (N := 21) rfl rfl (by decide) iw_X5 aw_756 rfl dX5_does_124 ?_
  refine as_iconst (pc := 127) X dX5_does_127 (by decide) ?_
  refine as_iald (pc := 128) X dX5_does_128 ?_
  refine as_callV (ci := 5) (np := 1) (ix := 138) (pc := 129) X ct_X5_isLine (Cn := (RX5, TX5, 21)) rfl ⟨rfl, rfl⟩ aw_844 aw_846 aw_28 aw_847 aw_65 (by decide +kernel) (by decide) dX5_does_129 ?_
  refine as_if_eq (pc := 132) X 152 dX5_does_132 (by decide) (s_X5_does_152 X) ?_
  refine as_iload_n (pc := 135) X dX5_does_135 rfl ?_
  refine as_if_eq (pc := 136) X 154 dX5_does_136 (by decide) (s_X5_does_154 X) ?_
  refine as_aload_n (pc := 139) X dX5_does_139 rfl ?_
  refine as_aload_n (pc := 140) X dX5_does_140 rfl ?_
  refine as_getR (ci := 5) (j := 18) (pc := 141) X (Cn := RX5) (Tf := TX5) (N := 21) rfl rfl (by decide) iw_X5 aw_756 rfl dX5_does_141 ?_
  refine as_iconst (pc := 144) X dX5_does_144 (by decide) ?_
  refine as_iald (pc := 145) X dX5_does_145 ?_
  refine as_callV (ci := 5) (np := 1) (ix := 138) (pc := 146) X ct_X5_isLine (Cn := (RX5, TX5, 21)) rfl ⟨rfl, rfl⟩ aw_844 aw_846 aw_28 aw_847 aw_65 (by decide +kernel) (by decide) dX5_does_146 ?_
  refine as_if_ne (pc := 149) X 154 dX5_does_149 (by decide) (s_X5_does_154 X) ?_
  exact s_X5_does_152 X
theorem s_X5_does_120 {G : am_G} {bc bs : Nat} (X : am_Cx G cX5_does RX5 "does" rm_X5_does (some .int) 2 bc bs true) : am_S G 120 (t_X5_does_120) := by
  unfold t_X5_does_120
  refine as_iconst (pc := 120) X dX5_does_120 (by decide) ?_
  exact s_X5_does_121 X
theorem s_X5_does_107 {G : am_G} {bc bs : Nat} (X : am_Cx G cX5_does RX5 "does" rm_X5_does (some .int) 2 bc bs true) : am_S G 107 (t_X5_does_107) := by
  unfold t_X5_does_107
  refine as_aload_n (pc := 107) X dX5_does_107 rfl ?_
  refine as_getI (ci := 5) (j := 17) (pc := 108) X (Cn := RX5) (Tf := TX5) (N := 21) rfl rfl (by decide) iw_X5 aw_755 rfl dX5_does_108 ?_
  refine as_bipush (pc := 111) X dX5_does_111 (by decide) ?_
  refine as_ic_ne (pc := 113) X 120 dX5_does_113 (by decide) (s_X5_does_120 X) ?_
  refine as_iconst (pc := 116) X dX5_does_116 (by decide) ?_
  exact as_goto (pc := 117) X 121 dX5_does_117 (by decide) (s_X5_does_121 X)
theorem s_X5_does_94 {G : am_G} {bc bs : Nat} (X : am_Cx G cX5_does RX5 "does" rm_X5_does (some .int) 2 bc bs true) : am_S G 94 (t_X5_does_94) := by
  unfold t_X5_does_94
  refine as_aload_n (pc := 94) X dX5_does_94 rfl ?_
  refine as_getI (ci := 5) (j := 17) (pc := 95) X (Cn := RX5) (Tf := TX5) (N := 21) rfl rfl (by decide) iw_X5 aw_755 rfl dX5_does_95 ?_
  refine as_bipush (pc := 98) X dX5_does_98 (by decide) ?_
  refine as_ic_ne (pc := 100) X 107 dX5_does_100 (by decide) (s_X5_does_107 X) ?_
  refine as_iconst (pc := 103) X dX5_does_103 (by decide) ?_
  exact as_goto (pc := 104) X 121 dX5_does_104 (by decide) (s_X5_does_121 X)
theorem s_X5_does_64 {G : am_G} {bc bs : Nat} (X : am_Cx G cX5_does RX5 "does" rm_X5_does (some .int) 2 bc bs true) : am_S G 64 (t_X5_does_64) := by
  unfold t_X5_does_64
  refine as_aload_n (pc := 64) X dX5_does_64 rfl ?_
  refine as_aload_n (pc := 65) X dX5_does_65 rfl ?_
  refine as_getR (ci := 5) (j := 18) (pc := 66) X (Cn := RX5) (Tf := TX5) (N := 21) rfl rfl (by decide) iw_X5 aw_756 rfl dX5_does_66 ?_
  refine as_iconst (pc := 69) X dX5_does_69 (by decide) ?_
  refine as_iald (pc := 70) X dX5_does_70 ?_
  refine as_aload_n (pc := 71) X dX5_does_71 rfl ?_
  refine as_getR (ci := 5) (j := 18) (pc := 72) X (Cn := RX5) (Tf := TX5) (N := 21) rfl rfl (by decide) iw_X5 aw_756 rfl dX5_does_72 ?_
  refine as_iconst (pc := 75) X dX5_does_75 (by decide) ?_
  refine as_iald (pc := 76) X dX5_does_76 ?_
  refine as_aload_n (pc := 77) X dX5_does_77 rfl ?_
  refine as_getR (ci := 5) (j := 18) (pc := 78) X (Cn := RX5) (Tf := TX5) (N := 21) rfl rfl (by decide) iw_X5 aw_756 rfl dX5_does_78 ?_
  refine as_iconst (pc := 81) X dX5_does_81 (by decide) ?_
  refine as_iald (pc := 82) X dX5_does_82 ?_
  refine as_aload_n (pc := 83) X dX5_does_83 rfl ?_
  refine as_getR (ci := 5) (j := 18) (pc := 84) X (Cn := RX5) (Tf := TX5) (N := 21) rfl rfl (by decide) iw_X5 aw_756 rfl dX5_does_84 ?_
  refine as_iconst (pc := 87) X dX5_does_87 (by decide) ?_
  refine as_iald (pc := 88) X dX5_does_88 ?_
  refine as_callV (ci := 5) (np := 4) (ix := 131) (pc := 89) X ct_X5_adds (Cn := (RX5, TX5, 21)) rfl ⟨rfl, rfl⟩ aw_836 aw_838 aw_27 aw_839 aw_65 (by decide +kernel) (by decide) dX5_does_89 ?_
  refine as_iconst (pc := 92) X dX5_does_92 (by decide) ?_
  exact as_iret (pc := 93) X ⟨rfl, rfl⟩ rfl dX5_does_93
theorem s_X5_does_50 {G : am_G} {bc bs : Nat} (X : am_Cx G cX5_does RX5 "does" rm_X5_does (some .int) 2 bc bs true) : am_S G 50 (t_X5_does_50) := by
  unfold t_X5_does_50
  refine as_aload_n (pc := 50) X dX5_does_50 rfl ?_
  refine as_getR (ci := 5) (j := 0) (pc := 51) X (Cn := RX5) (Tf := TX5) (N := 21) rfl rfl (by decide) iw_X5 aw_738 rfl dX5_does_51 ?_
  refine as_bipush (pc := 54) X dX5_does_54 (by decide) ?_
  refine as_iald (pc := 56) X dX5_does_56 ?_
  refine as_bipush (pc := 57) X dX5_does_57 (by decide) ?_
  refine as_ic_ne (pc := 59) X 64 dX5_does_59 (by decide) (s_X5_does_64 X) ?_
  refine as_iconst (pc := 62) X dX5_does_62 (by decide) ?_
  exact as_iret (pc := 63) X ⟨rfl, rfl⟩ rfl dX5_does_63
theorem s_X5_does_9 {G : am_G} {bc bs : Nat} (X : am_Cx G cX5_does RX5 "does" rm_X5_does (some .int) 2 bc bs true) : am_S G 9 (t_X5_does_9) := by
  unfold t_X5_does_9
  refine as_aload_n (pc := 9) X dX5_does_9 rfl ?_
  refine as_getI (ci := 5) (j := 17) (pc := 10) X (Cn := RX5) (Tf := TX5) (N := 21) rfl rfl (by decide) iw_X5 aw_755 rfl dX5_does_10 ?_
  refine as_bipush (pc := 13) X dX5_does_13 (by decide) ?_
  refine as_ic_ne (pc := 15) X 94 dX5_does_15 (by decide) (s_X5_does_94 X) ?_
  refine as_aload_n (pc := 18) X dX5_does_18 rfl ?_
  refine as_getR (ci := 5) (j := 18) (pc := 19) X (Cn := RX5) (Tf := TX5) (N := 21) rfl rfl (by decide) iw_X5 aw_756 rfl dX5_does_19 ?_
  refine as_iconst (pc := 22) X dX5_does_22 (by decide) ?_
  refine as_iald (pc := 23) X dX5_does_23 ?_
  refine as_aload_n (pc := 24) X dX5_does_24 rfl ?_
  refine as_getR (ci := 5) (j := 18) (pc := 25) X (Cn := RX5) (Tf := TX5) (N := 21) rfl rfl (by decide) iw_X5 aw_756 rfl dX5_does_25 ?_
  refine as_iconst (pc := 28) X dX5_does_28 (by decide) ?_
  refine as_iald (pc := 29) X dX5_does_29 ?_
  refine as_aload_n (pc := 30) X dX5_does_30 rfl ?_
  refine as_getR (ci := 5) (j := 18) (pc := 31) X (Cn := RX5) (Tf := TX5) (N := 21) rfl rfl (by decide) iw_X5 aw_756 rfl dX5_does_31 ?_
  refine as_iconst (pc := 34) X dX5_does_34 (by decide) ?_
  refine as_iald (pc := 35) X dX5_does_35 ?_
  refine as_aload_n (pc := 36) X dX5_does_36 rfl ?_
  refine as_getR (ci := 5) (j := 18) (pc := 37) X (Cn := RX5) (Tf := TX5) (N := 21) rfl rfl (by decide) iw_X5 aw_756 rfl dX5_does_37 ?_
  refine as_iconst (pc := 40) X dX5_does_40 (by decide) ?_
  refine as_iald (pc := 41) X dX5_does_41 ?_
  refine as_callS (np := 4) (ix := 127) (pc := 42) X ct_X5_isTold ⟨rfl, rfl⟩ aw_832 aw_833 aw_834 aw_65 (by decide +kernel) (by decide) dX5_does_42 ?_
  refine as_if_ne (pc := 45) X 50 dX5_does_45 (by decide) (s_X5_does_50 X) ?_
  refine as_iconst (pc := 48) X dX5_does_48 (by decide) ?_
  exact as_iret (pc := 49) X ⟨rfl, rfl⟩ rfl dX5_does_49
theorem s_X5_does_0 {G : am_G} {bc bs : Nat} (X : am_Cx G cX5_does RX5 "does" rm_X5_does (some .int) 2 bc bs true) : am_S G 0 (t_X5_does_0) := by
  unfold t_X5_does_0
  refine as_aload_n (pc := 0) X dX5_does_0 rfl ?_
  refine as_callV (ci := 5) (np := 0) (ix := 211) (pc := 1) X ct_X5_isEntry (Cn := (RX5, TX5, 21)) rfl ⟨rfl, rfl⟩ aw_1070 aw_1072 aw_55 aw_1073 aw_65 (by decide +kernel) (by decide) dX5_does_1 ?_
  refine as_if_ne (pc := 4) X 9 dX5_does_4 (by decide) (s_X5_does_9 X) ?_
  refine as_iconst (pc := 7) X dX5_does_7 (by decide) ?_
  exact as_iret (pc := 8) X ⟨rfl, rfl⟩ rfl dX5_does_8
theorem s_X5_does {G : am_G} {bc bs : Nat} (X : am_Cx G cX5_does RX5 "does" rm_X5_does (some .int) 2 bc bs true) (h : Nat) : am_S G h (h_X5_does h) := by
  unfold h_X5_does
  split
  · next e => rw [e]; exact s_X5_does_0 X
  exact as_bad
theorem ct_X5_does : am_Ct yX5_does cX5_does 2 (some .int) rm_X5_does sp_X5_does := am_met (own := RX5) (nm := "does") (by decide) rfl rfl (Or.inr (Or.inl rfl)) (fun _ _ => h_X5_does) (fun _ _ _ X => s_X5_does X) (fun _ _ _ _ h => h)
-- X5_doesAll
theorem dX5_doesAll_0 : decode cX5_doesAll 0 = .ok (.aload_n 0, 1) := by decide +kernel
theorem dX5_doesAll_1 : decode cX5_doesAll 1 = .ok (.iconst 0, 1) := by decide +kernel
theorem dX5_doesAll_2 : decode cX5_doesAll 2 = .ok (.putfield 202, 3) := by decide +kernel
theorem dX5_doesAll_5 : decode cX5_doesAll 5 = .ok (.aload_n 0, 1) := by decide +kernel
theorem dX5_doesAll_6 : decode cX5_doesAll 6 = .ok (.iconst 0, 1) := by decide +kernel
theorem dX5_doesAll_7 : decode cX5_doesAll 7 = .ok (.putfield 215, 3) := by decide +kernel
theorem dX5_doesAll_10 : decode cX5_doesAll 10 = .ok (.aload_n 0, 1) := by decide +kernel
theorem dX5_doesAll_11 : decode cX5_doesAll 11 = .ok (.getfield 202, 3) := by decide +kernel
theorem dX5_doesAll_14 : decode cX5_doesAll 14 = .ok (.aload_n 0, 1) := by decide +kernel
theorem dX5_doesAll_15 : decode cX5_doesAll 15 = .ok (.getfield 165, 3) := by decide +kernel
theorem dX5_doesAll_18 : decode cX5_doesAll 18 = .ok (.if_icmp .ge 35, 3) := by decide +kernel
theorem dX5_doesAll_21 : decode cX5_doesAll 21 = .ok (.aload_n 0, 1) := by decide +kernel
theorem dX5_doesAll_22 : decode cX5_doesAll 22 = .ok (.aload_n 0, 1) := by decide +kernel
theorem dX5_doesAll_23 : decode cX5_doesAll 23 = .ok (.getfield 202, 3) := by decide +kernel
theorem dX5_doesAll_26 : decode cX5_doesAll 26 = .ok (.putfield 218, 3) := by decide +kernel
theorem dX5_doesAll_29 : decode cX5_doesAll 29 = .ok (.aload_n 0, 1) := by decide +kernel
theorem dX5_doesAll_30 : decode cX5_doesAll 30 = .ok (.invokevirtual 221, 3) := by decide +kernel
theorem dX5_doesAll_33 : decode cX5_doesAll 33 = .ok (.istore_n 1, 1) := by decide +kernel
theorem dX5_doesAll_34 : decode cX5_doesAll 34 = .ok (.iload_n 1, 1) := by decide +kernel
theorem dX5_doesAll_35 : decode cX5_doesAll 35 = .ok (.ifCond .eq 5, 3) := by decide +kernel
theorem dX5_doesAll_38 : decode cX5_doesAll 38 = .ok (.iload_n 1, 1) := by decide +kernel
theorem dX5_doesAll_39 : decode cX5_doesAll 39 = .ok (.ireturn, 1) := by decide +kernel
theorem dX5_doesAll_40 : decode cX5_doesAll 40 = .ok (.aload_n 0, 1) := by decide +kernel
theorem dX5_doesAll_41 : decode cX5_doesAll 41 = .ok (.dup, 1) := by decide +kernel
theorem dX5_doesAll_42 : decode cX5_doesAll 42 = .ok (.getfield 215, 3) := by decide +kernel
theorem dX5_doesAll_45 : decode cX5_doesAll 45 = .ok (.iconst 1, 1) := by decide +kernel
theorem dX5_doesAll_46 : decode cX5_doesAll 46 = .ok (.iadd, 1) := by decide +kernel
theorem dX5_doesAll_47 : decode cX5_doesAll 47 = .ok (.putfield 215, 3) := by decide +kernel
theorem dX5_doesAll_50 : decode cX5_doesAll 50 = .ok (.goto (-40), 3) := by decide +kernel
theorem dX5_doesAll_53 : decode cX5_doesAll 53 = .ok (.iconst 0, 1) := by decide +kernel
theorem dX5_doesAll_54 : decode cX5_doesAll 54 = .ok (.ireturn, 1) := by decide +kernel
def t_X5_doesAll_53 : am_T := tb_const 0 <|
  tb_iret
def t_X5_doesAll_40 : am_T := tb_aload 0 <|
  tb_dup <|
  tb_getI 5 20 <|
  tb_const 1 <|
  tb_bin (fun x y => x + y) <|
  tb_putI 5 20 <|
  tb_head 10
def t_X5_doesAll_10 : am_T := tb_aload 0 <|
  tb_getI 5 16 <|
  tb_aload 0 <|
  tb_getI 5 5 <|
  tb_ic (fun x y => y ≤ x) (t_X5_doesAll_53) <|
  tb_aload 0 <|
  tb_aload 0 <|
  tb_getI 5 16 <|
  tb_putI 5 19 <|
  tb_aload 0 <|
  tb_callV 5 sp_X5_does 1 <|
  tb_istore 1 <|
  tb_iload 1 <|
  tb_if (fun x => x = 0) (t_X5_doesAll_40) <|
  tb_iload 1 <|
  tb_iret
def t_X5_doesAll_0 : am_T := tb_aload 0 <|
  tb_const 0 <|
  tb_putI 5 16 <|
  tb_aload 0 <|
  tb_const 0 <|
  tb_putI 5 20 <|
  tb_head 10
def h_X5_doesAll : am_Hd := fun h => if h = 0 then t_X5_doesAll_0 else if h = 10 then t_X5_doesAll_10 else tb_bad
theorem h_X5_doesAll_0 : h_X5_doesAll 0 = t_X5_doesAll_0 := rfl
theorem h_X5_doesAll_10 : h_X5_doesAll 10 = t_X5_doesAll_10 := rfl
def rm_X5_doesAll : Room := { frames := 4, cells := 0, slots := 0, locals := 92 }
def sp_X5_doesAll : am_sp := fun as M Q => as.length ≤ 2 ∧ am_OK h_X5_doesAll Q 0 (am_in 2 as) M
theorem s_X5_doesAll_53 {G : am_G} {bc bs : Nat} (X : am_Cx G cX5_doesAll RX5 "doesAll" rm_X5_doesAll (some .int) 2 bc bs true) : am_S G 53 (t_X5_doesAll_53) := by
  unfold t_X5_doesAll_53
  refine as_iconst (pc := 53) X dX5_doesAll_53 (by decide) ?_
  exact as_iret (pc := 54) X ⟨rfl, rfl⟩ rfl dX5_doesAll_54
theorem s_X5_doesAll_40 {G : am_G} {bc bs : Nat} (X : am_Cx G cX5_doesAll RX5 "doesAll" rm_X5_doesAll (some .int) 2 bc bs true) : am_S G 40 (t_X5_doesAll_40) := by
  unfold t_X5_doesAll_40
  refine as_aload_n (pc := 40) X dX5_doesAll_40 rfl ?_
  refine as_dup (pc := 41) X dX5_doesAll_41 ?_
  refine as_getI (ci := 5) (j := 20) (pc := 42) X (Cn := RX5) (Tf := TX5) (N := 21) rfl rfl (by decide) iw_X5 aw_758 rfl dX5_doesAll_42 ?_
  refine as_iconst (pc := 45) X dX5_doesAll_45 (by decide) ?_
  refine as_iadd (pc := 46) X dX5_doesAll_46 ?_
  refine as_putI (ci := 5) (j := 20) (pc := 47) X (Cn := RX5) (Tf := TX5) (N := 21) rfl rfl (by decide) iw_X5 aw_758 tyX5 tyX5_ok nmX5 rfl rfl (by decide +kernel) dX5_doesAll_47 ?_
  exact as_goto (pc := 50) X 10 dX5_doesAll_50 (by decide) (as_head)
theorem s_X5_doesAll_10 {G : am_G} {bc bs : Nat} (X : am_Cx G cX5_doesAll RX5 "doesAll" rm_X5_doesAll (some .int) 2 bc bs true) : am_S G 10 (t_X5_doesAll_10) := by
  unfold t_X5_doesAll_10
  refine as_aload_n (pc := 10) X dX5_doesAll_10 rfl ?_
  refine as_getI (ci := 5) (j := 16) (pc := 11) X (Cn := RX5) (Tf := TX5) (N := 21) rfl rfl (by decide) iw_X5 aw_754 rfl dX5_doesAll_11 ?_
  refine as_aload_n (pc := 14) X dX5_doesAll_14 rfl ?_
  refine as_getI (ci := 5) (j := 5) (pc := 15) X (Cn := RX5) (Tf := TX5) (N := 21) rfl rfl (by decide) iw_X5 aw_743 rfl dX5_doesAll_15 ?_
  refine as_ic_ge (pc := 18) X 53 dX5_doesAll_18 (by decide) (s_X5_doesAll_53 X) ?_
  refine as_aload_n (pc := 21) X dX5_doesAll_21 rfl ?_
  refine as_aload_n (pc := 22) X dX5_doesAll_22 rfl ?_
  refine as_getI (ci := 5) (j := 16) (pc := 23) X (Cn := RX5) (Tf := TX5) (N := 21) rfl rfl (by decide) iw_X5 aw_754 rfl dX5_doesAll_23 ?_
  refine as_putI (ci := 5) (j := 19) (pc := 26) X (Cn := RX5) (Tf := TX5) (N := 21) rfl rfl (by decide) iw_X5 aw_757 tyX5 tyX5_ok nmX5 rfl rfl (by decide +kernel) dX5_doesAll_26 ?_
  refine as_aload_n (pc := 29) X dX5_doesAll_29 rfl ?_
  refine as_callV (ci := 5) (np := 0) (ix := 221) (pc := 30) X ct_X5_does (Cn := (RX5, TX5, 21)) rfl ⟨rfl, rfl⟩ aw_1066 aw_1068 aw_54 aw_1069 aw_65 (by decide +kernel) (by decide) dX5_doesAll_30 ?_
  refine as_istore_n (pc := 33) X dX5_doesAll_33 rfl ?_ (by decide)
  refine as_iload_n (pc := 34) X dX5_doesAll_34 rfl ?_
  refine as_if_eq (pc := 35) X 40 dX5_doesAll_35 (by decide) (s_X5_doesAll_40 X) ?_
  refine as_iload_n (pc := 38) X dX5_doesAll_38 rfl ?_
  exact as_iret (pc := 39) X ⟨rfl, rfl⟩ rfl dX5_doesAll_39
theorem s_X5_doesAll_0 {G : am_G} {bc bs : Nat} (X : am_Cx G cX5_doesAll RX5 "doesAll" rm_X5_doesAll (some .int) 2 bc bs true) : am_S G 0 (t_X5_doesAll_0) := by
  unfold t_X5_doesAll_0
  refine as_aload_n (pc := 0) X dX5_doesAll_0 rfl ?_
  refine as_iconst (pc := 1) X dX5_doesAll_1 (by decide) ?_
  refine as_putI (ci := 5) (j := 16) (pc := 2) X (Cn := RX5) (Tf := TX5) (N := 21) rfl rfl (by decide) iw_X5 aw_754 tyX5 tyX5_ok nmX5 rfl rfl (by decide +kernel) dX5_doesAll_2 ?_
  refine as_aload_n (pc := 5) X dX5_doesAll_5 rfl ?_
  refine as_iconst (pc := 6) X dX5_doesAll_6 (by decide) ?_
  refine as_putI (ci := 5) (j := 20) (pc := 7) X (Cn := RX5) (Tf := TX5) (N := 21) rfl rfl (by decide) iw_X5 aw_758 tyX5 tyX5_ok nmX5 rfl rfl (by decide +kernel) dX5_doesAll_7 ?_
  exact as_head
theorem s_X5_doesAll {G : am_G} {bc bs : Nat} (X : am_Cx G cX5_doesAll RX5 "doesAll" rm_X5_doesAll (some .int) 2 bc bs true) (h : Nat) : am_S G h (h_X5_doesAll h) := by
  unfold h_X5_doesAll
  split
  · next e => rw [e]; exact s_X5_doesAll_0 X
  split
  · next e => rw [e]; exact s_X5_doesAll_10 X
  exact as_bad
theorem ct_X5_doesAll : am_Ct yX5_doesAll cX5_doesAll 2 (some .int) rm_X5_doesAll sp_X5_doesAll := am_met (own := RX5) (nm := "doesAll") (by decide) rfl rfl (Or.inr (Or.inl rfl)) (fun _ _ => h_X5_doesAll) (fun _ _ _ X => s_X5_doesAll X) (fun _ _ _ _ h => h)
-- X5_letsBack
theorem dX5_letsBack_0 : decode cX5_letsBack 0 = .ok (.iconst 0, 1) := by decide +kernel
theorem dX5_letsBack_1 : decode cX5_letsBack 1 = .ok (.istore_n 1, 1) := by decide +kernel
theorem dX5_letsBack_2 : decode cX5_letsBack 2 = .ok (.iload_n 1, 1) := by decide +kernel
theorem dX5_letsBack_3 : decode cX5_letsBack 3 = .ok (.sipush 227, 3) := by decide +kernel
theorem dX5_letsBack_6 : decode cX5_letsBack 6 = .ok (.if_icmp .ge 21, 3) := by decide +kernel
theorem dX5_letsBack_9 : decode cX5_letsBack 9 = .ok (.aload_n 0, 1) := by decide +kernel
theorem dX5_letsBack_10 : decode cX5_letsBack 10 = .ok (.getfield 7, 3) := by decide +kernel
theorem dX5_letsBack_13 : decode cX5_letsBack 13 = .ok (.iload_n 1, 1) := by decide +kernel
theorem dX5_letsBack_14 : decode cX5_letsBack 14 = .ok (.aload_n 0, 1) := by decide +kernel
theorem dX5_letsBack_15 : decode cX5_letsBack 15 = .ok (.getfield 13, 3) := by decide +kernel
theorem dX5_letsBack_18 : decode cX5_letsBack 18 = .ok (.iload_n 1, 1) := by decide +kernel
theorem dX5_letsBack_19 : decode cX5_letsBack 19 = .ok (.iaload, 1) := by decide +kernel
theorem dX5_letsBack_20 : decode cX5_letsBack 20 = .ok (.iastore, 1) := by decide +kernel
theorem dX5_letsBack_21 : decode cX5_letsBack 21 = .ok (.iinc 1 1, 3) := by decide +kernel
theorem dX5_letsBack_24 : decode cX5_letsBack 24 = .ok (.goto (-22), 3) := by decide +kernel
theorem dX5_letsBack_27 : decode cX5_letsBack 27 = .ok (.return_, 1) := by decide +kernel
def t_X5_letsBack_27 : am_T := tb_ret
def t_X5_letsBack_2 : am_T := tb_iload 1 <|
  tb_const 227 <|
  tb_ic (fun x y => y ≤ x) (t_X5_letsBack_27) <|
  tb_aload 0 <|
  tb_getR 5 0 <|
  tb_iload 1 <|
  tb_aload 0 <|
  tb_getR 5 1 <|
  tb_iload 1 <|
  tb_iald <|
  tb_iast <|
  tb_iinc 1 1 <|
  tb_head 2
def t_X5_letsBack_0 : am_T := tb_const 0 <|
  tb_istore 1 <|
  tb_head 2
def h_X5_letsBack : am_Hd := fun h => if h = 0 then t_X5_letsBack_0 else if h = 2 then t_X5_letsBack_2 else tb_bad
theorem h_X5_letsBack_0 : h_X5_letsBack 0 = t_X5_letsBack_0 := rfl
theorem h_X5_letsBack_2 : h_X5_letsBack 2 = t_X5_letsBack_2 := rfl
def rm_X5_letsBack : Room := { frames := 0, cells := 0, slots := 0, locals := 0 }
def sp_X5_letsBack : am_sp := fun as M Q => as.length ≤ 2 ∧ am_OK h_X5_letsBack Q 0 (am_in 2 as) M
theorem s_X5_letsBack_27 {G : am_G} {bc bs : Nat} (X : am_Cx G cX5_letsBack RX5 "letsBack" rm_X5_letsBack none 2 bc bs true) : am_S G 27 (t_X5_letsBack_27) := by
  unfold t_X5_letsBack_27
  exact as_ret (pc := 27) X ⟨rfl, rfl⟩ rfl dX5_letsBack_27
theorem s_X5_letsBack_2 {G : am_G} {bc bs : Nat} (X : am_Cx G cX5_letsBack RX5 "letsBack" rm_X5_letsBack none 2 bc bs true) : am_S G 2 (t_X5_letsBack_2) := by
  unfold t_X5_letsBack_2
  refine as_iload_n (pc := 2) X dX5_letsBack_2 rfl ?_
  refine as_sipush (pc := 3) X dX5_letsBack_3 (by decide) ?_
  refine as_ic_ge (pc := 6) X 27 dX5_letsBack_6 (by decide) (s_X5_letsBack_27 X) ?_
  refine as_aload_n (pc := 9) X dX5_letsBack_9 rfl ?_
  refine as_getR (ci := 5) (j := 0) (pc := 10) X (Cn := RX5) (Tf := TX5) (N := 21) rfl rfl (by decide) iw_X5 aw_738 rfl dX5_letsBack_10 ?_
  refine as_iload_n (pc := 13) X dX5_letsBack_13 rfl ?_
  refine as_aload_n (pc := 14) X dX5_letsBack_14 rfl ?_
  refine as_getR (ci := 5) (j := 1) (pc := 15) X (Cn := RX5) (Tf := TX5) (N := 21) rfl rfl (by decide) iw_X5 aw_739 rfl dX5_letsBack_15 ?_
  refine as_iload_n (pc := 18) X dX5_letsBack_18 rfl ?_
  refine as_iald (pc := 19) X dX5_letsBack_19 ?_
  refine as_iast (pc := 20) X dX5_letsBack_20 ?_
  refine as_iinc (pc := 21) X dX5_letsBack_21 (by decide) (by decide) ?_
  exact as_goto (pc := 24) X 2 dX5_letsBack_24 (by decide) (as_head)
theorem s_X5_letsBack_0 {G : am_G} {bc bs : Nat} (X : am_Cx G cX5_letsBack RX5 "letsBack" rm_X5_letsBack none 2 bc bs true) : am_S G 0 (t_X5_letsBack_0) := by
  unfold t_X5_letsBack_0
  refine as_iconst (pc := 0) X dX5_letsBack_0 (by decide) ?_
  refine as_istore_n (pc := 1) X dX5_letsBack_1 rfl ?_ (by decide)
  exact as_head
theorem s_X5_letsBack {G : am_G} {bc bs : Nat} (X : am_Cx G cX5_letsBack RX5 "letsBack" rm_X5_letsBack none 2 bc bs true) (h : Nat) : am_S G h (h_X5_letsBack h) := by
  unfold h_X5_letsBack
  split
  · next e => rw [e]; exact s_X5_letsBack_0 X
  split
  · next e => rw [e]; exact s_X5_letsBack_2 X
  exact as_bad
theorem ct_X5_letsBack : am_Ct yX5_letsBack cX5_letsBack 2 none rm_X5_letsBack sp_X5_letsBack := am_met (own := RX5) (nm := "letsBack") (by decide) rfl rfl (Or.inl rfl) (fun _ _ => h_X5_letsBack) (fun _ _ _ X => s_X5_letsBack X) (fun _ _ _ _ h => h)
-- X5_fault
theorem dX5_fault_0 : decode cX5_fault 0 = .ok (.iload_n 1, 1) := by decide +kernel
theorem dX5_fault_1 : decode cX5_fault 1 = .ok (.iconst 0, 1) := by decide +kernel
theorem dX5_fault_2 : decode cX5_fault 2 = .ok (.iconst 1, 1) := by decide +kernel
theorem dX5_fault_3 : decode cX5_fault 3 = .ok (.invokestatic 60, 3) := by decide +kernel
theorem dX5_fault_6 : decode cX5_fault 6 = .ok (.ifCond .ne 5, 3) := by decide +kernel
theorem dX5_fault_9 : decode cX5_fault 9 = .ok (.iconst (-1), 1) := by decide +kernel
theorem dX5_fault_10 : decode cX5_fault 10 = .ok (.ireturn, 1) := by decide +kernel
theorem dX5_fault_11 : decode cX5_fault 11 = .ok (.aload_n 0, 1) := by decide +kernel
theorem dX5_fault_12 : decode cX5_fault 12 = .ok (.invokevirtual 199, 3) := by decide +kernel
theorem dX5_fault_15 : decode cX5_fault 15 = .ok (.aload_n 0, 1) := by decide +kernel
theorem dX5_fault_16 : decode cX5_fault 16 = .ok (.invokevirtual 225, 3) := by decide +kernel
theorem dX5_fault_19 : decode cX5_fault 19 = .ok (.istore_n 2, 1) := by decide +kernel
theorem dX5_fault_20 : decode cX5_fault 20 = .ok (.aload_n 0, 1) := by decide +kernel
theorem dX5_fault_21 : decode cX5_fault 21 = .ok (.invokevirtual 228, 3) := by decide +kernel
theorem dX5_fault_24 : decode cX5_fault 24 = .ok (.iload_n 2, 1) := by decide +kernel
theorem dX5_fault_25 : decode cX5_fault 25 = .ok (.ifCond .ne 8, 3) := by decide +kernel
theorem dX5_fault_28 : decode cX5_fault 28 = .ok (.bipush (-4), 2) := by decide +kernel
theorem dX5_fault_30 : decode cX5_fault 30 = .ok (.goto 15, 3) := by decide +kernel
theorem dX5_fault_33 : decode cX5_fault 33 = .ok (.iload_n 1, 1) := by decide +kernel
theorem dX5_fault_34 : decode cX5_fault 34 = .ok (.ifCond .ne 10, 3) := by decide +kernel
theorem dX5_fault_37 : decode cX5_fault 37 = .ok (.aload_n 0, 1) := by decide +kernel
theorem dX5_fault_38 : decode cX5_fault 38 = .ok (.getfield 218, 3) := by decide +kernel
theorem dX5_fault_41 : decode cX5_fault 41 = .ok (.goto 4, 3) := by decide +kernel
theorem dX5_fault_44 : decode cX5_fault 44 = .ok (.iload_n 2, 1) := by decide +kernel
theorem dX5_fault_45 : decode cX5_fault 45 = .ok (.ireturn, 1) := by decide +kernel
def t_X5_fault_45 : am_T := tb_iret
def t_X5_fault_44 : am_T := tb_iload 2 <|
  t_X5_fault_45
def t_X5_fault_33 : am_T := tb_iload 1 <|
  tb_if (fun x => x ≠ 0) (t_X5_fault_44) <|
  tb_aload 0 <|
  tb_getI 5 19 <|
  t_X5_fault_45
def t_X5_fault_11 : am_T := tb_aload 0 <|
  tb_callV 5 sp_X5_begins 1 <|
  tb_aload 0 <|
  tb_callV 5 sp_X5_doesAll 1 <|
  tb_istore 2 <|
  tb_aload 0 <|
  tb_callV 5 sp_X5_letsBack 1 <|
  tb_iload 2 <|
  tb_if (fun x => x ≠ 0) (t_X5_fault_33) <|
  tb_const (-4) <|
  t_X5_fault_45
def t_X5_fault_0 : am_T := tb_iload 1 <|
  tb_const 0 <|
  tb_const 1 <|
  tb_callS sp_X5_in 3 <|
  tb_if (fun x => x ≠ 0) (t_X5_fault_11) <|
  tb_const (-1) <|
  tb_iret
def h_X5_fault : am_Hd := fun h => if h = 0 then t_X5_fault_0 else tb_bad
theorem h_X5_fault_0 : h_X5_fault 0 = t_X5_fault_0 := rfl
def rm_X5_fault : Room := { frames := 5, cells := 0, slots := 0, locals := 113 }
def sp_X5_fault : am_sp := fun as M Q => as.length ≤ 3 ∧ am_OK h_X5_fault Q 0 (am_in 3 as) M
theorem s_X5_fault_45 {G : am_G} {bc bs : Nat} (X : am_Cx G cX5_fault RX5 "fault" rm_X5_fault (some .int) 3 bc bs true) : am_S G 45 (t_X5_fault_45) := by
  unfold t_X5_fault_45
  exact as_iret (pc := 45) X ⟨rfl, rfl⟩ rfl dX5_fault_45
theorem s_X5_fault_44 {G : am_G} {bc bs : Nat} (X : am_Cx G cX5_fault RX5 "fault" rm_X5_fault (some .int) 3 bc bs true) : am_S G 44 (t_X5_fault_44) := by
  unfold t_X5_fault_44
  refine as_iload_n (pc := 44) X dX5_fault_44 rfl ?_
  exact s_X5_fault_45 X
theorem s_X5_fault_33 {G : am_G} {bc bs : Nat} (X : am_Cx G cX5_fault RX5 "fault" rm_X5_fault (some .int) 3 bc bs true) : am_S G 33 (t_X5_fault_33) := by
  unfold t_X5_fault_33
  refine as_iload_n (pc := 33) X dX5_fault_33 rfl ?_
  refine as_if_ne (pc := 34) X 44 dX5_fault_34 (by decide) (s_X5_fault_44 X) ?_
  refine as_aload_n (pc := 37) X dX5_fault_37 rfl ?_
  refine as_getI (ci := 5) (j := 19) (pc := 38) X (Cn := RX5) (Tf := TX5) (N := 21) rfl rfl (by decide) iw_X5 aw_757 rfl dX5_fault_38 ?_
  exact as_goto (pc := 41) X 45 dX5_fault_41 (by decide) (s_X5_fault_45 X)
theorem s_X5_fault_11 {G : am_G} {bc bs : Nat} (X : am_Cx G cX5_fault RX5 "fault" rm_X5_fault (some .int) 3 bc bs true) : am_S G 11 (t_X5_fault_11) := by
  unfold t_X5_fault_11
  refine as_aload_n (pc := 11) X dX5_fault_11 rfl ?_
  refine as_callV (ci := 5) (np := 0) (ix := 199) (pc := 12) X ct_X5_begins (Cn := (RX5, TX5, 21)) rfl ⟨rfl, rfl⟩ aw_1038 aw_1040 aw_52 aw_1041 aw_65 (by decide +kernel) (by decide) dX5_fault_12 ?_
  refine as_aload_n (pc := 15) X dX5_fault_15 rfl ?_
  refine as_callV (ci := 5) (np := 0) (ix := 225) (pc := 16) X ct_X5_doesAll (Cn := (RX5, TX5, 21)) rfl ⟨rfl, rfl⟩ aw_1062 aw_1064 aw_53 aw_1065 aw_65 (by decide +kernel) (by decide) dX5_fault_16 ?_
  refine as_istore_n (pc := 19) X dX5_fault_19 rfl ?_ (by decide)
  refine as_aload_n (pc := 20) X dX5_fault_20 rfl ?_
  refine as_callV (ci := 5) (np := 0) (ix := 228) (pc := 21) X ct_X5_letsBack (Cn := (RX5, TX5, 21)) rfl ⟨rfl, rfl⟩ aw_1078 aw_1080 aw_57 aw_1081 aw_65 (by decide +kernel) (by decide) dX5_fault_21 ?_
  refine as_iload_n (pc := 24) X dX5_fault_24 rfl ?_
  refine as_if_ne (pc := 25) X 33 dX5_fault_25 (by decide) (s_X5_fault_33 X) ?_
  refine as_bipush (pc := 28) X dX5_fault_28 (by decide) ?_
  exact as_goto (pc := 30) X 45 dX5_fault_30 (by decide) (s_X5_fault_45 X)
theorem s_X5_fault_0 {G : am_G} {bc bs : Nat} (X : am_Cx G cX5_fault RX5 "fault" rm_X5_fault (some .int) 3 bc bs true) : am_S G 0 (t_X5_fault_0) := by
  unfold t_X5_fault_0
  refine as_iload_n (pc := 0) X dX5_fault_0 rfl ?_
  refine as_iconst (pc := 1) X dX5_fault_1 (by decide) ?_
  refine as_iconst (pc := 2) X dX5_fault_2 (by decide) ?_
  refine as_callS (np := 3) (ix := 60) (pc := 3) X ct_X5_in ⟨rfl, rfl⟩ aw_806 aw_807 aw_808 aw_65 (by decide +kernel) (by decide) dX5_fault_3 ?_
  refine as_if_ne (pc := 6) X 11 dX5_fault_6 (by decide) (s_X5_fault_11 X) ?_
  refine as_iconst (pc := 9) X dX5_fault_9 (by decide) ?_
  exact as_iret (pc := 10) X ⟨rfl, rfl⟩ rfl dX5_fault_10
theorem s_X5_fault {G : am_G} {bc bs : Nat} (X : am_Cx G cX5_fault RX5 "fault" rm_X5_fault (some .int) 3 bc bs true) (h : Nat) : am_S G h (h_X5_fault h) := by
  unfold h_X5_fault
  split
  · next e => rw [e]; exact s_X5_fault_0 X
  exact as_bad
theorem ct_X5_fault : am_Ct yX5_fault cX5_fault 3 (some .int) rm_X5_fault sp_X5_fault := am_met (own := RX5) (nm := "fault") (by decide) rfl rfl (Or.inr (Or.inl rfl)) (fun _ _ => h_X5_fault) (fun _ _ _ X => s_X5_fault X) (fun _ _ _ _ h => h)
-- X4_load
theorem dX4_load_0 : decode cX4_load 0 = .ok (.aload_n 0, 1) := by decide +kernel
theorem dX4_load_1 : decode cX4_load 1 = .ok (.getfield 42, 3) := by decide +kernel
theorem dX4_load_4 : decode cX4_load 4 = .ok (.aload_n 0, 1) := by decide +kernel
theorem dX4_load_5 : decode cX4_load 5 = .ok (.getfield 20, 3) := by decide +kernel
theorem dX4_load_8 : decode cX4_load 8 = .ok (.invokevirtual 238, 3) := by decide +kernel
theorem dX4_load_11 : decode cX4_load 11 = .ok (.aload_n 0, 1) := by decide +kernel
theorem dX4_load_12 : decode cX4_load 12 = .ok (.getfield 35, 3) := by decide +kernel
theorem dX4_load_15 : decode cX4_load 15 = .ok (.aload_n 0, 1) := by decide +kernel
theorem dX4_load_16 : decode cX4_load 16 = .ok (.getfield 42, 3) := by decide +kernel
theorem dX4_load_19 : decode cX4_load 19 = .ok (.invokevirtual 260, 3) := by decide +kernel
theorem dX4_load_22 : decode cX4_load 22 = .ok (.ifCond .ne 6, 3) := by decide +kernel
theorem dX4_load_25 : decode cX4_load 25 = .ok (.bipush (-2), 2) := by decide +kernel
theorem dX4_load_27 : decode cX4_load 27 = .ok (.ireturn, 1) := by decide +kernel
theorem dX4_load_28 : decode cX4_load 28 = .ok (.aload_n 0, 1) := by decide +kernel
theorem dX4_load_29 : decode cX4_load 29 = .ok (.invokevirtual 69, 3) := by decide +kernel
theorem dX4_load_32 : decode cX4_load 32 = .ok (.aload_n 0, 1) := by decide +kernel
theorem dX4_load_33 : decode cX4_load 33 = .ok (.getfield 20, 3) := by decide +kernel
theorem dX4_load_36 : decode cX4_load 36 = .ok (.aload_n 0, 1) := by decide +kernel
theorem dX4_load_37 : decode cX4_load 37 = .ok (.getfield 42, 3) := by decide +kernel
theorem dX4_load_40 : decode cX4_load 40 = .ok (.invokevirtual 238, 3) := by decide +kernel
theorem dX4_load_43 : decode cX4_load 43 = .ok (.aload_n 0, 1) := by decide +kernel
theorem dX4_load_44 : decode cX4_load 44 = .ok (.getfield 35, 3) := by decide +kernel
theorem dX4_load_47 : decode cX4_load 47 = .ok (.getfield 270, 3) := by decide +kernel
theorem dX4_load_50 : decode cX4_load 50 = .ok (.ireturn, 1) := by decide +kernel
def t_X4_load_28 : am_T := tb_aload 0 <|
  tb_callV 4 sp_X4_beginChange 1 <|
  tb_aload 0 <|
  tb_getR 4 1 <|
  tb_aload 0 <|
  tb_getR 4 6 <|
  tb_callV 1 sp_X1_copyFrom 2 <|
  tb_aload 0 <|
  tb_getR 4 4 <|
  tb_getI 2 2 <|
  tb_iret
def t_X4_load_0 : am_T := tb_aload 0 <|
  tb_getR 4 6 <|
  tb_aload 0 <|
  tb_getR 4 1 <|
  tb_callV 1 sp_X1_copyFrom 2 <|
  tb_aload 0 <|
  tb_getR 4 4 <|
  tb_aload 0 <|
  tb_getR 4 6 <|
  tb_callV 2 sp_X2_doneOn 2 <|
  tb_if (fun x => x ≠ 0) (t_X4_load_28) <|
  tb_const (-2) <|
  tb_iret
def h_X4_load : am_Hd := fun h => if h = 0 then t_X4_load_0 else tb_bad
theorem h_X4_load_0 : h_X4_load 0 = t_X4_load_0 := rfl
def rm_X4_load : Room := { frames := 4, cells := 0, slots := 0, locals := 92 }
def sp_X4_load : am_sp := fun as M Q => as.length ≤ 1 ∧ am_OK h_X4_load Q 0 (am_in 1 as) M
theorem s_X4_load_28 {G : am_G} {bc bs : Nat} (X : am_Cx G cX4_load RX4 "load" rm_X4_load (some .int) 1 bc bs true) : am_S G 28 (t_X4_load_28) := by
  unfold t_X4_load_28
  refine as_aload_n (pc := 28) X dX4_load_28 rfl ?_
  refine as_callV (ci := 4) (np := 0) (ix := 69) (pc := 29) X ct_X4_beginChange (Cn := (RX4, TX4, 7)) rfl ⟨rfl, rfl⟩ aw_322 aw_324 aw_0 aw_325 aw_59 (by decide +kernel) (by decide) dX4_load_29 ?_
  refine as_aload_n (pc := 32) X dX4_load_32 rfl ?_
  refine as_getR (ci := 4) (j := 1) (pc := 33) X (Cn := RX4) (Tf := TX4) (N := 7) rfl rfl (by decide) iw_X4 aw_275 rfl dX4_load_33 ?_
  refine as_aload_n (pc := 36) X dX4_load_36 rfl ?_
  refine as_getR (ci := 4) (j := 6) (pc := 37) X (Cn := RX4) (Tf := TX4) (N := 7) rfl rfl (by decide) iw_X4 aw_280 rfl dX4_load_37 ?_
  refine as_callV (ci := 1) (np := 1) (ix := 238) (pc := 40) X ct_X1_copyFrom (Cn := (RX1, TX1, 14)) rfl ⟨rfl, rfl⟩ aw_652 aw_335 aw_336 aw_337 aw_61 (by decide +kernel) (by decide) dX4_load_40 ?_
  refine as_aload_n (pc := 43) X dX4_load_43 rfl ?_
  refine as_getR (ci := 4) (j := 4) (pc := 44) X (Cn := RX4) (Tf := TX4) (N := 7) rfl rfl (by decide) iw_X4 aw_278 rfl dX4_load_44 ?_
  refine as_getI (ci := 2) (j := 2) (pc := 47) X (Cn := RX2) (Tf := TX2) (N := 8) rfl rfl (by decide) iw_X2 aw_248 rfl dX4_load_47 ?_
  exact as_iret (pc := 50) X ⟨rfl, rfl⟩ rfl dX4_load_50
theorem s_X4_load_0 {G : am_G} {bc bs : Nat} (X : am_Cx G cX4_load RX4 "load" rm_X4_load (some .int) 1 bc bs true) : am_S G 0 (t_X4_load_0) := by
  unfold t_X4_load_0
  refine as_aload_n (pc := 0) X dX4_load_0 rfl ?_
  refine as_getR (ci := 4) (j := 6) (pc := 1) X (Cn := RX4) (Tf := TX4) (N := 7) rfl rfl (by decide) iw_X4 aw_280 rfl dX4_load_1 ?_
  refine as_aload_n (pc := 4) X dX4_load_4 rfl ?_
  refine as_getR (ci := 4) (j := 1) (pc := 5) X (Cn := RX4) (Tf := TX4) (N := 7) rfl rfl (by decide) iw_X4 aw_275 rfl dX4_load_5 ?_
  refine as_callV (ci := 1) (np := 1) (ix := 238) (pc := 8) X ct_X1_copyFrom (Cn := (RX1, TX1, 14)) rfl ⟨rfl, rfl⟩ aw_652 aw_335 aw_336 aw_337 aw_61 (by decide +kernel) (by decide) dX4_load_8 ?_
  refine as_aload_n (pc := 11) X dX4_load_11 rfl ?_
  refine as_getR (ci := 4) (j := 4) (pc := 12) X (Cn := RX4) (Tf := TX4) (N := 7) rfl rfl (by decide) iw_X4 aw_278 rfl dX4_load_12 ?_
  refine as_aload_n (pc := 15) X dX4_load_15 rfl ?_
  refine as_getR (ci := 4) (j := 6) (pc := 16) X (Cn := RX4) (Tf := TX4) (N := 7) rfl rfl (by decide) iw_X4 aw_280 rfl dX4_load_16 ?_
  refine as_callV (ci := 2) (np := 1) (ix := 260) (pc := 19) X ct_X2_doneOn (Cn := (RX2, TX2, 8)) rfl ⟨rfl, rfl⟩ aw_685 aw_686 aw_687 aw_688 aw_64 (by decide +kernel) (by decide) dX4_load_19 ?_
  refine as_if_ne (pc := 22) X 28 dX4_load_22 (by decide) (s_X4_load_28 X) ?_
  refine as_bipush (pc := 25) X dX4_load_25 (by decide) ?_
  exact as_iret (pc := 27) X ⟨rfl, rfl⟩ rfl dX4_load_27
theorem s_X4_load {G : am_G} {bc bs : Nat} (X : am_Cx G cX4_load RX4 "load" rm_X4_load (some .int) 1 bc bs true) (h : Nat) : am_S G h (h_X4_load h) := by
  unfold h_X4_load
  split
  · next e => rw [e]; exact s_X4_load_0 X
  exact as_bad
theorem ct_X4_load : am_Ct yX4_load cX4_load 1 (some .int) rm_X4_load sp_X4_load := am_met (own := RX4) (nm := "load") (by decide) rfl rfl (Or.inr (Or.inl rfl)) (fun _ _ => h_X4_load) (fun _ _ _ X => s_X4_load X) (fun _ _ _ _ h => h)
-- X5_load
theorem dX5_load_0 : decode cX5_load 0 = .ok (.aload_n 0, 1) := by decide +kernel
theorem dX5_load_1 : decode cX5_load 1 = .ok (.invokevirtual 199, 3) := by decide +kernel
theorem dX5_load_4 : decode cX5_load 4 = .ok (.aload_n 0, 1) := by decide +kernel
theorem dX5_load_5 : decode cX5_load 5 = .ok (.invokevirtual 225, 3) := by decide +kernel
theorem dX5_load_8 : decode cX5_load 8 = .ok (.istore_n 1, 1) := by decide +kernel
theorem dX5_load_9 : decode cX5_load 9 = .ok (.aload_n 0, 1) := by decide +kernel
theorem dX5_load_10 : decode cX5_load 10 = .ok (.invokevirtual 228, 3) := by decide +kernel
theorem dX5_load_13 : decode cX5_load 13 = .ok (.iload_n 1, 1) := by decide +kernel
theorem dX5_load_14 : decode cX5_load 14 = .ok (.ifCond .eq 6, 3) := by decide +kernel
theorem dX5_load_17 : decode cX5_load 17 = .ok (.bipush (-2), 2) := by decide +kernel
theorem dX5_load_19 : decode cX5_load 19 = .ok (.ireturn, 1) := by decide +kernel
theorem dX5_load_20 : decode cX5_load 20 = .ok (.aload_n 0, 1) := by decide +kernel
theorem dX5_load_21 : decode cX5_load 21 = .ok (.invokevirtual 68, 3) := by decide +kernel
theorem dX5_load_24 : decode cX5_load 24 = .ok (.aload_n 0, 1) := by decide +kernel
theorem dX5_load_25 : decode cX5_load 25 = .ok (.invokevirtual 225, 3) := by decide +kernel
theorem dX5_load_28 : decode cX5_load 28 = .ok (.istore_n 1, 1) := by decide +kernel
theorem dX5_load_29 : decode cX5_load 29 = .ok (.iload_n 1, 1) := by decide +kernel
theorem dX5_load_30 : decode cX5_load 30 = .ok (.ifCond .ne 10, 3) := by decide +kernel
theorem dX5_load_33 : decode cX5_load 33 = .ok (.aload_n 0, 1) := by decide +kernel
theorem dX5_load_34 : decode cX5_load 34 = .ok (.getfield 215, 3) := by decide +kernel
theorem dX5_load_37 : decode cX5_load 37 = .ok (.goto 5, 3) := by decide +kernel
theorem dX5_load_40 : decode cX5_load 40 = .ok (.bipush (-2), 2) := by decide +kernel
theorem dX5_load_42 : decode cX5_load 42 = .ok (.ireturn, 1) := by decide +kernel
def t_X5_load_42 : am_T := tb_iret
def t_X5_load_40 : am_T := tb_const (-2) <|
  t_X5_load_42
def t_X5_load_20 : am_T := tb_aload 0 <|
  tb_callV 5 sp_X5_changes 1 <|
  tb_aload 0 <|
  tb_callV 5 sp_X5_doesAll 1 <|
  tb_istore 1 <|
  tb_iload 1 <|
  tb_if (fun x => x ≠ 0) (t_X5_load_40) <|
  tb_aload 0 <|
  tb_getI 5 20 <|
  t_X5_load_42
def t_X5_load_0 : am_T := tb_aload 0 <|
  tb_callV 5 sp_X5_begins 1 <|
  tb_aload 0 <|
  tb_callV 5 sp_X5_doesAll 1 <|
  tb_istore 1 <|
  tb_aload 0 <|
  tb_callV 5 sp_X5_letsBack 1 <|
  tb_iload 1 <|
  tb_if (fun x => x = 0) (t_X5_load_20) <|
  tb_const (-2) <|
  tb_iret
def h_X5_load : am_Hd := fun h => if h = 0 then t_X5_load_0 else tb_bad
theorem h_X5_load_0 : h_X5_load 0 = t_X5_load_0 := rfl
def rm_X5_load : Room := { frames := 5, cells := 0, slots := 0, locals := 113 }
def sp_X5_load : am_sp := fun as M Q => as.length ≤ 2 ∧ am_OK h_X5_load Q 0 (am_in 2 as) M
theorem s_X5_load_42 {G : am_G} {bc bs : Nat} (X : am_Cx G cX5_load RX5 "load" rm_X5_load (some .int) 2 bc bs true) : am_S G 42 (t_X5_load_42) := by
  unfold t_X5_load_42
  exact as_iret (pc := 42) X ⟨rfl, rfl⟩ rfl dX5_load_42
theorem s_X5_load_40 {G : am_G} {bc bs : Nat} (X : am_Cx G cX5_load RX5 "load" rm_X5_load (some .int) 2 bc bs true) : am_S G 40 (t_X5_load_40) := by
  unfold t_X5_load_40
  refine as_bipush (pc := 40) X dX5_load_40 (by decide) ?_
  exact s_X5_load_42 X
theorem s_X5_load_20 {G : am_G} {bc bs : Nat} (X : am_Cx G cX5_load RX5 "load" rm_X5_load (some .int) 2 bc bs true) : am_S G 20 (t_X5_load_20) := by
  unfold t_X5_load_20
  refine as_aload_n (pc := 20) X dX5_load_20 rfl ?_
  refine as_callV (ci := 5) (np := 0) (ix := 68) (pc := 21) X ct_X5_changes (Cn := (RX5, TX5, 21)) rfl ⟨rfl, rfl⟩ aw_816 aw_818 aw_26 aw_819 aw_65 (by decide +kernel) (by decide) dX5_load_21 ?_
  refine as_aload_n (pc := 24) X dX5_load_24 rfl ?_
  refine as_callV (ci := 5) (np := 0) (ix := 225) (pc := 25) X ct_X5_doesAll (Cn := (RX5, TX5, 21)) rfl ⟨rfl, rfl⟩ aw_1062 aw_1064 aw_53 aw_1065 aw_65 (by decide +kernel) (by decide) dX5_load_25 ?_
  refine as_istore_n (pc := 28) X dX5_load_28 rfl ?_ (by decide)
  refine as_iload_n (pc := 29) X dX5_load_29 rfl ?_
  refine as_if_ne (pc := 30) X 40 dX5_load_30 (by decide) (s_X5_load_40 X) ?_
  refine as_aload_n (pc := 33) X dX5_load_33 rfl ?_
  refine as_getI (ci := 5) (j := 20) (pc := 34) X (Cn := RX5) (Tf := TX5) (N := 21) rfl rfl (by decide) iw_X5 aw_758 rfl dX5_load_34 ?_
  exact as_goto (pc := 37) X 42 dX5_load_37 (by decide) (s_X5_load_42 X)
theorem s_X5_load_0 {G : am_G} {bc bs : Nat} (X : am_Cx G cX5_load RX5 "load" rm_X5_load (some .int) 2 bc bs true) : am_S G 0 (t_X5_load_0) := by
  unfold t_X5_load_0
  refine as_aload_n (pc := 0) X dX5_load_0 rfl ?_
  refine as_callV (ci := 5) (np := 0) (ix := 199) (pc := 1) X ct_X5_begins (Cn := (RX5, TX5, 21)) rfl ⟨rfl, rfl⟩ aw_1038 aw_1040 aw_52 aw_1041 aw_65 (by decide +kernel) (by decide) dX5_load_1 ?_
  refine as_aload_n (pc := 4) X dX5_load_4 rfl ?_
  refine as_callV (ci := 5) (np := 0) (ix := 225) (pc := 5) X ct_X5_doesAll (Cn := (RX5, TX5, 21)) rfl ⟨rfl, rfl⟩ aw_1062 aw_1064 aw_53 aw_1065 aw_65 (by decide +kernel) (by decide) dX5_load_5 ?_
  refine as_istore_n (pc := 8) X dX5_load_8 rfl ?_ (by decide)
  refine as_aload_n (pc := 9) X dX5_load_9 rfl ?_
  refine as_callV (ci := 5) (np := 0) (ix := 228) (pc := 10) X ct_X5_letsBack (Cn := (RX5, TX5, 21)) rfl ⟨rfl, rfl⟩ aw_1078 aw_1080 aw_57 aw_1081 aw_65 (by decide +kernel) (by decide) dX5_load_10 ?_
  refine as_iload_n (pc := 13) X dX5_load_13 rfl ?_
  refine as_if_eq (pc := 14) X 20 dX5_load_14 (by decide) (s_X5_load_20 X) ?_
  refine as_bipush (pc := 17) X dX5_load_17 (by decide) ?_
  exact as_iret (pc := 19) X ⟨rfl, rfl⟩ rfl dX5_load_19
theorem s_X5_load {G : am_G} {bc bs : Nat} (X : am_Cx G cX5_load RX5 "load" rm_X5_load (some .int) 2 bc bs true) (h : Nat) : am_S G h (h_X5_load h) := by
  unfold h_X5_load
  split
  · next e => rw [e]; exact s_X5_load_0 X
  exact as_bad
theorem ct_X5_load : am_Ct yX5_load cX5_load 2 (some .int) rm_X5_load sp_X5_load := am_met (own := RX5) (nm := "load") (by decide) rfl rfl (Or.inr (Or.inl rfl)) (fun _ _ => h_X5_load) (fun _ _ _ X => s_X5_load X) (fun _ _ _ _ h => h)
