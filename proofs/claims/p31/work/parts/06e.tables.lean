-- L_law
theorem dL_law_0 : decode cL_law 0 = .ok (.new 57, 3) := by decide +kernel
theorem dL_law_3 : decode cL_law 3 = .ok (.dup, 1) := by decide +kernel
theorem dL_law_4 : decode cL_law 4 = .ok (.invokespecial 114, 3) := by decide +kernel
theorem dL_law_7 : decode cL_law 7 = .ok (.astore_n 1, 1) := by decide +kernel
theorem dL_law_8 : decode cL_law 8 = .ok (.bipush 11, 2) := by decide +kernel
theorem dL_law_10 : decode cL_law 10 = .ok (.newarray .int, 2) := by decide +kernel
theorem dL_law_12 : decode cL_law 12 = .ok (.astore_n 2, 1) := by decide +kernel
theorem dL_law_13 : decode cL_law 13 = .ok (.bipush 24, 2) := by decide +kernel
theorem dL_law_15 : decode cL_law 15 = .ok (.newarray .int, 2) := by decide +kernel
theorem dL_law_17 : decode cL_law 17 = .ok (.astore_n 3, 1) := by decide +kernel
theorem dL_law_18 : decode cL_law 18 = .ok (.bipush 48, 2) := by decide +kernel
theorem dL_law_20 : decode cL_law 20 = .ok (.newarray .int, 2) := by decide +kernel
theorem dL_law_22 : decode cL_law 22 = .ok (.astore 4, 2) := by decide +kernel
theorem dL_law_24 : decode cL_law 24 = .ok (.bipush 18, 2) := by decide +kernel
theorem dL_law_26 : decode cL_law 26 = .ok (.newarray .int, 2) := by decide +kernel
theorem dL_law_28 : decode cL_law 28 = .ok (.astore 5, 2) := by decide +kernel
theorem dL_law_30 : decode cL_law 30 = .ok (.aload_n 2, 1) := by decide +kernel
theorem dL_law_31 : decode cL_law 31 = .ok (.iconst 0, 1) := by decide +kernel
theorem dL_law_32 : decode cL_law 32 = .ok (.sipush 600, 3) := by decide +kernel
theorem dL_law_35 : decode cL_law 35 = .ok (.iastore, 1) := by decide +kernel
theorem dL_law_36 : decode cL_law 36 = .ok (.aload_n 2, 1) := by decide +kernel
theorem dL_law_37 : decode cL_law 37 = .ok (.iconst 1, 1) := by decide +kernel
theorem dL_law_38 : decode cL_law 38 = .ok (.bipush 20, 2) := by decide +kernel
theorem dL_law_40 : decode cL_law 40 = .ok (.iastore, 1) := by decide +kernel
theorem dL_law_41 : decode cL_law 41 = .ok (.aload_n 2, 1) := by decide +kernel
theorem dL_law_42 : decode cL_law 42 = .ok (.iconst 2, 1) := by decide +kernel
theorem dL_law_43 : decode cL_law 43 = .ok (.bipush 40, 2) := by decide +kernel
theorem dL_law_45 : decode cL_law 45 = .ok (.iastore, 1) := by decide +kernel
theorem dL_law_46 : decode cL_law 46 = .ok (.aload_n 2, 1) := by decide +kernel
theorem dL_law_47 : decode cL_law 47 = .ok (.iconst 3, 1) := by decide +kernel
theorem dL_law_48 : decode cL_law 48 = .ok (.bipush 25, 2) := by decide +kernel
theorem dL_law_50 : decode cL_law 50 = .ok (.iastore, 1) := by decide +kernel
theorem dL_law_51 : decode cL_law 51 = .ok (.aload_n 2, 1) := by decide +kernel
theorem dL_law_52 : decode cL_law 52 = .ok (.iconst 4, 1) := by decide +kernel
theorem dL_law_53 : decode cL_law 53 = .ok (.bipush 10, 2) := by decide +kernel
theorem dL_law_55 : decode cL_law 55 = .ok (.iastore, 1) := by decide +kernel
theorem dL_law_56 : decode cL_law 56 = .ok (.aload_n 2, 1) := by decide +kernel
theorem dL_law_57 : decode cL_law 57 = .ok (.iconst 5, 1) := by decide +kernel
theorem dL_law_58 : decode cL_law 58 = .ok (.bipush 15, 2) := by decide +kernel
theorem dL_law_60 : decode cL_law 60 = .ok (.iastore, 1) := by decide +kernel
theorem dL_law_61 : decode cL_law 61 = .ok (.aload_n 2, 1) := by decide +kernel
theorem dL_law_62 : decode cL_law 62 = .ok (.bipush 6, 2) := by decide +kernel
theorem dL_law_64 : decode cL_law 64 = .ok (.bipush 30, 2) := by decide +kernel
theorem dL_law_66 : decode cL_law 66 = .ok (.iastore, 1) := by decide +kernel
theorem dL_law_67 : decode cL_law 67 = .ok (.aload_n 2, 1) := by decide +kernel
theorem dL_law_68 : decode cL_law 68 = .ok (.bipush 7, 2) := by decide +kernel
theorem dL_law_70 : decode cL_law 70 = .ok (.iconst 5, 1) := by decide +kernel
theorem dL_law_71 : decode cL_law 71 = .ok (.iastore, 1) := by decide +kernel
theorem dL_law_72 : decode cL_law 72 = .ok (.aload_n 1, 1) := by decide +kernel
theorem dL_law_73 : decode cL_law 73 = .ok (.aload_n 2, 1) := by decide +kernel
theorem dL_law_74 : decode cL_law 74 = .ok (.aload_n 3, 1) := by decide +kernel
theorem dL_law_75 : decode cL_law 75 = .ok (.aload 4, 2) := by decide +kernel
theorem dL_law_77 : decode cL_law 77 = .ok (.aload 5, 2) := by decide +kernel
theorem dL_law_79 : decode cL_law 79 = .ok (.invokestatic 115, 3) := by decide +kernel
theorem dL_law_82 : decode cL_law 82 = .ok (.istore 6, 2) := by decide +kernel
theorem dL_law_84 : decode cL_law 84 = .ok (.iconst 0, 1) := by decide +kernel
theorem dL_law_85 : decode cL_law 85 = .ok (.istore 7, 2) := by decide +kernel
theorem dL_law_87 : decode cL_law 87 = .ok (.iload 7, 2) := by decide +kernel
theorem dL_law_89 : decode cL_law 89 = .ok (.bipush 11, 2) := by decide +kernel
theorem dL_law_91 : decode cL_law 91 = .ok (.if_icmp .ge 57, 3) := by decide +kernel
theorem dL_law_94 : decode cL_law 94 = .ok (.iload 6, 2) := by decide +kernel
theorem dL_law_96 : decode cL_law 96 = .ok (.ifCond .eq 52, 3) := by decide +kernel
theorem dL_law_99 : decode cL_law 99 = .ok (.aload_n 1, 1) := by decide +kernel
theorem dL_law_100 : decode cL_law 100 = .ok (.aload_n 2, 1) := by decide +kernel
theorem dL_law_101 : decode cL_law 101 = .ok (.aload_n 3, 1) := by decide +kernel
theorem dL_law_102 : decode cL_law 102 = .ok (.aload 4, 2) := by decide +kernel
theorem dL_law_104 : decode cL_law 104 = .ok (.aload 5, 2) := by decide +kernel
theorem dL_law_106 : decode cL_law 106 = .ok (.aload_n 0, 1) := by decide +kernel
theorem dL_law_107 : decode cL_law 107 = .ok (.iconst 1, 1) := by decide +kernel
theorem dL_law_108 : decode cL_law 108 = .ok (.iload 7, 2) := by decide +kernel
theorem dL_law_110 : decode cL_law 110 = .ok (.iadd, 1) := by decide +kernel
theorem dL_law_111 : decode cL_law 111 = .ok (.invokestatic 119, 3) := by decide +kernel
theorem dL_law_114 : decode cL_law 114 = .ok (.ldc 8, 2) := by decide +kernel
theorem dL_law_116 : decode cL_law 116 = .ok (.iand, 1) := by decide +kernel
theorem dL_law_117 : decode cL_law 117 = .ok (.sipush 832, 3) := by decide +kernel
theorem dL_law_120 : decode cL_law 120 = .ok (.idiv, 1) := by decide +kernel
theorem dL_law_121 : decode cL_law 121 = .ok (.sipush 832, 3) := by decide +kernel
theorem dL_law_124 : decode cL_law 124 = .ok (.imul, 1) := by decide +kernel
theorem dL_law_125 : decode cL_law 125 = .ok (.iload 7, 2) := by decide +kernel
theorem dL_law_127 : decode cL_law 127 = .ok (.iconst 4, 1) := by decide +kernel
theorem dL_law_128 : decode cL_law 128 = .ok (.if_icmp .ge 7, 3) := by decide +kernel
theorem dL_law_131 : decode cL_law 131 = .ok (.iconst 0, 1) := by decide +kernel
theorem dL_law_132 : decode cL_law 132 = .ok (.goto 4, 3) := by decide +kernel
theorem dL_law_135 : decode cL_law 135 = .ok (.iconst 5, 1) := by decide +kernel
theorem dL_law_136 : decode cL_law 136 = .ok (.iadd, 1) := by decide +kernel
theorem dL_law_137 : decode cL_law 137 = .ok (.invokestatic 123, 3) := by decide +kernel
theorem dL_law_140 : decode cL_law 140 = .ok (.istore 6, 2) := by decide +kernel
theorem dL_law_142 : decode cL_law 142 = .ok (.iinc 7 1, 3) := by decide +kernel
theorem dL_law_145 : decode cL_law 145 = .ok (.goto (-58), 3) := by decide +kernel
theorem dL_law_148 : decode cL_law 148 = .ok (.bipush 8, 2) := by decide +kernel
theorem dL_law_150 : decode cL_law 150 = .ok (.aload_n 0, 1) := by decide +kernel
theorem dL_law_151 : decode cL_law 151 = .ok (.iconst 0, 1) := by decide +kernel
theorem dL_law_152 : decode cL_law 152 = .ok (.invokestatic 119, 3) := by decide +kernel
theorem dL_law_155 : decode cL_law 155 = .ok (.bipush 45, 2) := by decide +kernel
theorem dL_law_157 : decode cL_law 157 = .ok (.invokestatic 49, 3) := by decide +kernel
theorem dL_law_160 : decode cL_law 160 = .ok (.iadd, 1) := by decide +kernel
theorem dL_law_161 : decode cL_law 161 = .ok (.istore 7, 2) := by decide +kernel
theorem dL_law_163 : decode cL_law 163 = .ok (.iconst 0, 1) := by decide +kernel
theorem dL_law_164 : decode cL_law 164 = .ok (.istore 8, 2) := by decide +kernel
theorem dL_law_166 : decode cL_law 166 = .ok (.iload 8, 2) := by decide +kernel
theorem dL_law_168 : decode cL_law 168 = .ok (.iload 7, 2) := by decide +kernel
theorem dL_law_170 : decode cL_law 170 = .ok (.if_icmp .ge 85, 3) := by decide +kernel
theorem dL_law_173 : decode cL_law 173 = .ok (.iload 6, 2) := by decide +kernel
theorem dL_law_175 : decode cL_law 175 = .ok (.ifCond .eq 80, 3) := by decide +kernel
theorem dL_law_178 : decode cL_law 178 = .ok (.aload_n 0, 1) := by decide +kernel
theorem dL_law_179 : decode cL_law 179 = .ok (.bipush 12, 2) := by decide +kernel
theorem dL_law_181 : decode cL_law 181 = .ok (.iload 8, 2) := by decide +kernel
theorem dL_law_183 : decode cL_law 183 = .ok (.iadd, 1) := by decide +kernel
theorem dL_law_184 : decode cL_law 184 = .ok (.invokestatic 119, 3) := by decide +kernel
theorem dL_law_187 : decode cL_law 187 = .ok (.sipush 7919, 3) := by decide +kernel
theorem dL_law_190 : decode cL_law 190 = .ok (.iload 8, 2) := by decide +kernel
theorem dL_law_192 : decode cL_law 192 = .ok (.imul, 1) := by decide +kernel
theorem dL_law_193 : decode cL_law 193 = .ok (.ixor, 1) := by decide +kernel
theorem dL_law_194 : decode cL_law 194 = .ok (.istore 9, 2) := by decide +kernel
theorem dL_law_196 : decode cL_law 196 = .ok (.aload_n 1, 1) := by decide +kernel
theorem dL_law_197 : decode cL_law 197 = .ok (.aload_n 2, 1) := by decide +kernel
theorem dL_law_198 : decode cL_law 198 = .ok (.aload_n 3, 1) := by decide +kernel
theorem dL_law_199 : decode cL_law 199 = .ok (.aload 4, 2) := by decide +kernel
theorem dL_law_201 : decode cL_law 201 = .ok (.aload 5, 2) := by decide +kernel
theorem dL_law_203 : decode cL_law 203 = .ok (.iload 9, 2) := by decide +kernel
theorem dL_law_205 : decode cL_law 205 = .ok (.invokestatic 123, 3) := by decide +kernel
theorem dL_law_208 : decode cL_law 208 = .ok (.ifCond .eq 38, 3) := by decide +kernel
theorem dL_law_211 : decode cL_law 211 = .ok (.aload_n 1, 1) := by decide +kernel
theorem dL_law_212 : decode cL_law 212 = .ok (.aload_n 2, 1) := by decide +kernel
theorem dL_law_213 : decode cL_law 213 = .ok (.aload_n 3, 1) := by decide +kernel
theorem dL_law_214 : decode cL_law 214 = .ok (.aload 4, 2) := by decide +kernel
theorem dL_law_216 : decode cL_law 216 = .ok (.aload 5, 2) := by decide +kernel
theorem dL_law_218 : decode cL_law 218 = .ok (.invokestatic 115, 3) := by decide +kernel
theorem dL_law_221 : decode cL_law 221 = .ok (.ifCond .eq 25, 3) := by decide +kernel
theorem dL_law_224 : decode cL_law 224 = .ok (.aload_n 1, 1) := by decide +kernel
theorem dL_law_225 : decode cL_law 225 = .ok (.aload_n 2, 1) := by decide +kernel
theorem dL_law_226 : decode cL_law 226 = .ok (.aload_n 3, 1) := by decide +kernel
theorem dL_law_227 : decode cL_law 227 = .ok (.iload 9, 2) := by decide +kernel
theorem dL_law_229 : decode cL_law 229 = .ok (.iconst 2, 1) := by decide +kernel
theorem dL_law_230 : decode cL_law 230 = .ok (.ishr, 1) := by decide +kernel
theorem dL_law_231 : decode cL_law 231 = .ok (.ldc 127, 2) := by decide +kernel
theorem dL_law_233 : decode cL_law 233 = .ok (.invokestatic 49, 3) := by decide +kernel
theorem dL_law_236 : decode cL_law 236 = .ok (.invokestatic 128, 3) := by decide +kernel
theorem dL_law_239 : decode cL_law 239 = .ok (.ifCond .eq 7, 3) := by decide +kernel
theorem dL_law_242 : decode cL_law 242 = .ok (.iconst 1, 1) := by decide +kernel
theorem dL_law_243 : decode cL_law 243 = .ok (.goto 4, 3) := by decide +kernel
theorem dL_law_246 : decode cL_law 246 = .ok (.iconst 0, 1) := by decide +kernel
theorem dL_law_247 : decode cL_law 247 = .ok (.istore 6, 2) := by decide +kernel
theorem dL_law_249 : decode cL_law 249 = .ok (.iinc 8 1, 3) := by decide +kernel
theorem dL_law_252 : decode cL_law 252 = .ok (.goto (-86), 3) := by decide +kernel
theorem dL_law_255 : decode cL_law 255 = .ok (.iload 6, 2) := by decide +kernel
theorem dL_law_257 : decode cL_law 257 = .ok (.ifCond .eq 58, 3) := by decide +kernel
theorem dL_law_260 : decode cL_law 260 = .ok (.aload_n 1, 1) := by decide +kernel
theorem dL_law_261 : decode cL_law 261 = .ok (.bipush 9, 2) := by decide +kernel
theorem dL_law_263 : decode cL_law 263 = .ok (.invokevirtual 105, 3) := by decide +kernel
theorem dL_law_266 : decode cL_law 266 = .ok (.iconst (-1), 1) := by decide +kernel
theorem dL_law_267 : decode cL_law 267 = .ok (.if_icmp .ne 48, 3) := by decide +kernel
theorem dL_law_270 : decode cL_law 270 = .ok (.aload_n 1, 1) := by decide +kernel
theorem dL_law_271 : decode cL_law 271 = .ok (.bipush 18, 2) := by decide +kernel
theorem dL_law_273 : decode cL_law 273 = .ok (.invokevirtual 105, 3) := by decide +kernel
theorem dL_law_276 : decode cL_law 276 = .ok (.iconst (-1), 1) := by decide +kernel
theorem dL_law_277 : decode cL_law 277 = .ok (.if_icmp .ne 38, 3) := by decide +kernel
theorem dL_law_280 : decode cL_law 280 = .ok (.aload_n 1, 1) := by decide +kernel
theorem dL_law_281 : decode cL_law 281 = .ok (.iconst (-1), 1) := by decide +kernel
theorem dL_law_282 : decode cL_law 282 = .ok (.invokevirtual 96, 3) := by decide +kernel
theorem dL_law_285 : decode cL_law 285 = .ok (.iconst (-1), 1) := by decide +kernel
theorem dL_law_286 : decode cL_law 286 = .ok (.if_icmp .ne 29, 3) := by decide +kernel
theorem dL_law_289 : decode cL_law 289 = .ok (.aload_n 1, 1) := by decide +kernel
theorem dL_law_290 : decode cL_law 290 = .ok (.bipush 12, 2) := by decide +kernel
theorem dL_law_292 : decode cL_law 292 = .ok (.iconst 0, 1) := by decide +kernel
theorem dL_law_293 : decode cL_law 293 = .ok (.invokevirtual 111, 3) := by decide +kernel
theorem dL_law_296 : decode cL_law 296 = .ok (.iconst (-1), 1) := by decide +kernel
theorem dL_law_297 : decode cL_law 297 = .ok (.if_icmp .ne 18, 3) := by decide +kernel
theorem dL_law_300 : decode cL_law 300 = .ok (.aload_n 1, 1) := by decide +kernel
theorem dL_law_301 : decode cL_law 301 = .ok (.iconst 0, 1) := by decide +kernel
theorem dL_law_302 : decode cL_law 302 = .ok (.ldc 67, 2) := by decide +kernel
theorem dL_law_304 : decode cL_law 304 = .ok (.invokevirtual 108, 3) := by decide +kernel
theorem dL_law_307 : decode cL_law 307 = .ok (.iconst (-1), 1) := by decide +kernel
theorem dL_law_308 : decode cL_law 308 = .ok (.if_icmp .ne 7, 3) := by decide +kernel
theorem dL_law_311 : decode cL_law 311 = .ok (.iconst 1, 1) := by decide +kernel
theorem dL_law_312 : decode cL_law 312 = .ok (.goto 4, 3) := by decide +kernel
theorem dL_law_315 : decode cL_law 315 = .ok (.iconst 0, 1) := by decide +kernel
theorem dL_law_316 : decode cL_law 316 = .ok (.ireturn, 1) := by decide +kernel
def t_L_law_316 (bc bs : Nat) : am_T := tb_zret
def t_L_law_315 (bc bs : Nat) : am_T := tb_const 0 <|
  t_L_law_316 bc bs
def t_L_law_255 (bc bs : Nat) : am_T := tb_iload 6 <|
  tb_if (fun x => x = 0) (t_L_law_315 bc bs) <|
  tb_aload 1 <|
  tb_const 9 <|
  tb_callV 4 sp_X4_count 2 <|
  tb_const (-1) <|
  tb_ic (fun x y => x ≠ y) (t_L_law_315 bc bs) <|
  tb_aload 1 <|
  tb_const 18 <|
  tb_callV 4 sp_X4_count 2 <|
  tb_const (-1) <|
  tb_ic (fun x y => x ≠ y) (t_L_law_315 bc bs) <|
  tb_aload 1 <|
  tb_const (-1) <|
  tb_callV 4 sp_X4_inOrder 2 <|
  tb_const (-1) <|
  tb_ic (fun x y => x ≠ y) (t_L_law_315 bc bs) <|
  tb_aload 1 <|
  tb_const 12 <|
  tb_const 0 <|
  tb_callV 4 sp_X4_nameOf 3 <|
  tb_const (-1) <|
  tb_ic (fun x y => x ≠ y) (t_L_law_315 bc bs) <|
  tb_aload 1 <|
  tb_const 0 <|
  tb_const (100001) <|
  tb_callV 4 sp_X4_whoHas 3 <|
  tb_const (-1) <|
  tb_ic (fun x y => x ≠ y) (t_L_law_315 bc bs) <|
  tb_const 1 <|
  t_L_law_316 bc bs
def t_L_law_247 (bc bs : Nat) : am_T := tb_istore 6 <|
  tb_iinc 8 1 <|
  tb_head 166
def t_L_law_246 (bc bs : Nat) : am_T := tb_const 0 <|
  t_L_law_247 bc bs
def t_L_law_166 (bc bs : Nat) : am_T := tb_iload 8 <|
  tb_iload 7 <|
  tb_ic (fun x y => y ≤ x) (t_L_law_255 bc bs) <|
  tb_iload 6 <|
  tb_if (fun x => x = 0) (t_L_law_255 bc bs) <|
  tb_aload 0 <|
  tb_const 12 <|
  tb_iload 8 <|
  tb_bin (fun x y => x + y) <|
  tb_callS sp_L_cell 2 <|
  tb_const 7919 <|
  tb_iload 8 <|
  tb_bin (fun x y => x * y) <|
  tb_bin (fun x y => x ^^^ y) <|
  tb_istore 9 <|
  tb_aload 1 <|
  tb_aload 2 <|
  tb_aload 3 <|
  tb_aload 4 <|
  tb_aload 5 <|
  tb_iload 9 <|
  tb_callS sp_L_acts 6 <|
  tb_if (fun x => x = 0) (t_L_law_246 bc bs) <|
  tb_aload 1 <|
  tb_aload 2 <|
  tb_aload 3 <|
  tb_aload 4 <|
  tb_aload 5 <|
  tb_callSA bc bs 6 72 sp_L_isSo 5 <|
  tb_if (fun x => x = 0) (t_L_law_246 bc bs) <|
  tb_aload 1 <|
  tb_aload 2 <|
  tb_aload 3 <|
  tb_iload 9 <|
  tb_const 2 <|
  tb_bin (fun x y => x >>> (y &&& 31)) <|
  tb_const (1000000) <|
  tb_callS sp_L_low 2 <|
  tb_callS sp_L_areNamed 4 <|
  tb_if (fun x => x = 0) (t_L_law_246 bc bs) <|
  tb_const 1 <|
  t_L_law_247 bc bs
def t_L_law_148 (bc bs : Nat) : am_T := tb_const 8 <|
  tb_aload 0 <|
  tb_const 0 <|
  tb_callS sp_L_cell 2 <|
  tb_const 45 <|
  tb_callS sp_L_low 2 <|
  tb_bin (fun x y => x + y) <|
  tb_istore 7 <|
  tb_const 0 <|
  tb_istore 8 <|
  tb_head 166
def t_L_law_136 (bc bs : Nat) : am_T := tb_bin (fun x y => x + y) <|
  tb_callS sp_L_acts 6 <|
  tb_istore 6 <|
  tb_iinc 7 1 <|
  tb_head 87
def t_L_law_135 (bc bs : Nat) : am_T := tb_const 5 <|
  t_L_law_136 bc bs
def t_L_law_87 (bc bs : Nat) : am_T := tb_iload 7 <|
  tb_const 11 <|
  tb_ic (fun x y => y ≤ x) (t_L_law_148 bc bs) <|
  tb_iload 6 <|
  tb_if (fun x => x = 0) (t_L_law_148 bc bs) <|
  tb_aload 1 <|
  tb_aload 2 <|
  tb_aload 3 <|
  tb_aload 4 <|
  tb_aload 5 <|
  tb_aload 0 <|
  tb_const 1 <|
  tb_iload 7 <|
  tb_bin (fun x y => x + y) <|
  tb_callS sp_L_cell 2 <|
  tb_const (2147483647) <|
  tb_bin (fun x y => x &&& y) <|
  tb_const 832 <|
  tb_idiv <|
  tb_const 832 <|
  tb_bin (fun x y => x * y) <|
  tb_iload 7 <|
  tb_const 4 <|
  tb_ic (fun x y => y ≤ x) (t_L_law_135 bc bs) <|
  tb_const 0 <|
  t_L_law_136 bc bs
def t_L_law_0 (bc bs : Nat) : am_T := tb_new bc bs 4 <|
  tb_dup <|
  tb_callI bc bs 109 4200 sp_X4_init 1 <|
  tb_astore 1 <|
  tb_const 11 <|
  tb_newa bc bs 1 <|
  tb_astore 2 <|
  tb_const 24 <|
  tb_newa bc bs 1 <|
  tb_astore 3 <|
  tb_const 48 <|
  tb_newa bc bs 1 <|
  tb_astore 4 <|
  tb_const 18 <|
  tb_newa bc bs 1 <|
  tb_astore 5 <|
  tb_aload 2 <|
  tb_const 0 <|
  tb_const 600 <|
  tb_iast <|
  tb_aload 2 <|
  tb_const 1 <|
  tb_const 20 <|
  tb_iast <|
  tb_aload 2 <|
  tb_const 2 <|
  tb_const 40 <|
  tb_iast <|
  tb_aload 2 <|
  tb_const 3 <|
  tb_const 25 <|
  tb_iast <|
  tb_aload 2 <|
  tb_const 4 <|
  tb_const 10 <|
  tb_iast <|
  tb_aload 2 <|
  tb_const 5 <|
  tb_const 15 <|
  tb_iast <|
  tb_aload 2 <|
  tb_const 6 <|
  tb_const 30 <|
  tb_iast <|
  tb_aload 2 <|
  tb_const 7 <|
  tb_const 5 <|
  tb_iast <|
  tb_aload 1 <|
  tb_aload 2 <|
  tb_aload 3 <|
  tb_aload 4 <|
  tb_aload 5 <|
  tb_callSA bc bs 6 72 sp_L_isSo 5 <|
  tb_istore 6 <|
  tb_const 0 <|
  tb_istore 7 <|
  tb_head 87
def h_L_law (bc bs : Nat) : am_Hd := fun h => if h = 0 then t_L_law_0 bc bs else if h = 87 then t_L_law_87 bc bs else if h = 166 then t_L_law_166 bc bs else tb_bad
theorem h_L_law_0 {bc bs : Nat} : h_L_law bc bs 0 = t_L_law_0 bc bs := rfl
theorem h_L_law_87 {bc bs : Nat} : h_L_law bc bs 87 = t_L_law_87 bc bs := rfl
theorem h_L_law_166 {bc bs : Nat} : h_L_law bc bs 166 = t_L_law_166 bc bs := rfl
theorem s_L_law_316 {G : am_G} {bc bs : Nat} {nm : String} (X : am_Cx G cL_law RL nm room_1 (some .boolean) 10 bc bs false) : am_S G 316 (t_L_law_316 bc bs) := by
  unfold t_L_law_316
  exact as_zretL (pc := 316) X rfl rfl dL_law_316
theorem s_L_law_315 {G : am_G} {bc bs : Nat} {nm : String} (X : am_Cx G cL_law RL nm room_1 (some .boolean) 10 bc bs false) : am_S G 315 (t_L_law_315 bc bs) := by
  unfold t_L_law_315
  refine as_iconst (pc := 315) X dL_law_315 (by decide) ?_
  exact s_L_law_316 X
theorem s_L_law_255 {G : am_G} {bc bs : Nat} {nm : String} (X : am_Cx G cL_law RL nm room_1 (some .boolean) 10 bc bs false) : am_S G 255 (t_L_law_255 bc bs) := by
  unfold t_L_law_255
  refine as_iload (pc := 255) X dL_law_255 ?_
  refine as_if_eq (pc := 257) X 315 dL_law_257 (by decide) (s_L_law_315 X) ?_
  refine as_aload_n (pc := 260) X dL_law_260 rfl ?_
  refine as_bipush (pc := 261) X dL_law_261 (by decide) ?_
  refine as_callV (ci := 4) (np := 1) (ix := 105) (pc := 263) X ct_X4_count (Cn := (RX4, TX4, 7)) rfl ⟨rfl, rfl⟩ aw_376 aw_377 aw_378 aw_379 aw_17 (by decide +kernel) (by decide) dL_law_263 ?_
  refine as_iconst (pc := 266) X dL_law_266 (by decide) ?_
  refine as_ic_ne (pc := 267) X 315 dL_law_267 (by decide) (s_L_law_315 X) ?_
  refine as_aload_n (pc := 270) X dL_law_270 rfl ?_
  refine as_bipush (pc := 271) X dL_law_271 (by decide) ?_
  refine as_callV (ci := 4) (np := 1) (ix := 105) (pc := 273) X ct_X4_count (Cn := (RX4, TX4, 7)) rfl ⟨rfl, rfl⟩ aw_376 aw_377 aw_378 aw_379 aw_17 (by decide +kernel) (by decide) dL_law_273 ?_
  refine as_iconst (pc := 276) X dL_law_276 (by decide) ?_
  refine as_ic_ne (pc := 277) X 315 dL_law_277 (by decide) (s_L_law_315 X) ?_
  refine as_aload_n (pc := 280) X dL_law_280 rfl ?_
  refine as_iconst (pc := 281) X dL_law_281 (by decide) ?_
  refine as_callV (ci := 4) (np := 1) (ix := 96) (pc := 282) X ct_X4_inOrder (Cn := (RX4, TX4, 7)) rfl ⟨rfl, rfl⟩ aw_276 aw_277 aw_278 aw_279 aw_17 (by decide +kernel) (by decide) dL_law_282 ?_
  refine as_iconst (pc := 285) X dL_law_285 (by decide) ?_
  refine as_ic_ne (pc := 286) X 315 dL_law_286 (by decide) (s_L_law_315 X) ?_
  refine as_aload_n (pc := 289) X dL_law_289 rfl ?_
  refine as_bipush (pc := 290) X dL_law_290 (by decide) ?_
  refine as_iconst (pc := 292) X dL_law_292 (by decide) ?_
  refine as_callV (ci := 4) (np := 2) (ix := 111) (pc := 293) X ct_X4_nameOf (Cn := (RX4, TX4, 7)) rfl ⟨rfl, rfl⟩ aw_246 aw_247 aw_248 aw_249 aw_17 (by decide +kernel) (by decide) dL_law_293 ?_
  refine as_iconst (pc := 296) X dL_law_296 (by decide) ?_
  refine as_ic_ne (pc := 297) X 315 dL_law_297 (by decide) (s_L_law_315 X) ?_
  refine as_aload_n (pc := 300) X dL_law_300 rfl ?_
  refine as_iconst (pc := 301) X dL_law_301 (by decide) ?_
  refine as_ldc (pc := 302) X dL_law_302 aw_457 ?_
  refine as_callV (ci := 4) (np := 2) (ix := 108) (pc := 304) X ct_X4_whoHas (Cn := (RX4, TX4, 7)) rfl ⟨rfl, rfl⟩ aw_264 aw_265 aw_266 aw_267 aw_17 (by decide +kernel) (by decide) dL_law_304 ?_
  refine as_iconst (pc := 307) X dL_law_307 (by decide) ?_
  refine as_ic_ne (pc := 308) X 315 dL_law_308 (by decide) (s_L_law_315 X) ?_
  refine as_iconst (pc := 311) X dL_law_311 (by decide) ?_
  exact as_goto (pc := 312) X 316 dL_law_312 (by decide) (s_L_law_316 X)
theorem s_L_law_247 {G : am_G} {bc bs : Nat} {nm : String} (X : am_Cx G cL_law RL nm room_1 (some .boolean) 10 bc bs false) : am_S G 247 (t_L_law_247 bc bs) := by
  unfold t_L_law_247
  refine as_istore (pc := 247) X dL_law_247 ?_ (by decide)
  refine as_iinc (pc := 249) X dL_law_249 (by decide) (by decide) ?_
  exact as_goto (pc := 252) X 166 dL_law_252 (by decide) (as_head)
theorem s_L_law_246 {G : am_G} {bc bs : Nat} {nm : String} (X : am_Cx G cL_law RL nm room_1 (some .boolean) 10 bc bs false) : am_S G 246 (t_L_law_246 bc bs) := by
  unfold t_L_law_246
  refine as_iconst (pc := 246) X dL_law_246 (by decide) ?_
  exact s_L_law_247 X
theorem s_L_law_166 {G : am_G} {bc bs : Nat} {nm : String} (X : am_Cx G cL_law RL nm room_1 (some .boolean) 10 bc bs false) : am_S G 166 (t_L_law_166 bc bs) := by
  unfold t_L_law_166
  refine as_iload (pc := 166) X dL_law_166 ?_
  refine as_iload (pc := 168) X dL_law_168 ?_
  refine as_ic_ge (pc := 170) X 255 dL_law_170 (by decide) (s_L_law_255 X) ?_
  refine as_iload (pc := 173) X dL_law_173 ?_
  refine as_if_eq (pc := 175) X 255 dL_law_175 (by decide) (s_L_law_255 X) ?_
  refine as_aload_n (pc := 178) X dL_law_178 rfl ?_
  refine as_bipush (pc := 179) X dL_law_179 (by decide) ?_
  refine as_iload (pc := 181) X dL_law_181 ?_
  refine as_iadd (pc := 183) X dL_law_183 ?_
  refine as_callS (np := 2) (ix := 119) (pc := 184) X ct_L_cell ⟨rfl, rfl⟩ aw_397 aw_398 aw_399 aw_16 (by decide +kernel) (by decide) dL_law_184 ?_
  refine as_sipush (pc := 187) X dL_law_187 (by decide) ?_
  refine as_iload (pc := 190) X dL_law_190 ?_
  refine as_imul (pc := 192) X dL_law_192 ?_
  refine as_ixor (pc := 193) X dL_law_193 ?_
  refine as_istore (pc := 194) X dL_law_194 ?_ (by decide)
  refine as_aload_n (pc := 196) X dL_law_196 rfl ?_
  refine as_aload_n (pc := 197) X dL_law_197 rfl ?_
  refine as_aload_n (pc := 198) X dL_law_198 rfl ?_
  refine as_aload (pc := 199) X dL_law_199 ?_
  refine as_aload (pc := 201) X dL_law_201 ?_
  refine as_iload (pc := 203) X dL_law_203 ?_
  refine as_callS (np := 6) (ix := 123) (pc := 205) X ct_L_acts ⟨rfl, rfl⟩ aw_405 aw_406 aw_407 aw_16 (by decide +kernel) (by decide) dL_law_205 ?_
  refine as_if_eq (pc := 208) X 246 dL_law_208 (by decide) (s_L_law_246 X) ?_
  refine as_aload_n (pc := 211) X dL_law_211 rfl ?_
  refine as_aload_n (pc := 212) X dL_law_212 rfl ?_
  refine as_aload_n (pc := 213) X dL_law_213 rfl ?_
  refine as_aload (pc := 214) X dL_law_214 ?_
  refine as_aload (pc := 216) X dL_law_216 ?_
  refine as_callSA (np := 5) (ix := 115) (pc := 218) X ct_L_isSo aw_532 aw_533 aw_534 aw_16 (by decide +kernel) (by decide) dL_law_218 ?_
  refine as_if_eq (pc := 221) X 246 dL_law_221 (by decide) (s_L_law_246 X) ?_
  refine as_aload_n (pc := 224) X dL_law_224 rfl ?_
  refine as_aload_n (pc := 225) X dL_law_225 rfl ?_
  refine as_aload_n (pc := 226) X dL_law_226 rfl ?_
  refine as_iload (pc := 227) X dL_law_227 ?_
  refine as_iconst (pc := 229) X dL_law_229 (by decide) ?_
  refine as_ishr (pc := 230) X dL_law_230 ?_
  refine as_ldc (pc := 231) X dL_law_231 aw_572 ?_
  refine as_callS (np := 2) (ix := 49) (pc := 233) X ct_L_low ⟨rfl, rfl⟩ aw_401 aw_402 aw_403 aw_16 (by decide +kernel) (by decide) dL_law_233 ?_
  refine as_callS (np := 4) (ix := 128) (pc := 236) X ct_L_areNamed ⟨rfl, rfl⟩ aw_569 aw_570 aw_571 aw_16 (by decide +kernel) (by decide) dL_law_236 ?_
  refine as_if_eq (pc := 239) X 246 dL_law_239 (by decide) (s_L_law_246 X) ?_
  refine as_iconst (pc := 242) X dL_law_242 (by decide) ?_
  exact as_goto (pc := 243) X 247 dL_law_243 (by decide) (s_L_law_247 X)
theorem s_L_law_148 {G : am_G} {bc bs : Nat} {nm : String} (X : am_Cx G cL_law RL nm room_1 (some .boolean) 10 bc bs false) : am_S G 148 (t_L_law_148 bc bs) := by
  unfold t_L_law_148
  refine as_bipush (pc := 148) X dL_law_148 (by decide) ?_
  refine as_aload_n (pc := 150) X dL_law_150 rfl ?_
  refine as_iconst (pc := 151) X dL_law_151 (by decide) ?_
  refine as_callS (np := 2) (ix := 119) (pc := 152) X ct_L_cell ⟨rfl, rfl⟩ aw_397 aw_398 aw_399 aw_16 (by decide +kernel) (by decide) dL_law_152 ?_
  refine as_bipush (pc := 155) X dL_law_155 (by decide) ?_
  refine as_callS (np := 2) (ix := 49) (pc := 157) X ct_L_low ⟨rfl, rfl⟩ aw_401 aw_402 aw_403 aw_16 (by decide +kernel) (by decide) dL_law_157 ?_
  refine as_iadd (pc := 160) X dL_law_160 ?_
  refine as_istore (pc := 161) X dL_law_161 ?_ (by decide)
  refine as_iconst (pc := 163) X dL_law_163 (by decide) ?_
  refine as_istore (pc := 164) X dL_law_164 ?_ (by decide)
  exact as_head
theorem s_L_law_136 {G : am_G} {bc bs : Nat} {nm : String} (X : am_Cx G cL_law RL nm room_1 (some .boolean) 10 bc bs false) : am_S G 136 (t_L_law_136 bc bs) := by
  unfold t_L_law_136
  refine as_iadd (pc := 136) X dL_law_136 ?_
  refine as_callS (np := 6) (ix := 123) (pc := 137) X ct_L_acts ⟨rfl, rfl⟩ aw_405 aw_406 aw_407 aw_16 (by decide +kernel) (by decide) dL_law_137 ?_
  refine as_istore (pc := 140) X dL_law_140 ?_ (by decide)
  refine as_iinc (pc := 142) X dL_law_142 (by decide) (by decide) ?_
  exact as_goto (pc := 145) X 87 dL_law_145 (by decide) (as_head)
theorem s_L_law_135 {G : am_G} {bc bs : Nat} {nm : String} (X : am_Cx G cL_law RL nm room_1 (some .boolean) 10 bc bs false) : am_S G 135 (t_L_law_135 bc bs) := by
  unfold t_L_law_135
  refine as_iconst (pc := 135) X dL_law_135 (by decide) ?_
  exact s_L_law_136 X
theorem s_L_law_87 {G : am_G} {bc bs : Nat} {nm : String} (X : am_Cx G cL_law RL nm room_1 (some .boolean) 10 bc bs false) : am_S G 87 (t_L_law_87 bc bs) := by
  unfold t_L_law_87
  refine as_iload (pc := 87) X dL_law_87 ?_
  refine as_bipush (pc := 89) X dL_law_89 (by decide) ?_
  refine as_ic_ge (pc := 91) X 148 dL_law_91 (by decide) (s_L_law_148 X) ?_
  refine as_iload (pc := 94) X dL_law_94 ?_
  refine as_if_eq (pc := 96) X 148 dL_law_96 (by decide) (s_L_law_148 X) ?_
  refine as_aload_n (pc := 99) X dL_law_99 rfl ?_
  refine as_aload_n (pc := 100) X dL_law_100 rfl ?_
  refine as_aload_n (pc := 101) X dL_law_101 rfl ?_
  refine as_aload (pc := 102) X dL_law_102 ?_
  refine as_aload (pc := 104) X dL_law_104 ?_
  refine as_aload_n (pc := 106) X dL_law_106 rfl ?_
  refine as_iconst (pc := 107) X dL_law_107 (by decide) ?_
  refine as_iload (pc := 108) X dL_law_108 ?_
  refine as_iadd (pc := 110) X dL_law_110 ?_
  refine as_callS (np := 2) (ix := 119) (pc := 111) X ct_L_cell ⟨rfl, rfl⟩ aw_397 aw_398 aw_399 aw_16 (by decide +kernel) (by decide) dL_law_111 ?_
  refine as_ldc (pc := 114) X dL_law_114 aw_404 ?_
  refine as_iand (pc := 116) X dL_law_116 ?_
  refine as_sipush (pc := 117) X dL_law_117 (by decide) ?_
  refine as_idiv (pc := 120) X dL_law_120 ?_
  refine as_sipush (pc := 121) X dL_law_121 (by decide) ?_
  refine as_imul (pc := 124) X dL_law_124 ?_
  refine as_iload (pc := 125) X dL_law_125 ?_
  refine as_iconst (pc := 127) X dL_law_127 (by decide) ?_
  refine as_ic_ge (pc := 128) X 135 dL_law_128 (by decide) (s_L_law_135 X) ?_
  refine as_iconst (pc := 131) X dL_law_131 (by decide) ?_
  exact as_goto (pc := 132) X 136 dL_law_132 (by decide) (s_L_law_136 X)
theorem s_L_law_0 {G : am_G} {bc bs : Nat} {nm : String} (X : am_Cx G cL_law RL nm room_1 (some .boolean) 10 bc bs false) : am_S G 0 (t_L_law_0 bc bs) := by
  unfold t_L_law_0
  refine as_new (ci := 4) (Cn := RX4) (Tf := TX4) (N := 7) (pc := 0) X rfl rfl iw_X4 tyX4 tyX4_ok (by decide +kernel) aw_25 aw_26 aw_17 dL_law_0 ?_
  refine as_dup (pc := 3) X dL_law_3 ?_
  refine as_callI (np := 0) (ix := 114) (pc := 4) X ct_X4_init rfl aw_27 aw_28 aw_29 aw_17 (by decide +kernel) (by decide) dL_law_4 ?_
  refine as_astore_n (pc := 7) X dL_law_7 rfl ?_ (by decide)
  refine as_bipush (pc := 8) X dL_law_8 (by decide) ?_
  refine as_newa1 (pc := 10) X aw_113 dL_law_10 ?_
  refine as_astore_n (pc := 12) X dL_law_12 rfl ?_ (by decide)
  refine as_bipush (pc := 13) X dL_law_13 (by decide) ?_
  refine as_newa1 (pc := 15) X aw_113 dL_law_15 ?_
  refine as_astore_n (pc := 17) X dL_law_17 rfl ?_ (by decide)
  refine as_bipush (pc := 18) X dL_law_18 (by decide) ?_
  refine as_newa1 (pc := 20) X aw_113 dL_law_20 ?_
  refine as_astore (pc := 22) X dL_law_22 ?_ (by decide)
  refine as_bipush (pc := 24) X dL_law_24 (by decide) ?_
  refine as_newa1 (pc := 26) X aw_113 dL_law_26 ?_
  refine as_astore (pc := 28) X dL_law_28 ?_ (by decide)
  refine as_aload_n (pc := 30) X dL_law_30 rfl ?_
  refine as_iconst (pc := 31) X dL_law_31 (by decide) ?_
  refine as_sipush (pc := 32) X dL_law_32 (by decide) ?_
  refine as_iast (pc := 35) X dL_law_35 ?_
  refine as_aload_n (pc := 36) X dL_law_36 rfl ?_
  refine as_iconst (pc := 37) X dL_law_37 (by decide) ?_
  refine as_bipush (pc := 38) X dL_law_38 (by decide) ?_
  refine as_iast (pc := 40) X dL_law_40 ?_
  refine as_aload_n (pc := 41) X dL_law_41 rfl ?_
  refine as_iconst (pc := 42) X dL_law_42 (by decide) ?_
  refine as_bipush (pc := 43) X dL_law_43 (by decide) ?_
  refine as_iast (pc := 45) X dL_law_45 ?_
  refine as_aload_n (pc := 46) X dL_law_46 rfl ?_
  refine as_iconst (pc := 47) X dL_law_47 (by decide) ?_
  refine as_bipush (pc := 48) X dL_law_48 (by decide) ?_
  refine as_iast (pc := 50) X dL_law_50 ?_
  refine as_aload_n (pc := 51) X dL_law_51 rfl ?_
  refine as_iconst (pc := 52) X dL_law_52 (by decide) ?_
  refine as_bipush (pc := 53) X dL_law_53 (by decide) ?_
  refine as_iast (pc := 55) X dL_law_55 ?_
  refine as_aload_n (pc := 56) X dL_law_56 rfl ?_
  refine as_iconst (pc := 57) X dL_law_57 (by decide) ?_
  refine as_bipush (pc := 58) X dL_law_58 (by decide) ?_
  refine as_iast (pc := 60) X dL_law_60 ?_
  refine as_aload_n (pc := 61) X dL_law_61 rfl ?_
  refine as_bipush (pc := 62) X dL_law_62 (by decide) ?_
  refine as_bipush (pc := 64) X dL_law_64 (by decide) ?_
  refine as_iast (pc := 66) X dL_law_66 ?_
  refine as_aload_n (pc := 67) X dL_law_67 rfl ?_
  refine as_bipush (pc := 68) X dL_law_68 (by decide) ?_
  refine as_iconst (pc := 70) X dL_law_70 (by decide) ?_
  refine as_iast (pc := 71) X dL_law_71 ?_
  refine as_aload_n (pc := 72) X dL_law_72 rfl ?_
  refine as_aload_n (pc := 73) X dL_law_73 rfl ?_
  refine as_aload_n (pc := 74) X dL_law_74 rfl ?_
  refine as_aload (pc := 75) X dL_law_75 ?_
  refine as_aload (pc := 77) X dL_law_77 ?_
  refine as_callSA (np := 5) (ix := 115) (pc := 79) X ct_L_isSo aw_532 aw_533 aw_534 aw_16 (by decide +kernel) (by decide) dL_law_79 ?_
  refine as_istore (pc := 82) X dL_law_82 ?_ (by decide)
  refine as_iconst (pc := 84) X dL_law_84 (by decide) ?_
  refine as_istore (pc := 85) X dL_law_85 ?_ (by decide)
  exact as_head
theorem s_L_law {G : am_G} {bc bs : Nat} {nm : String} (X : am_Cx G cL_law RL nm room_1 (some .boolean) 10 bc bs false) (h : Nat) : am_S G h (h_L_law bc bs h) := by
  unfold h_L_law
  split
  · next e => rw [e]; exact s_L_law_0 X
  split
  · next e => rw [e]; exact s_L_law_87 X
  split
  · next e => rw [e]; exact s_L_law_166 X
  exact as_bad
