-- X3_rate
theorem dX3_rate_0 : decode cX3_rate 0 = .ok (.iconst 0, 1) := by decide +kernel
theorem dX3_rate_1 : decode cX3_rate 1 = .ok (.istore_n 3, 1) := by decide +kernel
theorem dX3_rate_2 : decode cX3_rate 2 = .ok (.aload_n 0, 1) := by decide +kernel
theorem dX3_rate_3 : decode cX3_rate 3 = .ok (.iload_n 1, 1) := by decide +kernel
theorem dX3_rate_4 : decode cX3_rate 4 = .ok (.aload_n 0, 1) := by decide +kernel
theorem dX3_rate_5 : decode cX3_rate 5 = .ok (.getfield 12, 3) := by decide +kernel
theorem dX3_rate_8 : decode cX3_rate 8 = .ok (.getfield 98, 3) := by decide +kernel
theorem dX3_rate_11 : decode cX3_rate 11 = .ok (.iload_n 2, 1) := by decide +kernel
theorem dX3_rate_12 : decode cX3_rate 12 = .ok (.iaload, 1) := by decide +kernel
theorem dX3_rate_13 : decode cX3_rate 13 = .ok (.invokevirtual 101, 3) := by decide +kernel
theorem dX3_rate_16 : decode cX3_rate 16 = .ok (.ifCond .eq 15, 3) := by decide +kernel
theorem dX3_rate_19 : decode cX3_rate 19 = .ok (.iload_n 3, 1) := by decide +kernel
theorem dX3_rate_20 : decode cX3_rate 20 = .ok (.aload_n 0, 1) := by decide +kernel
theorem dX3_rate_21 : decode cX3_rate 21 = .ok (.getfield 12, 3) := by decide +kernel
theorem dX3_rate_24 : decode cX3_rate 24 = .ok (.getfield 105, 3) := by decide +kernel
theorem dX3_rate_27 : decode cX3_rate 27 = .ok (.iconst 2, 1) := by decide +kernel
theorem dX3_rate_28 : decode cX3_rate 28 = .ok (.iaload, 1) := by decide +kernel
theorem dX3_rate_29 : decode cX3_rate 29 = .ok (.iadd, 1) := by decide +kernel
theorem dX3_rate_30 : decode cX3_rate 30 = .ok (.istore_n 3, 1) := by decide +kernel
theorem dX3_rate_31 : decode cX3_rate 31 = .ok (.aload_n 0, 1) := by decide +kernel
theorem dX3_rate_32 : decode cX3_rate 32 = .ok (.iload_n 2, 1) := by decide +kernel
theorem dX3_rate_33 : decode cX3_rate 33 = .ok (.aload_n 0, 1) := by decide +kernel
theorem dX3_rate_34 : decode cX3_rate 34 = .ok (.getfield 12, 3) := by decide +kernel
theorem dX3_rate_37 : decode cX3_rate 37 = .ok (.getfield 98, 3) := by decide +kernel
theorem dX3_rate_40 : decode cX3_rate 40 = .ok (.iload_n 1, 1) := by decide +kernel
theorem dX3_rate_41 : decode cX3_rate 41 = .ok (.iaload, 1) := by decide +kernel
theorem dX3_rate_42 : decode cX3_rate 42 = .ok (.invokevirtual 101, 3) := by decide +kernel
theorem dX3_rate_45 : decode cX3_rate 45 = .ok (.ifCond .eq 15, 3) := by decide +kernel
theorem dX3_rate_48 : decode cX3_rate 48 = .ok (.iload_n 3, 1) := by decide +kernel
theorem dX3_rate_49 : decode cX3_rate 49 = .ok (.aload_n 0, 1) := by decide +kernel
theorem dX3_rate_50 : decode cX3_rate 50 = .ok (.getfield 12, 3) := by decide +kernel
theorem dX3_rate_53 : decode cX3_rate 53 = .ok (.getfield 105, 3) := by decide +kernel
theorem dX3_rate_56 : decode cX3_rate 56 = .ok (.iconst 3, 1) := by decide +kernel
theorem dX3_rate_57 : decode cX3_rate 57 = .ok (.iaload, 1) := by decide +kernel
theorem dX3_rate_58 : decode cX3_rate 58 = .ok (.iadd, 1) := by decide +kernel
theorem dX3_rate_59 : decode cX3_rate 59 = .ok (.istore_n 3, 1) := by decide +kernel
theorem dX3_rate_60 : decode cX3_rate 60 = .ok (.iload_n 3, 1) := by decide +kernel
theorem dX3_rate_61 : decode cX3_rate 61 = .ok (.aload_n 0, 1) := by decide +kernel
theorem dX3_rate_62 : decode cX3_rate 62 = .ok (.getfield 12, 3) := by decide +kernel
theorem dX3_rate_65 : decode cX3_rate 65 = .ok (.getfield 105, 3) := by decide +kernel
theorem dX3_rate_68 : decode cX3_rate 68 = .ok (.iconst 4, 1) := by decide +kernel
theorem dX3_rate_69 : decode cX3_rate 69 = .ok (.iaload, 1) := by decide +kernel
theorem dX3_rate_70 : decode cX3_rate 70 = .ok (.aload_n 0, 1) := by decide +kernel
theorem dX3_rate_71 : decode cX3_rate 71 = .ok (.getfield 12, 3) := by decide +kernel
theorem dX3_rate_74 : decode cX3_rate 74 = .ok (.getfield 108, 3) := by decide +kernel
theorem dX3_rate_77 : decode cX3_rate 77 = .ok (.iload_n 1, 1) := by decide +kernel
theorem dX3_rate_78 : decode cX3_rate 78 = .ok (.iaload, 1) := by decide +kernel
theorem dX3_rate_79 : decode cX3_rate 79 = .ok (.aload_n 0, 1) := by decide +kernel
theorem dX3_rate_80 : decode cX3_rate 80 = .ok (.getfield 12, 3) := by decide +kernel
theorem dX3_rate_83 : decode cX3_rate 83 = .ok (.getfield 108, 3) := by decide +kernel
theorem dX3_rate_86 : decode cX3_rate 86 = .ok (.iload_n 2, 1) := by decide +kernel
theorem dX3_rate_87 : decode cX3_rate 87 = .ok (.iaload, 1) := by decide +kernel
theorem dX3_rate_88 : decode cX3_rate 88 = .ok (.iand, 1) := by decide +kernel
theorem dX3_rate_89 : decode cX3_rate 89 = .ok (.invokestatic 111, 3) := by decide +kernel
theorem dX3_rate_92 : decode cX3_rate 92 = .ok (.imul, 1) := by decide +kernel
theorem dX3_rate_93 : decode cX3_rate 93 = .ok (.iadd, 1) := by decide +kernel
theorem dX3_rate_94 : decode cX3_rate 94 = .ok (.istore_n 3, 1) := by decide +kernel
theorem dX3_rate_95 : decode cX3_rate 95 = .ok (.aload_n 0, 1) := by decide +kernel
theorem dX3_rate_96 : decode cX3_rate 96 = .ok (.getfield 12, 3) := by decide +kernel
theorem dX3_rate_99 : decode cX3_rate 99 = .ok (.getfield 98, 3) := by decide +kernel
theorem dX3_rate_102 : decode cX3_rate 102 = .ok (.iload_n 1, 1) := by decide +kernel
theorem dX3_rate_103 : decode cX3_rate 103 = .ok (.iaload, 1) := by decide +kernel
theorem dX3_rate_104 : decode cX3_rate 104 = .ok (.aload_n 0, 1) := by decide +kernel
theorem dX3_rate_105 : decode cX3_rate 105 = .ok (.getfield 12, 3) := by decide +kernel
theorem dX3_rate_108 : decode cX3_rate 108 = .ok (.getfield 98, 3) := by decide +kernel
theorem dX3_rate_111 : decode cX3_rate 111 = .ok (.iload_n 2, 1) := by decide +kernel
theorem dX3_rate_112 : decode cX3_rate 112 = .ok (.iaload, 1) := by decide +kernel
theorem dX3_rate_113 : decode cX3_rate 113 = .ok (.if_icmp .ne 15, 3) := by decide +kernel
theorem dX3_rate_116 : decode cX3_rate 116 = .ok (.iload_n 3, 1) := by decide +kernel
theorem dX3_rate_117 : decode cX3_rate 117 = .ok (.aload_n 0, 1) := by decide +kernel
theorem dX3_rate_118 : decode cX3_rate 118 = .ok (.getfield 12, 3) := by decide +kernel
theorem dX3_rate_121 : decode cX3_rate 121 = .ok (.getfield 105, 3) := by decide +kernel
theorem dX3_rate_124 : decode cX3_rate 124 = .ok (.iconst 5, 1) := by decide +kernel
theorem dX3_rate_125 : decode cX3_rate 125 = .ok (.iaload, 1) := by decide +kernel
theorem dX3_rate_126 : decode cX3_rate 126 = .ok (.iadd, 1) := by decide +kernel
theorem dX3_rate_127 : decode cX3_rate 127 = .ok (.istore_n 3, 1) := by decide +kernel
theorem dX3_rate_128 : decode cX3_rate 128 = .ok (.aload_n 0, 1) := by decide +kernel
theorem dX3_rate_129 : decode cX3_rate 129 = .ok (.getfield 12, 3) := by decide +kernel
theorem dX3_rate_132 : decode cX3_rate 132 = .ok (.getfield 105, 3) := by decide +kernel
theorem dX3_rate_135 : decode cX3_rate 135 = .ok (.bipush 6, 2) := by decide +kernel
theorem dX3_rate_137 : decode cX3_rate 137 = .ok (.iaload, 1) := by decide +kernel
theorem dX3_rate_138 : decode cX3_rate 138 = .ok (.istore 4, 2) := by decide +kernel
theorem dX3_rate_140 : decode cX3_rate 140 = .ok (.iload 4, 2) := by decide +kernel
theorem dX3_rate_142 : decode cX3_rate 142 = .ok (.ifCond .le 15, 3) := by decide +kernel
theorem dX3_rate_145 : decode cX3_rate 145 = .ok (.iload_n 3, 1) := by decide +kernel
theorem dX3_rate_146 : decode cX3_rate 146 = .ok (.aload_n 0, 1) := by decide +kernel
theorem dX3_rate_147 : decode cX3_rate 147 = .ok (.iload_n 1, 1) := by decide +kernel
theorem dX3_rate_148 : decode cX3_rate 148 = .ok (.iload_n 2, 1) := by decide +kernel
theorem dX3_rate_149 : decode cX3_rate 149 = .ok (.invokevirtual 116, 3) := by decide +kernel
theorem dX3_rate_152 : decode cX3_rate 152 = .ok (.iload 4, 2) := by decide +kernel
theorem dX3_rate_154 : decode cX3_rate 154 = .ok (.idiv, 1) := by decide +kernel
theorem dX3_rate_155 : decode cX3_rate 155 = .ok (.isub, 1) := by decide +kernel
theorem dX3_rate_156 : decode cX3_rate 156 = .ok (.istore_n 3, 1) := by decide +kernel
theorem dX3_rate_157 : decode cX3_rate 157 = .ok (.aload_n 0, 1) := by decide +kernel
theorem dX3_rate_158 : decode cX3_rate 158 = .ok (.getfield 28, 3) := by decide +kernel
theorem dX3_rate_161 : decode cX3_rate 161 = .ok (.iload_n 1, 1) := by decide +kernel
theorem dX3_rate_162 : decode cX3_rate 162 = .ok (.bipush 30, 2) := by decide +kernel
theorem dX3_rate_164 : decode cX3_rate 164 = .ok (.imul, 1) := by decide +kernel
theorem dX3_rate_165 : decode cX3_rate 165 = .ok (.iload_n 2, 1) := by decide +kernel
theorem dX3_rate_166 : decode cX3_rate 166 = .ok (.iadd, 1) := by decide +kernel
theorem dX3_rate_167 : decode cX3_rate 167 = .ok (.iload_n 3, 1) := by decide +kernel
theorem dX3_rate_168 : decode cX3_rate 168 = .ok (.iastore, 1) := by decide +kernel
theorem dX3_rate_169 : decode cX3_rate 169 = .ok (.return_, 1) := by decide +kernel
def t_X3_rate_157 : am_T := tb_aload 0 <|
  tb_getR 3 4 <|
  tb_iload 1 <|
  tb_const 30 <|
  tb_bin (fun x y => x * y) <|
  tb_iload 2 <|
  tb_bin (fun x y => x + y) <|
  tb_iload 3 <|
  tb_iast <|
  tb_ret
def t_X3_rate_128 : am_T := tb_aload 0 <|
  tb_getR 3 0 <|
  tb_getR 1 13 <|
  tb_const 6 <|
  tb_iald <|
  tb_istore 4 <|
  tb_iload 4 <|
  tb_if (fun x => x ≤ 0) (t_X3_rate_157) <|
  tb_iload 3 <|
  tb_aload 0 <|
  tb_iload 1 <|
  tb_iload 2 <|
  tb_callV 3 sp_X3_gapOf 3 <|
  tb_iload 4 <|
  tb_idiv <|
  tb_bin (fun x y => x - y) <|
  tb_istore 3 <|
  t_X3_rate_157
def t_X3_rate_60 : am_T := tb_iload 3 <|
  tb_aload 0 <|
  tb_getR 3 0 <|
  tb_getR 1 13 <|
  tb_const 4 <|
  tb_iald <|
  tb_aload 0 <|
  tb_getR 3 0 <|
  tb_getR 1 8 <|
  tb_iload 1 <|
  tb_iald <|
  tb_aload 0 <|
  tb_getR 3 0 <|
  tb_getR 1 8 <|
  tb_iload 2 <|
  tb_iald <|
  tb_bin (fun x y => x &&& y) <|
  tb_callS sp_J6_bitCount_0f7a4 1 <|
  tb_bin (fun x y => x * y) <|
  tb_bin (fun x y => x + y) <|
  tb_istore 3 <|
  tb_aload 0 <|
  tb_getR 3 0 <|
  tb_getR 1 6 <|
  tb_iload 1 <|
  tb_iald <|
  tb_aload 0 <|
  tb_getR 3 0 <|
  tb_getR 1 6 <|
  tb_iload 2 <|
  tb_iald <|
  tb_ic (fun x y => x ≠ y) (t_X3_rate_128) <|
  tb_iload 3 <|
  tb_aload 0 <|
  tb_getR 3 0 <|
  tb_getR 1 13 <|
  tb_const 5 <|
  tb_iald <|
  tb_bin (fun x y => x + y) <|
  tb_istore 3 <|
  t_X3_rate_128
def t_X3_rate_31 : am_T := tb_aload 0 <|
  tb_iload 2 <|
  tb_aload 0 <|
  tb_getR 3 0 <|
  tb_getR 1 6 <|
  tb_iload 1 <|
  tb_iald <|
  tb_callV 3 sp_X3_speaksTo 3 <|
  tb_if (fun x => x = 0) (t_X3_rate_60) <|
  tb_iload 3 <|
  tb_aload 0 <|
  tb_getR 3 0 <|
  tb_getR 1 13 <|
  tb_const 3 <|
  tb_iald <|
  tb_bin (fun x y => x + y) <|
  tb_istore 3 <|
  t_X3_rate_60
def t_X3_rate_0 : am_T := tb_const 0 <|
  tb_istore 3 <|
  tb_aload 0 <|
  tb_iload 1 <|
  tb_aload 0 <|
  tb_getR 3 0 <|
  tb_getR 1 6 <|
  tb_iload 2 <|
  tb_iald <|
  tb_callV 3 sp_X3_speaksTo 3 <|
  tb_if (fun x => x = 0) (t_X3_rate_31) <|
  tb_iload 3 <|
  tb_aload 0 <|
  tb_getR 3 0 <|
  tb_getR 1 13 <|
  tb_const 2 <|
  tb_iald <|
  tb_bin (fun x y => x + y) <|
  tb_istore 3 <|
  t_X3_rate_31
def h_X3_rate : am_Hd := fun h => if h = 0 then t_X3_rate_0 else tb_bad
theorem h_X3_rate_0 : h_X3_rate 0 = t_X3_rate_0 := rfl
def rm_X3_rate : Room := { frames := 2, cells := 0, slots := 0, locals := 43 }
def sp_X3_rate : am_sp := fun as M Q => as.length ≤ 5 ∧ am_OK h_X3_rate Q 0 (am_in 5 as) M
theorem s_X3_rate_157 {G : am_G} {bc bs : Nat} (X : am_Cx G cX3_rate RX3 "rate" rm_X3_rate none 5 bc bs true) : am_S G 157 (t_X3_rate_157) := by
  unfold t_X3_rate_157
  refine as_aload_n (pc := 157) X dX3_rate_157 rfl ?_
  refine as_getR (ci := 3) (j := 4) (pc := 158) X (Cn := RX3) (Tf := TX3) (N := 17) rfl rfl (by decide) iw_X3 aw_122 rfl dX3_rate_158 ?_
  refine as_iload_n (pc := 161) X dX3_rate_161 rfl ?_
  refine as_bipush (pc := 162) X dX3_rate_162 (by decide) ?_
  refine as_imul (pc := 164) X dX3_rate_164 ?_
  refine as_iload_n (pc := 165) X dX3_rate_165 rfl ?_
  refine as_iadd (pc := 166) X dX3_rate_166 ?_
  refine as_iload_n (pc := 167) X dX3_rate_167 rfl ?_
  refine as_iast (pc := 168) X dX3_rate_168 ?_
  exact as_ret (pc := 169) X ⟨rfl, rfl⟩ rfl dX3_rate_169
theorem s_X3_rate_128 {G : am_G} {bc bs : Nat} (X : am_Cx G cX3_rate RX3 "rate" rm_X3_rate none 5 bc bs true) : am_S G 128 (t_X3_rate_128) := by
  unfold t_X3_rate_128
  refine as_aload_n (pc := 128) X dX3_rate_128 rfl ?_
  refine as_getR (ci := 3) (j := 0) (pc := 129) X (Cn := RX3) (Tf := TX3) (N := 17) rfl rfl (by decide) iw_X3 aw_114 rfl dX3_rate_129 ?_
  refine as_getR (ci := 1) (j := 13) (pc := 132) X (Cn := RX1) (Tf := TX1) (N := 14) rfl rfl (by decide) iw_X1 aw_82 rfl dX3_rate_132 ?_
  refine as_bipush (pc := 135) X dX3_rate_135 (by decide) ?_
  refine as_iald (pc := 137) X dX3_rate_137 ?_
  refine as_istore (pc := 138) X dX3_rate_138 ?_ (by decide)
  refine as_iload (pc := 140) X dX3_rate_140 ?_
  refine as_if_le (pc := 142) X 157 dX3_rate_142 (by decide) (s_X3_rate_157 X) ?_
  refine as_iload_n (pc := 145) X dX3_rate_145 rfl ?_
  refine as_aload_n (pc := 146) X dX3_rate_146 rfl ?_
  refine as_iload_n (pc := 147) X dX3_rate_147 rfl ?_
  refine as_iload_n (pc := 148) X dX3_rate_148 rfl ?_
  refine as_callV (ci := 3) (np := 2) (ix := 116) (pc := 149) X ct_X3_gapOf (Cn := (RX3, TX3, 17)) rfl ⟨rfl, rfl⟩ aw_314 aw_315 aw_316 aw_317 aw_18 (by decide +kernel) (by decide) dX3_rate_149 ?_
  refine as_iload (pc := 152) X dX3_rate_152 ?_
  refine as_idiv (pc := 154) X dX3_rate_154 ?_
  refine as_isub (pc := 155) X dX3_rate_155 ?_
  refine as_istore_n (pc := 156) X dX3_rate_156 rfl ?_ (by decide)
  exact s_X3_rate_157 X
theorem s_X3_rate_60 {G : am_G} {bc bs : Nat} (X : am_Cx G cX3_rate RX3 "rate" rm_X3_rate none 5 bc bs true) : am_S G 60 (t_X3_rate_60) := by
  unfold t_X3_rate_60
  refine as_iload_n (pc := 60) X dX3_rate_60 rfl ?_
  refine as_aload_n (pc := 61) X dX3_rate_61 rfl ?_
  refine as_getR (ci := 3) (j := 0) (pc := 62) X (Cn := RX3) (Tf := TX3) (N := 17) rfl rfl (by decide) iw_X3 aw_114 rfl dX3_rate_62 ?_
  refine as_getR (ci := 1) (j := 13) (pc := 65) X (Cn := RX1) (Tf := TX1) (N := 14) rfl rfl (by decide) iw_X1 aw_82 rfl dX3_rate_65 ?_
  refine as_iconst (pc := 68) X dX3_rate_68 (by decide) ?_
  refine as_iald (pc := 69) X dX3_rate_69 ?_
  refine as_aload_n (pc := 70) X dX3_rate_70 rfl ?_
  refine as_getR (ci := 3) (j := 0) (pc := 71) X (Cn := RX3) (Tf := TX3) (N := 17) rfl rfl (by decide) iw_X3 aw_114 rfl dX3_rate_71 ?_
  refine as_getR (ci := 1) (j := 8) (pc := 74) X (Cn := RX1) (Tf := TX1) (N := 14) rfl rfl (by decide) iw_X1 aw_67 rfl dX3_rate_74 ?_
  refine as_iload_n (pc := 77) X dX3_rate_77 rfl ?_
  refine as_iald (pc := 78) X dX3_rate_78 ?_
  refine as_aload_n (pc := 79) X dX3_rate_79 rfl ?_
  refine as_getR (ci := 3) (j := 0) (pc := 80) X (Cn := RX3) (Tf := TX3) (N := 17) rfl rfl (by decide) iw_X3 aw_114 rfl dX3_rate_80 ?_
  refine as_getR (ci := 1) (j := 8) (pc := 83) X (Cn := RX1) (Tf := TX1) (N := 14) rfl rfl (by decide) iw_X1 aw_67 rfl dX3_rate_83 ?_
  refine as_iload_n (pc := 86) X dX3_rate_86 rfl ?_
  refine as_iald (pc := 87) X dX3_rate_87 ?_
  refine as_iand (pc := 88) X dX3_rate_88 ?_
  refine as_callS (np := 1) (ix := 111) (pc := 89) X ct_J6_bitCount_0f7a4 ⟨rfl, rfl⟩ aw_308 aw_309 aw_310 aw_23 (by decide +kernel) (by decide) dX3_rate_89 ?_
  refine as_imul (pc := 92) X dX3_rate_92 ?_
  refine as_iadd (pc := 93) X dX3_rate_93 ?_
  refine as_istore_n (pc := 94) X dX3_rate_94 rfl ?_ (by decide)
  refine as_aload_n (pc := 95) X dX3_rate_95 rfl ?_
  refine as_getR (ci := 3) (j := 0) (pc := 96) X (Cn := RX3) (Tf := TX3) (N := 17) rfl rfl (by decide) iw_X3 aw_114 rfl dX3_rate_96 ?_
  refine as_getR (ci := 1) (j := 6) (pc := 99) X (Cn := RX1) (Tf := TX1) (N := 14) rfl rfl (by decide) iw_X1 aw_62 rfl dX3_rate_99 ?_
  refine as_iload_n (pc := 102) X dX3_rate_102 rfl ?_
  refine as_iald (pc := 103) X dX3_rate_103 ?_
  refine as_aload_n (pc := 104) X dX3_rate_104 rfl ?_
  refine as_getR (ci := 3) (j := 0) (pc := 105) X (Cn := RX3) (Tf := TX3) (N := 17) rfl rfl (by decide) iw_X3 aw_114 rfl dX3_rate_105 ?_
  refine as_getR (ci := 1) (j := 6) (pc := 108) X (Cn := RX1) (Tf := TX1) (N := 14) rfl rfl (by decide) iw_X1 aw_62 rfl dX3_rate_108 ?_
  refine as_iload_n (pc := 111) X dX3_rate_111 rfl ?_
  refine as_iald (pc := 112) X dX3_rate_112 ?_
  refine as_ic_ne (pc := 113) X 128 dX3_rate_113 (by decide) (s_X3_rate_128 X) ?_
  refine as_iload_n (pc := 116) X dX3_rate_116 rfl ?_
  refine as_aload_n (pc := 117) X dX3_rate_117 rfl ?_
  refine as_getR (ci := 3) (j := 0) (pc := 118) X (Cn := RX3) (Tf := TX3) (N := 17) rfl rfl (by decide) iw_X3 aw_114 rfl dX3_rate_118 ?_
  refine as_getR (ci := 1) (j := 13) (pc := 121) X (Cn := RX1) (Tf := TX1) (N := 14) rfl rfl (by decide) iw_X1 aw_82 rfl dX3_rate_121 ?_
  refine as_iconst (pc := 124) X dX3_rate_124 (by decide) ?_
  refine as_iald (pc := 125) X dX3_rate_125 ?_
  refine as_iadd (pc := 126) X dX3_rate_126 ?_
  refine as_istore_n (pc := 127) X dX3_rate_127 rfl ?_ (by decide)
  exact s_X3_rate_128 X
theorem s_X3_rate_31 {G : am_G} {bc bs : Nat} (X : am_Cx G cX3_rate RX3 "rate" rm_X3_rate none 5 bc bs true) : am_S G 31 (t_X3_rate_31) := by
  unfold t_X3_rate_31
  refine as_aload_n (pc := 31) X dX3_rate_31 rfl ?_
  refine as_iload_n (pc := 32) X dX3_rate_32 rfl ?_
  refine as_aload_n (pc := 33) X dX3_rate_33 rfl ?_
  refine as_getR (ci := 3) (j := 0) (pc := 34) X (Cn := RX3) (Tf := TX3) (N := 17) rfl rfl (by decide) iw_X3 aw_114 rfl dX3_rate_34 ?_
  refine as_getR (ci := 1) (j := 6) (pc := 37) X (Cn := RX1) (Tf := TX1) (N := 14) rfl rfl (by decide) iw_X1 aw_62 rfl dX3_rate_37 ?_
  refine as_iload_n (pc := 40) X dX3_rate_40 rfl ?_
  refine as_iald (pc := 41) X dX3_rate_41 ?_
  refine as_callV (ci := 3) (np := 2) (ix := 101) (pc := 42) X ct_X3_speaksTo (Cn := (RX3, TX3, 17)) rfl ⟨rfl, rfl⟩ aw_303 aw_305 aw_3 aw_306 aw_18 (by decide +kernel) (by decide) dX3_rate_42 ?_
  refine as_if_eq (pc := 45) X 60 dX3_rate_45 (by decide) (s_X3_rate_60 X) ?_
  refine as_iload_n (pc := 48) X dX3_rate_48 rfl ?_
  refine as_aload_n (pc := 49) X dX3_rate_49 rfl ?_
  refine as_getR (ci := 3) (j := 0) (pc := 50) X (Cn := RX3) (Tf := TX3) (N := 17) rfl rfl (by decide) iw_X3 aw_114 rfl dX3_rate_50 ?_
  refine as_getR (ci := 1) (j := 13) (pc := 53) X (Cn := RX1) (Tf := TX1) (N := 14) rfl rfl (by decide) iw_X1 aw_82 rfl dX3_rate_53 ?_
  refine as_iconst (pc := 56) X dX3_rate_56 (by decide) ?_
  refine as_iald (pc := 57) X dX3_rate_57 ?_
  refine as_iadd (pc := 58) X dX3_rate_58 ?_
  refine as_istore_n (pc := 59) X dX3_rate_59 rfl ?_ (by decide)
  exact s_X3_rate_60 X
theorem s_X3_rate_0 {G : am_G} {bc bs : Nat} (X : am_Cx G cX3_rate RX3 "rate" rm_X3_rate none 5 bc bs true) : am_S G 0 (t_X3_rate_0) := by
  unfold t_X3_rate_0
  refine as_iconst (pc := 0) X dX3_rate_0 (by decide) ?_
  refine as_istore_n (pc := 1) X dX3_rate_1 rfl ?_ (by decide)
  refine as_aload_n (pc := 2) X dX3_rate_2 rfl ?_
  refine as_iload_n (pc := 3) X dX3_rate_3 rfl ?_
  refine as_aload_n (pc := 4) X dX3_rate_4 rfl ?_
  refine as_getR (ci := 3) (j := 0) (pc := 5) X (Cn := RX3) (Tf := TX3) (N := 17) rfl rfl (by decide) iw_X3 aw_114 rfl dX3_rate_5 ?_
  refine as_getR (ci := 1) (j := 6) (pc := 8) X (Cn := RX1) (Tf := TX1) (N := 14) rfl rfl (by decide) iw_X1 aw_62 rfl dX3_rate_8 ?_
  refine as_iload_n (pc := 11) X dX3_rate_11 rfl ?_
  refine as_iald (pc := 12) X dX3_rate_12 ?_
  refine as_callV (ci := 3) (np := 2) (ix := 101) (pc := 13) X ct_X3_speaksTo (Cn := (RX3, TX3, 17)) rfl ⟨rfl, rfl⟩ aw_303 aw_305 aw_3 aw_306 aw_18 (by decide +kernel) (by decide) dX3_rate_13 ?_
  refine as_if_eq (pc := 16) X 31 dX3_rate_16 (by decide) (s_X3_rate_31 X) ?_
  refine as_iload_n (pc := 19) X dX3_rate_19 rfl ?_
  refine as_aload_n (pc := 20) X dX3_rate_20 rfl ?_
  refine as_getR (ci := 3) (j := 0) (pc := 21) X (Cn := RX3) (Tf := TX3) (N := 17) rfl rfl (by decide) iw_X3 aw_114 rfl dX3_rate_21 ?_
  refine as_getR (ci := 1) (j := 13) (pc := 24) X (Cn := RX1) (Tf := TX1) (N := 14) rfl rfl (by decide) iw_X1 aw_82 rfl dX3_rate_24 ?_
  refine as_iconst (pc := 27) X dX3_rate_27 (by decide) ?_
  refine as_iald (pc := 28) X dX3_rate_28 ?_
  refine as_iadd (pc := 29) X dX3_rate_29 ?_
  refine as_istore_n (pc := 30) X dX3_rate_30 rfl ?_ (by decide)
  exact s_X3_rate_31 X
theorem s_X3_rate {G : am_G} {bc bs : Nat} (X : am_Cx G cX3_rate RX3 "rate" rm_X3_rate none 5 bc bs true) (h : Nat) : am_S G h (h_X3_rate h) := by
  unfold h_X3_rate
  split
  · next e => rw [e]; exact s_X3_rate_0 X
  exact as_bad
theorem ct_X3_rate : am_Ct yX3_rate cX3_rate 5 none rm_X3_rate sp_X3_rate := am_met (own := RX3) (nm := "rate") (by decide) rfl rfl (Or.inl rfl) (fun _ _ => h_X3_rate) (fun _ _ _ X => s_X3_rate X) (fun _ _ _ _ h => h)
-- X1_countingFix
theorem dX1_countingFix_0 : decode cX1_countingFix 0 = .ok (.aload_n 0, 1) := by decide +kernel
theorem dX1_countingFix_1 : decode cX1_countingFix 1 = .ok (.getfield 40, 3) := by decide +kernel
theorem dX1_countingFix_4 : decode cX1_countingFix 4 = .ok (.iconst 1, 1) := by decide +kernel
theorem dX1_countingFix_5 : decode cX1_countingFix 5 = .ok (.isub, 1) := by decide +kernel
theorem dX1_countingFix_6 : decode cX1_countingFix 6 = .ok (.istore_n 2, 1) := by decide +kernel
theorem dX1_countingFix_7 : decode cX1_countingFix 7 = .ok (.iload_n 2, 1) := by decide +kernel
theorem dX1_countingFix_8 : decode cX1_countingFix 8 = .ok (.ifCond .lt 31, 3) := by decide +kernel
theorem dX1_countingFix_11 : decode cX1_countingFix 11 = .ok (.aload_n 0, 1) := by decide +kernel
theorem dX1_countingFix_12 : decode cX1_countingFix 12 = .ok (.getfield 46, 3) := by decide +kernel
theorem dX1_countingFix_15 : decode cX1_countingFix 15 = .ok (.iload_n 2, 1) := by decide +kernel
theorem dX1_countingFix_16 : decode cX1_countingFix 16 = .ok (.iaload, 1) := by decide +kernel
theorem dX1_countingFix_17 : decode cX1_countingFix 17 = .ok (.iload_n 1, 1) := by decide +kernel
theorem dX1_countingFix_18 : decode cX1_countingFix 18 = .ok (.if_icmp .ne 15, 3) := by decide +kernel
theorem dX1_countingFix_21 : decode cX1_countingFix 21 = .ok (.aload_n 0, 1) := by decide +kernel
theorem dX1_countingFix_22 : decode cX1_countingFix 22 = .ok (.getfield 43, 3) := by decide +kernel
theorem dX1_countingFix_25 : decode cX1_countingFix 25 = .ok (.iload_n 2, 1) := by decide +kernel
theorem dX1_countingFix_26 : decode cX1_countingFix 26 = .ok (.iaload, 1) := by decide +kernel
theorem dX1_countingFix_27 : decode cX1_countingFix 27 = .ok (.iconst 2, 1) := by decide +kernel
theorem dX1_countingFix_28 : decode cX1_countingFix 28 = .ok (.if_icmp .eq 5, 3) := by decide +kernel
theorem dX1_countingFix_31 : decode cX1_countingFix 31 = .ok (.iload_n 2, 1) := by decide +kernel
theorem dX1_countingFix_32 : decode cX1_countingFix 32 = .ok (.ireturn, 1) := by decide +kernel
theorem dX1_countingFix_33 : decode cX1_countingFix 33 = .ok (.iinc 2 (-1), 3) := by decide +kernel
theorem dX1_countingFix_36 : decode cX1_countingFix 36 = .ok (.goto (-29), 3) := by decide +kernel
theorem dX1_countingFix_39 : decode cX1_countingFix 39 = .ok (.iconst (-1), 1) := by decide +kernel
theorem dX1_countingFix_40 : decode cX1_countingFix 40 = .ok (.ireturn, 1) := by decide +kernel
def t_X1_countingFix_39 : am_T := tb_const (-1) <|
  tb_iret
def t_X1_countingFix_33 : am_T := tb_iinc 2 (-1) <|
  tb_head 7
def t_X1_countingFix_7 : am_T := tb_iload 2 <|
  tb_if (fun x => x < 0) (t_X1_countingFix_39) <|
  tb_aload 0 <|
  tb_getR 1 11 <|
  tb_iload 2 <|
  tb_iald <|
  tb_iload 1 <|
  tb_ic (fun x y => x ≠ y) (t_X1_countingFix_33) <|
  tb_aload 0 <|
  tb_getR 1 10 <|
  tb_iload 2 <|
  tb_iald <|
  tb_const 2 <|
  tb_ic (fun x y => x = y) (t_X1_countingFix_33) <|
  tb_iload 2 <|
  tb_iret
def t_X1_countingFix_0 : am_T := tb_aload 0 <|
  tb_getI 1 9 <|
  tb_const 1 <|
  tb_bin (fun x y => x - y) <|
  tb_istore 2 <|
  tb_head 7
def h_X1_countingFix : am_Hd := fun h => if h = 0 then t_X1_countingFix_0 else if h = 7 then t_X1_countingFix_7 else tb_bad
theorem h_X1_countingFix_0 : h_X1_countingFix 0 = t_X1_countingFix_0 := rfl
theorem h_X1_countingFix_7 : h_X1_countingFix 7 = t_X1_countingFix_7 := rfl
def rm_X1_countingFix : Room := { frames := 0, cells := 0, slots := 0, locals := 0 }
def sp_X1_countingFix : am_sp := fun as M Q => as.length ≤ 3 ∧ am_OK h_X1_countingFix Q 0 (am_in 3 as) M
theorem s_X1_countingFix_39 {G : am_G} {bc bs : Nat} (X : am_Cx G cX1_countingFix RX1 "countingFix" rm_X1_countingFix (some .int) 3 bc bs true) : am_S G 39 (t_X1_countingFix_39) := by
  unfold t_X1_countingFix_39
  refine as_iconst (pc := 39) X dX1_countingFix_39 (by decide) ?_
  exact as_iret (pc := 40) X ⟨rfl, rfl⟩ rfl dX1_countingFix_40
theorem s_X1_countingFix_33 {G : am_G} {bc bs : Nat} (X : am_Cx G cX1_countingFix RX1 "countingFix" rm_X1_countingFix (some .int) 3 bc bs true) : am_S G 33 (t_X1_countingFix_33) := by
  unfold t_X1_countingFix_33
  refine as_iinc (pc := 33) X dX1_countingFix_33 (by decide) (by decide) ?_
  exact as_goto (pc := 36) X 7 dX1_countingFix_36 (by decide) (as_head)
theorem s_X1_countingFix_7 {G : am_G} {bc bs : Nat} (X : am_Cx G cX1_countingFix RX1 "countingFix" rm_X1_countingFix (some .int) 3 bc bs true) : am_S G 7 (t_X1_countingFix_7) := by
  unfold t_X1_countingFix_7
  refine as_iload_n (pc := 7) X dX1_countingFix_7 rfl ?_
  refine as_if_lt (pc := 8) X 39 dX1_countingFix_8 (by decide) (s_X1_countingFix_39 X) ?_
  refine as_aload_n (pc := 11) X dX1_countingFix_11 rfl ?_
  refine as_getR (ci := 1) (j := 11) (pc := 12) X (Cn := RX1) (Tf := TX1) (N := 14) rfl rfl (by decide) iw_X1 aw_75 rfl dX1_countingFix_12 ?_
  refine as_iload_n (pc := 15) X dX1_countingFix_15 rfl ?_
  refine as_iald (pc := 16) X dX1_countingFix_16 ?_
  refine as_iload_n (pc := 17) X dX1_countingFix_17 rfl ?_
  refine as_ic_ne (pc := 18) X 33 dX1_countingFix_18 (by decide) (s_X1_countingFix_33 X) ?_
  refine as_aload_n (pc := 21) X dX1_countingFix_21 rfl ?_
  refine as_getR (ci := 1) (j := 10) (pc := 22) X (Cn := RX1) (Tf := TX1) (N := 14) rfl rfl (by decide) iw_X1 aw_72 rfl dX1_countingFix_22 ?_
  refine as_iload_n (pc := 25) X dX1_countingFix_25 rfl ?_
  refine as_iald (pc := 26) X dX1_countingFix_26 ?_
  refine as_iconst (pc := 27) X dX1_countingFix_27 (by decide) ?_
  refine as_ic_eq (pc := 28) X 33 dX1_countingFix_28 (by decide) (s_X1_countingFix_33 X) ?_
  refine as_iload_n (pc := 31) X dX1_countingFix_31 rfl ?_
  exact as_iret (pc := 32) X ⟨rfl, rfl⟩ rfl dX1_countingFix_32
theorem s_X1_countingFix_0 {G : am_G} {bc bs : Nat} (X : am_Cx G cX1_countingFix RX1 "countingFix" rm_X1_countingFix (some .int) 3 bc bs true) : am_S G 0 (t_X1_countingFix_0) := by
  unfold t_X1_countingFix_0
  refine as_aload_n (pc := 0) X dX1_countingFix_0 rfl ?_
  refine as_getI (ci := 1) (j := 9) (pc := 1) X (Cn := RX1) (Tf := TX1) (N := 14) rfl rfl (by decide) iw_X1 aw_69 rfl dX1_countingFix_1 ?_
  refine as_iconst (pc := 4) X dX1_countingFix_4 (by decide) ?_
  refine as_isub (pc := 5) X dX1_countingFix_5 ?_
  refine as_istore_n (pc := 6) X dX1_countingFix_6 rfl ?_ (by decide)
  exact as_head
theorem s_X1_countingFix {G : am_G} {bc bs : Nat} (X : am_Cx G cX1_countingFix RX1 "countingFix" rm_X1_countingFix (some .int) 3 bc bs true) (h : Nat) : am_S G h (h_X1_countingFix h) := by
  unfold h_X1_countingFix
  split
  · next e => rw [e]; exact s_X1_countingFix_0 X
  split
  · next e => rw [e]; exact s_X1_countingFix_7 X
  exact as_bad
theorem ct_X1_countingFix : am_Ct yX1_countingFix cX1_countingFix 3 (some .int) rm_X1_countingFix sp_X1_countingFix := am_met (own := RX1) (nm := "countingFix") (by decide) rfl rfl (Or.inr (Or.inl rfl)) (fun _ _ => h_X1_countingFix) (fun _ _ _ X => s_X1_countingFix X) (fun _ _ _ _ h => h)
-- X3_isInWindow
theorem dX3_isInWindow_0 : decode cX3_isInWindow 0 = .ok (.aload_n 0, 1) := by decide +kernel
theorem dX3_isInWindow_1 : decode cX3_isInWindow 1 = .ok (.iload_n 1, 1) := by decide +kernel
theorem dX3_isInWindow_2 : decode cX3_isInWindow 2 = .ok (.iload_n 2, 1) := by decide +kernel
theorem dX3_isInWindow_3 : decode cX3_isInWindow 3 = .ok (.invokevirtual 116, 3) := by decide +kernel
theorem dX3_isInWindow_6 : decode cX3_isInWindow 6 = .ok (.aload_n 0, 1) := by decide +kernel
theorem dX3_isInWindow_7 : decode cX3_isInWindow 7 = .ok (.getfield 12, 3) := by decide +kernel
theorem dX3_isInWindow_10 : decode cX3_isInWindow 10 = .ok (.getfield 105, 3) := by decide +kernel
theorem dX3_isInWindow_13 : decode cX3_isInWindow 13 = .ok (.iconst 0, 1) := by decide +kernel
theorem dX3_isInWindow_14 : decode cX3_isInWindow 14 = .ok (.iaload, 1) := by decide +kernel
theorem dX3_isInWindow_15 : decode cX3_isInWindow 15 = .ok (.if_icmp .gt 7, 3) := by decide +kernel
theorem dX3_isInWindow_18 : decode cX3_isInWindow 18 = .ok (.iconst 1, 1) := by decide +kernel
theorem dX3_isInWindow_19 : decode cX3_isInWindow 19 = .ok (.goto 4, 3) := by decide +kernel
theorem dX3_isInWindow_22 : decode cX3_isInWindow 22 = .ok (.iconst 0, 1) := by decide +kernel
theorem dX3_isInWindow_23 : decode cX3_isInWindow 23 = .ok (.ireturn, 1) := by decide +kernel
def t_X3_isInWindow_23 : am_T := tb_zret
def t_X3_isInWindow_22 : am_T := tb_const 0 <|
  t_X3_isInWindow_23
def t_X3_isInWindow_0 : am_T := tb_aload 0 <|
  tb_iload 1 <|
  tb_iload 2 <|
  tb_callV 3 sp_X3_gapOf 3 <|
  tb_aload 0 <|
  tb_getR 3 0 <|
  tb_getR 1 13 <|
  tb_const 0 <|
  tb_iald <|
  tb_ic (fun x y => y < x) (t_X3_isInWindow_22) <|
  tb_const 1 <|
  t_X3_isInWindow_23
def h_X3_isInWindow : am_Hd := fun h => if h = 0 then t_X3_isInWindow_0 else tb_bad
theorem h_X3_isInWindow_0 : h_X3_isInWindow 0 = t_X3_isInWindow_0 := rfl
def rm_X3_isInWindow : Room := { frames := 1, cells := 0, slots := 0, locals := 22 }
def sp_X3_isInWindow : am_sp := fun as M Q => as.length ≤ 3 ∧ am_OK h_X3_isInWindow Q 0 (am_in 3 as) M
theorem s_X3_isInWindow_23 {G : am_G} {bc bs : Nat} (X : am_Cx G cX3_isInWindow RX3 "isInWindow" rm_X3_isInWindow (some .boolean) 3 bc bs true) : am_S G 23 (t_X3_isInWindow_23) := by
  unfold t_X3_isInWindow_23
  exact as_zret (pc := 23) X ⟨rfl, rfl⟩ rfl dX3_isInWindow_23
theorem s_X3_isInWindow_22 {G : am_G} {bc bs : Nat} (X : am_Cx G cX3_isInWindow RX3 "isInWindow" rm_X3_isInWindow (some .boolean) 3 bc bs true) : am_S G 22 (t_X3_isInWindow_22) := by
  unfold t_X3_isInWindow_22
  refine as_iconst (pc := 22) X dX3_isInWindow_22 (by decide) ?_
  exact s_X3_isInWindow_23 X
theorem s_X3_isInWindow_0 {G : am_G} {bc bs : Nat} (X : am_Cx G cX3_isInWindow RX3 "isInWindow" rm_X3_isInWindow (some .boolean) 3 bc bs true) : am_S G 0 (t_X3_isInWindow_0) := by
  unfold t_X3_isInWindow_0
  refine as_aload_n (pc := 0) X dX3_isInWindow_0 rfl ?_
  refine as_iload_n (pc := 1) X dX3_isInWindow_1 rfl ?_
  refine as_iload_n (pc := 2) X dX3_isInWindow_2 rfl ?_
  refine as_callV (ci := 3) (np := 2) (ix := 116) (pc := 3) X ct_X3_gapOf (Cn := (RX3, TX3, 17)) rfl ⟨rfl, rfl⟩ aw_314 aw_315 aw_316 aw_317 aw_18 (by decide +kernel) (by decide) dX3_isInWindow_3 ?_
  refine as_aload_n (pc := 6) X dX3_isInWindow_6 rfl ?_
  refine as_getR (ci := 3) (j := 0) (pc := 7) X (Cn := RX3) (Tf := TX3) (N := 17) rfl rfl (by decide) iw_X3 aw_114 rfl dX3_isInWindow_7 ?_
  refine as_getR (ci := 1) (j := 13) (pc := 10) X (Cn := RX1) (Tf := TX1) (N := 14) rfl rfl (by decide) iw_X1 aw_82 rfl dX3_isInWindow_10 ?_
  refine as_iconst (pc := 13) X dX3_isInWindow_13 (by decide) ?_
  refine as_iald (pc := 14) X dX3_isInWindow_14 ?_
  refine as_ic_gt (pc := 15) X 22 dX3_isInWindow_15 (by decide) (s_X3_isInWindow_22 X) ?_
  refine as_iconst (pc := 18) X dX3_isInWindow_18 (by decide) ?_
  exact as_goto (pc := 19) X 23 dX3_isInWindow_19 (by decide) (s_X3_isInWindow_23 X)
theorem s_X3_isInWindow {G : am_G} {bc bs : Nat} (X : am_Cx G cX3_isInWindow RX3 "isInWindow" rm_X3_isInWindow (some .boolean) 3 bc bs true) (h : Nat) : am_S G h (h_X3_isInWindow h) := by
  unfold h_X3_isInWindow
  split
  · next e => rw [e]; exact s_X3_isInWindow_0 X
  exact as_bad
theorem ct_X3_isInWindow : am_Ct yX3_isInWindow cX3_isInWindow 3 (some .boolean) rm_X3_isInWindow sp_X3_isInWindow := am_met (own := RX3) (nm := "isInWindow") (by decide) rfl rfl (Or.inr (Or.inr (Or.inl rfl))) (fun _ _ => h_X3_isInWindow) (fun _ _ _ X => s_X3_isInWindow X) (fun _ _ _ _ h => h)
-- X3_choicesFor
theorem dX3_choicesFor_0 : decode cX3_choicesFor 0 = .ok (.iconst 0, 1) := by decide +kernel
theorem dX3_choicesFor_1 : decode cX3_choicesFor 1 = .ok (.istore_n 2, 1) := by decide +kernel
theorem dX3_choicesFor_2 : decode cX3_choicesFor 2 = .ok (.iconst 0, 1) := by decide +kernel
theorem dX3_choicesFor_3 : decode cX3_choicesFor 3 = .ok (.istore_n 3, 1) := by decide +kernel
theorem dX3_choicesFor_4 : decode cX3_choicesFor 4 = .ok (.iload_n 3, 1) := by decide +kernel
theorem dX3_choicesFor_5 : decode cX3_choicesFor 5 = .ok (.aload_n 0, 1) := by decide +kernel
theorem dX3_choicesFor_6 : decode cX3_choicesFor 6 = .ok (.getfield 22, 3) := by decide +kernel
theorem dX3_choicesFor_9 : decode cX3_choicesFor 9 = .ok (.iload_n 1, 1) := by decide +kernel
theorem dX3_choicesFor_10 : decode cX3_choicesFor 10 = .ok (.iaload, 1) := by decide +kernel
theorem dX3_choicesFor_11 : decode cX3_choicesFor 11 = .ok (.if_icmp .ge 34, 3) := by decide +kernel
theorem dX3_choicesFor_14 : decode cX3_choicesFor 14 = .ok (.aload_n 0, 1) := by decide +kernel
theorem dX3_choicesFor_15 : decode cX3_choicesFor 15 = .ok (.iload_n 1, 1) := by decide +kernel
theorem dX3_choicesFor_16 : decode cX3_choicesFor 16 = .ok (.aload_n 0, 1) := by decide +kernel
theorem dX3_choicesFor_17 : decode cX3_choicesFor 17 = .ok (.getfield 18, 3) := by decide +kernel
theorem dX3_choicesFor_20 : decode cX3_choicesFor 20 = .ok (.iload_n 3, 1) := by decide +kernel
theorem dX3_choicesFor_21 : decode cX3_choicesFor 21 = .ok (.iaload, 1) := by decide +kernel
theorem dX3_choicesFor_22 : decode cX3_choicesFor 22 = .ok (.invokevirtual 122, 3) := by decide +kernel
theorem dX3_choicesFor_25 : decode cX3_choicesFor 25 = .ok (.ifCond .eq 14, 3) := by decide +kernel
theorem dX3_choicesFor_28 : decode cX3_choicesFor 28 = .ok (.iload_n 2, 1) := by decide +kernel
theorem dX3_choicesFor_29 : decode cX3_choicesFor 29 = .ok (.iconst 1, 1) := by decide +kernel
theorem dX3_choicesFor_30 : decode cX3_choicesFor 30 = .ok (.aload_n 0, 1) := by decide +kernel
theorem dX3_choicesFor_31 : decode cX3_choicesFor 31 = .ok (.getfield 18, 3) := by decide +kernel
theorem dX3_choicesFor_34 : decode cX3_choicesFor 34 = .ok (.iload_n 3, 1) := by decide +kernel
theorem dX3_choicesFor_35 : decode cX3_choicesFor 35 = .ok (.iaload, 1) := by decide +kernel
theorem dX3_choicesFor_36 : decode cX3_choicesFor 36 = .ok (.ishl, 1) := by decide +kernel
theorem dX3_choicesFor_37 : decode cX3_choicesFor 37 = .ok (.ior, 1) := by decide +kernel
theorem dX3_choicesFor_38 : decode cX3_choicesFor 38 = .ok (.istore_n 2, 1) := by decide +kernel
theorem dX3_choicesFor_39 : decode cX3_choicesFor 39 = .ok (.iinc 3 1, 3) := by decide +kernel
theorem dX3_choicesFor_42 : decode cX3_choicesFor 42 = .ok (.goto (-38), 3) := by decide +kernel
theorem dX3_choicesFor_45 : decode cX3_choicesFor 45 = .ok (.iconst 0, 1) := by decide +kernel
theorem dX3_choicesFor_46 : decode cX3_choicesFor 46 = .ok (.istore_n 3, 1) := by decide +kernel
theorem dX3_choicesFor_47 : decode cX3_choicesFor 47 = .ok (.iload_n 3, 1) := by decide +kernel
theorem dX3_choicesFor_48 : decode cX3_choicesFor 48 = .ok (.aload_n 0, 1) := by decide +kernel
theorem dX3_choicesFor_49 : decode cX3_choicesFor 49 = .ok (.getfield 12, 3) := by decide +kernel
theorem dX3_choicesFor_52 : decode cX3_choicesFor 52 = .ok (.getfield 125, 3) := by decide +kernel
theorem dX3_choicesFor_55 : decode cX3_choicesFor 55 = .ok (.if_icmp .ge 51, 3) := by decide +kernel
theorem dX3_choicesFor_58 : decode cX3_choicesFor 58 = .ok (.aload_n 0, 1) := by decide +kernel
theorem dX3_choicesFor_59 : decode cX3_choicesFor 59 = .ok (.getfield 12, 3) := by decide +kernel
theorem dX3_choicesFor_62 : decode cX3_choicesFor 62 = .ok (.getfield 128, 3) := by decide +kernel
theorem dX3_choicesFor_65 : decode cX3_choicesFor 65 = .ok (.iload_n 3, 1) := by decide +kernel
theorem dX3_choicesFor_66 : decode cX3_choicesFor 66 = .ok (.iaload, 1) := by decide +kernel
theorem dX3_choicesFor_67 : decode cX3_choicesFor 67 = .ok (.iconst 2, 1) := by decide +kernel
theorem dX3_choicesFor_68 : decode cX3_choicesFor 68 = .ok (.if_icmp .ne 32, 3) := by decide +kernel
theorem dX3_choicesFor_71 : decode cX3_choicesFor 71 = .ok (.aload_n 0, 1) := by decide +kernel
theorem dX3_choicesFor_72 : decode cX3_choicesFor 72 = .ok (.getfield 12, 3) := by decide +kernel
theorem dX3_choicesFor_75 : decode cX3_choicesFor 75 = .ok (.getfield 131, 3) := by decide +kernel
theorem dX3_choicesFor_78 : decode cX3_choicesFor 78 = .ok (.iload_n 3, 1) := by decide +kernel
theorem dX3_choicesFor_79 : decode cX3_choicesFor 79 = .ok (.iaload, 1) := by decide +kernel
theorem dX3_choicesFor_80 : decode cX3_choicesFor 80 = .ok (.iload_n 1, 1) := by decide +kernel
theorem dX3_choicesFor_81 : decode cX3_choicesFor 81 = .ok (.if_icmp .ne 19, 3) := by decide +kernel
theorem dX3_choicesFor_84 : decode cX3_choicesFor 84 = .ok (.iload_n 2, 1) := by decide +kernel
theorem dX3_choicesFor_85 : decode cX3_choicesFor 85 = .ok (.iconst 1, 1) := by decide +kernel
theorem dX3_choicesFor_86 : decode cX3_choicesFor 86 = .ok (.aload_n 0, 1) := by decide +kernel
theorem dX3_choicesFor_87 : decode cX3_choicesFor 87 = .ok (.getfield 12, 3) := by decide +kernel
theorem dX3_choicesFor_90 : decode cX3_choicesFor 90 = .ok (.getfield 134, 3) := by decide +kernel
theorem dX3_choicesFor_93 : decode cX3_choicesFor 93 = .ok (.iload_n 3, 1) := by decide +kernel
theorem dX3_choicesFor_94 : decode cX3_choicesFor 94 = .ok (.iaload, 1) := by decide +kernel
theorem dX3_choicesFor_95 : decode cX3_choicesFor 95 = .ok (.ishl, 1) := by decide +kernel
theorem dX3_choicesFor_96 : decode cX3_choicesFor 96 = .ok (.iconst (-1), 1) := by decide +kernel
theorem dX3_choicesFor_97 : decode cX3_choicesFor 97 = .ok (.ixor, 1) := by decide +kernel
theorem dX3_choicesFor_98 : decode cX3_choicesFor 98 = .ok (.iand, 1) := by decide +kernel
theorem dX3_choicesFor_99 : decode cX3_choicesFor 99 = .ok (.istore_n 2, 1) := by decide +kernel
theorem dX3_choicesFor_100 : decode cX3_choicesFor 100 = .ok (.iinc 3 1, 3) := by decide +kernel
theorem dX3_choicesFor_103 : decode cX3_choicesFor 103 = .ok (.goto (-56), 3) := by decide +kernel
theorem dX3_choicesFor_106 : decode cX3_choicesFor 106 = .ok (.iload_n 2, 1) := by decide +kernel
theorem dX3_choicesFor_107 : decode cX3_choicesFor 107 = .ok (.ireturn, 1) := by decide +kernel
def t_X3_choicesFor_106 : am_T := tb_iload 2 <|
  tb_iret
def t_X3_choicesFor_100 : am_T := tb_iinc 3 1 <|
  tb_head 47
def t_X3_choicesFor_47 : am_T := tb_iload 3 <|
  tb_aload 0 <|
  tb_getR 3 0 <|
  tb_getI 1 9 <|
  tb_ic (fun x y => y ≤ x) (t_X3_choicesFor_106) <|
  tb_aload 0 <|
  tb_getR 3 0 <|
  tb_getR 1 10 <|
  tb_iload 3 <|
  tb_iald <|
  tb_const 2 <|
  tb_ic (fun x y => x ≠ y) (t_X3_choicesFor_100) <|
  tb_aload 0 <|
  tb_getR 3 0 <|
  tb_getR 1 11 <|
  tb_iload 3 <|
  tb_iald <|
  tb_iload 1 <|
  tb_ic (fun x y => x ≠ y) (t_X3_choicesFor_100) <|
  tb_iload 2 <|
  tb_const 1 <|
  tb_aload 0 <|
  tb_getR 3 0 <|
  tb_getR 1 12 <|
  tb_iload 3 <|
  tb_iald <|
  tb_bin (fun x y => x <<< (y &&& 31)) <|
  tb_const (-1) <|
  tb_bin (fun x y => x ^^^ y) <|
  tb_bin (fun x y => x &&& y) <|
  tb_istore 2 <|
  t_X3_choicesFor_100
def t_X3_choicesFor_45 : am_T := tb_const 0 <|
  tb_istore 3 <|
  tb_head 47
def t_X3_choicesFor_39 : am_T := tb_iinc 3 1 <|
  tb_head 4
def t_X3_choicesFor_4 : am_T := tb_iload 3 <|
  tb_aload 0 <|
  tb_getR 3 2 <|
  tb_iload 1 <|
  tb_iald <|
  tb_ic (fun x y => y ≤ x) (t_X3_choicesFor_45) <|
  tb_aload 0 <|
  tb_iload 1 <|
  tb_aload 0 <|
  tb_getR 3 1 <|
  tb_iload 3 <|
  tb_iald <|
  tb_callV 3 sp_X3_isInWindow 3 <|
  tb_if (fun x => x = 0) (t_X3_choicesFor_39) <|
  tb_iload 2 <|
  tb_const 1 <|
  tb_aload 0 <|
  tb_getR 3 1 <|
  tb_iload 3 <|
  tb_iald <|
  tb_bin (fun x y => x <<< (y &&& 31)) <|
  tb_bin (fun x y => x ||| y) <|
  tb_istore 2 <|
  t_X3_choicesFor_39
def t_X3_choicesFor_0 : am_T := tb_const 0 <|
  tb_istore 2 <|
  tb_const 0 <|
  tb_istore 3 <|
  tb_head 4
def h_X3_choicesFor : am_Hd := fun h => if h = 0 then t_X3_choicesFor_0 else if h = 4 then t_X3_choicesFor_4 else if h = 47 then t_X3_choicesFor_47 else tb_bad
theorem h_X3_choicesFor_0 : h_X3_choicesFor 0 = t_X3_choicesFor_0 := rfl
theorem h_X3_choicesFor_4 : h_X3_choicesFor 4 = t_X3_choicesFor_4 := rfl
theorem h_X3_choicesFor_47 : h_X3_choicesFor 47 = t_X3_choicesFor_47 := rfl
def rm_X3_choicesFor : Room := { frames := 2, cells := 0, slots := 0, locals := 44 }
def sp_X3_choicesFor : am_sp := fun as M Q => as.length ≤ 4 ∧ am_OK h_X3_choicesFor Q 0 (am_in 4 as) M
theorem s_X3_choicesFor_106 {G : am_G} {bc bs : Nat} (X : am_Cx G cX3_choicesFor RX3 "choicesFor" rm_X3_choicesFor (some .int) 4 bc bs true) : am_S G 106 (t_X3_choicesFor_106) := by
  unfold t_X3_choicesFor_106
  refine as_iload_n (pc := 106) X dX3_choicesFor_106 rfl ?_
  exact as_iret (pc := 107) X ⟨rfl, rfl⟩ rfl dX3_choicesFor_107
theorem s_X3_choicesFor_100 {G : am_G} {bc bs : Nat} (X : am_Cx G cX3_choicesFor RX3 "choicesFor" rm_X3_choicesFor (some .int) 4 bc bs true) : am_S G 100 (t_X3_choicesFor_100) := by
  unfold t_X3_choicesFor_100
  refine as_iinc (pc := 100) X dX3_choicesFor_100 (by decide) (by decide) ?_
  exact as_goto (pc := 103) X 47 dX3_choicesFor_103 (by decide) (as_head)
theorem s_X3_choicesFor_47 {G : am_G} {bc bs : Nat} (X : am_Cx G cX3_choicesFor RX3 "choicesFor" rm_X3_choicesFor (some .int) 4 bc bs true) : am_S G 47 (t_X3_choicesFor_47) := by
  unfold t_X3_choicesFor_47
  refine as_iload_n (pc := 47) X dX3_choicesFor_47 rfl ?_
  refine as_aload_n (pc := 48) X dX3_choicesFor_48 rfl ?_
  refine as_getR (ci := 3) (j := 0) (pc := 49) X (Cn := RX3) (Tf := TX3) (N := 17) rfl rfl (by decide) iw_X3 aw_114 rfl dX3_choicesFor_49 ?_
  refine as_getI (ci := 1) (j := 9) (pc := 52) X (Cn := RX1) (Tf := TX1) (N := 14) rfl rfl (by decide) iw_X1 aw_71 rfl dX3_choicesFor_52 ?_
  refine as_ic_ge (pc := 55) X 106 dX3_choicesFor_55 (by decide) (s_X3_choicesFor_106 X) ?_
  refine as_aload_n (pc := 58) X dX3_choicesFor_58 rfl ?_
  refine as_getR (ci := 3) (j := 0) (pc := 59) X (Cn := RX3) (Tf := TX3) (N := 17) rfl rfl (by decide) iw_X3 aw_114 rfl dX3_choicesFor_59 ?_
  refine as_getR (ci := 1) (j := 10) (pc := 62) X (Cn := RX1) (Tf := TX1) (N := 14) rfl rfl (by decide) iw_X1 aw_73 rfl dX3_choicesFor_62 ?_
  refine as_iload_n (pc := 65) X dX3_choicesFor_65 rfl ?_
  refine as_iald (pc := 66) X dX3_choicesFor_66 ?_
  refine as_iconst (pc := 67) X dX3_choicesFor_67 (by decide) ?_
  refine as_ic_ne (pc := 68) X 100 dX3_choicesFor_68 (by decide) (s_X3_choicesFor_100 X) ?_
  refine as_aload_n (pc := 71) X dX3_choicesFor_71 rfl ?_
  refine as_getR (ci := 3) (j := 0) (pc := 72) X (Cn := RX3) (Tf := TX3) (N := 17) rfl rfl (by decide) iw_X3 aw_114 rfl dX3_choicesFor_72 ?_
  refine as_getR (ci := 1) (j := 11) (pc := 75) X (Cn := RX1) (Tf := TX1) (N := 14) rfl rfl (by decide) iw_X1 aw_76 rfl dX3_choicesFor_75 ?_
  refine as_iload_n (pc := 78) X dX3_choicesFor_78 rfl ?_
  refine as_iald (pc := 79) X dX3_choicesFor_79 ?_
  refine as_iload_n (pc := 80) X dX3_choicesFor_80 rfl ?_
  refine as_ic_ne (pc := 81) X 100 dX3_choicesFor_81 (by decide) (s_X3_choicesFor_100 X) ?_
  refine as_iload_n (pc := 84) X dX3_choicesFor_84 rfl ?_
  refine as_iconst (pc := 85) X dX3_choicesFor_85 (by decide) ?_
  refine as_aload_n (pc := 86) X dX3_choicesFor_86 rfl ?_
  refine as_getR (ci := 3) (j := 0) (pc := 87) X (Cn := RX3) (Tf := TX3) (N := 17) rfl rfl (by decide) iw_X3 aw_114 rfl dX3_choicesFor_87 ?_
  refine as_getR (ci := 1) (j := 12) (pc := 90) X (Cn := RX1) (Tf := TX1) (N := 14) rfl rfl (by decide) iw_X1 aw_79 rfl dX3_choicesFor_90 ?_
  refine as_iload_n (pc := 93) X dX3_choicesFor_93 rfl ?_
  refine as_iald (pc := 94) X dX3_choicesFor_94 ?_
  refine as_ishl (pc := 95) X dX3_choicesFor_95 ?_
  refine as_iconst (pc := 96) X dX3_choicesFor_96 (by decide) ?_
  refine as_ixor (pc := 97) X dX3_choicesFor_97 ?_
  refine as_iand (pc := 98) X dX3_choicesFor_98 ?_
  refine as_istore_n (pc := 99) X dX3_choicesFor_99 rfl ?_ (by decide)
  exact s_X3_choicesFor_100 X
theorem s_X3_choicesFor_45 {G : am_G} {bc bs : Nat} (X : am_Cx G cX3_choicesFor RX3 "choicesFor" rm_X3_choicesFor (some .int) 4 bc bs true) : am_S G 45 (t_X3_choicesFor_45) := by
  unfold t_X3_choicesFor_45
  refine as_iconst (pc := 45) X dX3_choicesFor_45 (by decide) ?_
  refine as_istore_n (pc := 46) X dX3_choicesFor_46 rfl ?_ (by decide)
  exact as_head
theorem s_X3_choicesFor_39 {G : am_G} {bc bs : Nat} (X : am_Cx G cX3_choicesFor RX3 "choicesFor" rm_X3_choicesFor (some .int) 4 bc bs true) : am_S G 39 (t_X3_choicesFor_39) := by
  unfold t_X3_choicesFor_39
  refine as_iinc (pc := 39) X dX3_choicesFor_39 (by decide) (by decide) ?_
  exact as_goto (pc := 42) X 4 dX3_choicesFor_42 (by decide) (as_head)
theorem s_X3_choicesFor_4 {G : am_G} {bc bs : Nat} (X : am_Cx G cX3_choicesFor RX3 "choicesFor" rm_X3_choicesFor (some .int) 4 bc bs true) : am_S G 4 (t_X3_choicesFor_4) := by
  unfold t_X3_choicesFor_4
  refine as_iload_n (pc := 4) X dX3_choicesFor_4 rfl ?_
  refine as_aload_n (pc := 5) X dX3_choicesFor_5 rfl ?_
  refine as_getR (ci := 3) (j := 2) (pc := 6) X (Cn := RX3) (Tf := TX3) (N := 17) rfl rfl (by decide) iw_X3 aw_118 rfl dX3_choicesFor_6 ?_
  refine as_iload_n (pc := 9) X dX3_choicesFor_9 rfl ?_
  refine as_iald (pc := 10) X dX3_choicesFor_10 ?_
  refine as_ic_ge (pc := 11) X 45 dX3_choicesFor_11 (by decide) (s_X3_choicesFor_45 X) ?_
  refine as_aload_n (pc := 14) X dX3_choicesFor_14 rfl ?_
  refine as_iload_n (pc := 15) X dX3_choicesFor_15 rfl ?_
  refine as_aload_n (pc := 16) X dX3_choicesFor_16 rfl ?_
  refine as_getR (ci := 3) (j := 1) (pc := 17) X (Cn := RX3) (Tf := TX3) (N := 17) rfl rfl (by decide) iw_X3 aw_116 rfl dX3_choicesFor_17 ?_
  refine as_iload_n (pc := 20) X dX3_choicesFor_20 rfl ?_
  refine as_iald (pc := 21) X dX3_choicesFor_21 ?_
  refine as_callV (ci := 3) (np := 2) (ix := 122) (pc := 22) X ct_X3_isInWindow (Cn := (RX3, TX3, 17)) rfl ⟨rfl, rfl⟩ aw_326 aw_328 aw_5 aw_329 aw_18 (by decide +kernel) (by decide) dX3_choicesFor_22 ?_
  refine as_if_eq (pc := 25) X 39 dX3_choicesFor_25 (by decide) (s_X3_choicesFor_39 X) ?_
  refine as_iload_n (pc := 28) X dX3_choicesFor_28 rfl ?_
  refine as_iconst (pc := 29) X dX3_choicesFor_29 (by decide) ?_
  refine as_aload_n (pc := 30) X dX3_choicesFor_30 rfl ?_
  refine as_getR (ci := 3) (j := 1) (pc := 31) X (Cn := RX3) (Tf := TX3) (N := 17) rfl rfl (by decide) iw_X3 aw_116 rfl dX3_choicesFor_31 ?_
  refine as_iload_n (pc := 34) X dX3_choicesFor_34 rfl ?_
  refine as_iald (pc := 35) X dX3_choicesFor_35 ?_
  refine as_ishl (pc := 36) X dX3_choicesFor_36 ?_
  refine as_ior (pc := 37) X dX3_choicesFor_37 ?_
  refine as_istore_n (pc := 38) X dX3_choicesFor_38 rfl ?_ (by decide)
  exact s_X3_choicesFor_39 X
theorem s_X3_choicesFor_0 {G : am_G} {bc bs : Nat} (X : am_Cx G cX3_choicesFor RX3 "choicesFor" rm_X3_choicesFor (some .int) 4 bc bs true) : am_S G 0 (t_X3_choicesFor_0) := by
  unfold t_X3_choicesFor_0
  refine as_iconst (pc := 0) X dX3_choicesFor_0 (by decide) ?_
  refine as_istore_n (pc := 1) X dX3_choicesFor_1 rfl ?_ (by decide)
  refine as_iconst (pc := 2) X dX3_choicesFor_2 (by decide) ?_
  refine as_istore_n (pc := 3) X dX3_choicesFor_3 rfl ?_ (by decide)
  exact as_head
theorem s_X3_choicesFor {G : am_G} {bc bs : Nat} (X : am_Cx G cX3_choicesFor RX3 "choicesFor" rm_X3_choicesFor (some .int) 4 bc bs true) (h : Nat) : am_S G h (h_X3_choicesFor h) := by
  unfold h_X3_choicesFor
  split
  · next e => rw [e]; exact s_X3_choicesFor_0 X
  split
  · next e => rw [e]; exact s_X3_choicesFor_4 X
  split
  · next e => rw [e]; exact s_X3_choicesFor_47 X
  exact as_bad
theorem ct_X3_choicesFor : am_Ct yX3_choicesFor cX3_choicesFor 4 (some .int) rm_X3_choicesFor sp_X3_choicesFor := am_met (own := RX3) (nm := "choicesFor") (by decide) rfl rfl (Or.inr (Or.inl rfl)) (fun _ _ => h_X3_choicesFor) (fun _ _ _ X => s_X3_choicesFor X) (fun _ _ _ _ h => h)
-- X3_scoreFor
theorem dX3_scoreFor_0 : decode cX3_scoreFor 0 = .ok (.aload_n 0, 1) := by decide +kernel
theorem dX3_scoreFor_1 : decode cX3_scoreFor 1 = .ok (.getfield 28, 3) := by decide +kernel
theorem dX3_scoreFor_4 : decode cX3_scoreFor 4 = .ok (.iload_n 1, 1) := by decide +kernel
theorem dX3_scoreFor_5 : decode cX3_scoreFor 5 = .ok (.bipush 30, 2) := by decide +kernel
theorem dX3_scoreFor_7 : decode cX3_scoreFor 7 = .ok (.imul, 1) := by decide +kernel
theorem dX3_scoreFor_8 : decode cX3_scoreFor 8 = .ok (.iload_n 2, 1) := by decide +kernel
theorem dX3_scoreFor_9 : decode cX3_scoreFor 9 = .ok (.iadd, 1) := by decide +kernel
theorem dX3_scoreFor_10 : decode cX3_scoreFor 10 = .ok (.iaload, 1) := by decide +kernel
theorem dX3_scoreFor_11 : decode cX3_scoreFor 11 = .ok (.ireturn, 1) := by decide +kernel
def t_X3_scoreFor_0 : am_T := tb_aload 0 <|
  tb_getR 3 4 <|
  tb_iload 1 <|
  tb_const 30 <|
  tb_bin (fun x y => x * y) <|
  tb_iload 2 <|
  tb_bin (fun x y => x + y) <|
  tb_iald <|
  tb_iret
def h_X3_scoreFor : am_Hd := fun h => if h = 0 then t_X3_scoreFor_0 else tb_bad
theorem h_X3_scoreFor_0 : h_X3_scoreFor 0 = t_X3_scoreFor_0 := rfl
def rm_X3_scoreFor : Room := { frames := 0, cells := 0, slots := 0, locals := 0 }
def sp_X3_scoreFor : am_sp := fun as M Q => as.length ≤ 3 ∧ am_OK h_X3_scoreFor Q 0 (am_in 3 as) M
theorem s_X3_scoreFor_0 {G : am_G} {bc bs : Nat} (X : am_Cx G cX3_scoreFor RX3 "scoreFor" rm_X3_scoreFor (some .int) 3 bc bs true) : am_S G 0 (t_X3_scoreFor_0) := by
  unfold t_X3_scoreFor_0
  refine as_aload_n (pc := 0) X dX3_scoreFor_0 rfl ?_
  refine as_getR (ci := 3) (j := 4) (pc := 1) X (Cn := RX3) (Tf := TX3) (N := 17) rfl rfl (by decide) iw_X3 aw_122 rfl dX3_scoreFor_1 ?_
  refine as_iload_n (pc := 4) X dX3_scoreFor_4 rfl ?_
  refine as_bipush (pc := 5) X dX3_scoreFor_5 (by decide) ?_
  refine as_imul (pc := 7) X dX3_scoreFor_7 ?_
  refine as_iload_n (pc := 8) X dX3_scoreFor_8 rfl ?_
  refine as_iadd (pc := 9) X dX3_scoreFor_9 ?_
  refine as_iald (pc := 10) X dX3_scoreFor_10 ?_
  exact as_iret (pc := 11) X ⟨rfl, rfl⟩ rfl dX3_scoreFor_11
theorem s_X3_scoreFor {G : am_G} {bc bs : Nat} (X : am_Cx G cX3_scoreFor RX3 "scoreFor" rm_X3_scoreFor (some .int) 3 bc bs true) (h : Nat) : am_S G h (h_X3_scoreFor h) := by
  unfold h_X3_scoreFor
  split
  · next e => rw [e]; exact s_X3_scoreFor_0 X
  exact as_bad
theorem ct_X3_scoreFor : am_Ct yX3_scoreFor cX3_scoreFor 3 (some .int) rm_X3_scoreFor sp_X3_scoreFor := am_met (own := RX3) (nm := "scoreFor") (by decide) rfl rfl (Or.inr (Or.inl rfl)) (fun _ _ => h_X3_scoreFor) (fun _ _ _ X => s_X3_scoreFor X) (fun _ _ _ _ h => h)
-- X3_bestOf
theorem dX3_bestOf_0 : decode cX3_bestOf 0 = .ok (.iconst (-1), 1) := by decide +kernel
theorem dX3_bestOf_1 : decode cX3_bestOf 1 = .ok (.istore_n 3, 1) := by decide +kernel
theorem dX3_bestOf_2 : decode cX3_bestOf 2 = .ok (.iconst 0, 1) := by decide +kernel
theorem dX3_bestOf_3 : decode cX3_bestOf 3 = .ok (.istore 4, 2) := by decide +kernel
theorem dX3_bestOf_5 : decode cX3_bestOf 5 = .ok (.iload 4, 2) := by decide +kernel
theorem dX3_bestOf_7 : decode cX3_bestOf 7 = .ok (.aload_n 0, 1) := by decide +kernel
theorem dX3_bestOf_8 : decode cX3_bestOf 8 = .ok (.getfield 22, 3) := by decide +kernel
theorem dX3_bestOf_11 : decode cX3_bestOf 11 = .ok (.iload_n 2, 1) := by decide +kernel
theorem dX3_bestOf_12 : decode cX3_bestOf 12 = .ok (.iaload, 1) := by decide +kernel
theorem dX3_bestOf_13 : decode cX3_bestOf 13 = .ok (.if_icmp .ge 51, 3) := by decide +kernel
theorem dX3_bestOf_16 : decode cX3_bestOf 16 = .ok (.aload_n 0, 1) := by decide +kernel
theorem dX3_bestOf_17 : decode cX3_bestOf 17 = .ok (.getfield 18, 3) := by decide +kernel
theorem dX3_bestOf_20 : decode cX3_bestOf 20 = .ok (.iload 4, 2) := by decide +kernel
theorem dX3_bestOf_22 : decode cX3_bestOf 22 = .ok (.iaload, 1) := by decide +kernel
theorem dX3_bestOf_23 : decode cX3_bestOf 23 = .ok (.istore 5, 2) := by decide +kernel
theorem dX3_bestOf_25 : decode cX3_bestOf 25 = .ok (.iload_n 1, 1) := by decide +kernel
theorem dX3_bestOf_26 : decode cX3_bestOf 26 = .ok (.iload 5, 2) := by decide +kernel
theorem dX3_bestOf_28 : decode cX3_bestOf 28 = .ok (.invokestatic 119, 3) := by decide +kernel
theorem dX3_bestOf_31 : decode cX3_bestOf 31 = .ok (.ifCond .eq 27, 3) := by decide +kernel
theorem dX3_bestOf_34 : decode cX3_bestOf 34 = .ok (.iload_n 3, 1) := by decide +kernel
theorem dX3_bestOf_35 : decode cX3_bestOf 35 = .ok (.iconst (-1), 1) := by decide +kernel
theorem dX3_bestOf_36 : decode cX3_bestOf 36 = .ok (.if_icmp .eq 19, 3) := by decide +kernel
theorem dX3_bestOf_39 : decode cX3_bestOf 39 = .ok (.aload_n 0, 1) := by decide +kernel
theorem dX3_bestOf_40 : decode cX3_bestOf 40 = .ok (.iload_n 2, 1) := by decide +kernel
theorem dX3_bestOf_41 : decode cX3_bestOf 41 = .ok (.iload 5, 2) := by decide +kernel
theorem dX3_bestOf_43 : decode cX3_bestOf 43 = .ok (.invokevirtual 137, 3) := by decide +kernel
theorem dX3_bestOf_46 : decode cX3_bestOf 46 = .ok (.aload_n 0, 1) := by decide +kernel
theorem dX3_bestOf_47 : decode cX3_bestOf 47 = .ok (.iload_n 2, 1) := by decide +kernel
theorem dX3_bestOf_48 : decode cX3_bestOf 48 = .ok (.iload_n 3, 1) := by decide +kernel
theorem dX3_bestOf_49 : decode cX3_bestOf 49 = .ok (.invokevirtual 137, 3) := by decide +kernel
theorem dX3_bestOf_52 : decode cX3_bestOf 52 = .ok (.if_icmp .lt 6, 3) := by decide +kernel
theorem dX3_bestOf_55 : decode cX3_bestOf 55 = .ok (.iload 5, 2) := by decide +kernel
theorem dX3_bestOf_57 : decode cX3_bestOf 57 = .ok (.istore_n 3, 1) := by decide +kernel
theorem dX3_bestOf_58 : decode cX3_bestOf 58 = .ok (.iinc 4 1, 3) := by decide +kernel
theorem dX3_bestOf_61 : decode cX3_bestOf 61 = .ok (.goto (-56), 3) := by decide +kernel
theorem dX3_bestOf_64 : decode cX3_bestOf 64 = .ok (.iload_n 3, 1) := by decide +kernel
theorem dX3_bestOf_65 : decode cX3_bestOf 65 = .ok (.ireturn, 1) := by decide +kernel
def t_X3_bestOf_64 : am_T := tb_iload 3 <|
  tb_iret
def t_X3_bestOf_58 : am_T := tb_iinc 4 1 <|
  tb_head 5
def t_X3_bestOf_55 : am_T := tb_iload 5 <|
  tb_istore 3 <|
  t_X3_bestOf_58
def t_X3_bestOf_5 : am_T := tb_iload 4 <|
  tb_aload 0 <|
  tb_getR 3 2 <|
  tb_iload 2 <|
  tb_iald <|
  tb_ic (fun x y => y ≤ x) (t_X3_bestOf_64) <|
  tb_aload 0 <|
  tb_getR 3 1 <|
  tb_iload 4 <|
  tb_iald <|
  tb_istore 5 <|
  tb_iload 1 <|
  tb_iload 5 <|
  tb_callS sp_X4_isIn 2 <|
  tb_if (fun x => x = 0) (t_X3_bestOf_58) <|
  tb_iload 3 <|
  tb_const (-1) <|
  tb_ic (fun x y => x = y) (t_X3_bestOf_55) <|
  tb_aload 0 <|
  tb_iload 2 <|
  tb_iload 5 <|
  tb_callV 3 sp_X3_scoreFor 3 <|
  tb_aload 0 <|
  tb_iload 2 <|
  tb_iload 3 <|
  tb_callV 3 sp_X3_scoreFor 3 <|
  tb_ic (fun x y => x < y) (t_X3_bestOf_58) <|
  t_X3_bestOf_55
def t_X3_bestOf_0 : am_T := tb_const (-1) <|
  tb_istore 3 <|
  tb_const 0 <|
  tb_istore 4 <|
  tb_head 5
def h_X3_bestOf : am_Hd := fun h => if h = 0 then t_X3_bestOf_0 else if h = 5 then t_X3_bestOf_5 else tb_bad
theorem h_X3_bestOf_0 : h_X3_bestOf 0 = t_X3_bestOf_0 := rfl
theorem h_X3_bestOf_5 : h_X3_bestOf 5 = t_X3_bestOf_5 := rfl
def rm_X3_bestOf : Room := { frames := 1, cells := 0, slots := 0, locals := 22 }
def sp_X3_bestOf : am_sp := fun as M Q => as.length ≤ 6 ∧ am_OK h_X3_bestOf Q 0 (am_in 6 as) M
theorem s_X3_bestOf_64 {G : am_G} {bc bs : Nat} (X : am_Cx G cX3_bestOf RX3 "bestOf" rm_X3_bestOf (some .int) 6 bc bs true) : am_S G 64 (t_X3_bestOf_64) := by
  unfold t_X3_bestOf_64
  refine as_iload_n (pc := 64) X dX3_bestOf_64 rfl ?_
  exact as_iret (pc := 65) X ⟨rfl, rfl⟩ rfl dX3_bestOf_65
theorem s_X3_bestOf_58 {G : am_G} {bc bs : Nat} (X : am_Cx G cX3_bestOf RX3 "bestOf" rm_X3_bestOf (some .int) 6 bc bs true) : am_S G 58 (t_X3_bestOf_58) := by
  unfold t_X3_bestOf_58
  refine as_iinc (pc := 58) X dX3_bestOf_58 (by decide) (by decide) ?_
  exact as_goto (pc := 61) X 5 dX3_bestOf_61 (by decide) (as_head)
theorem s_X3_bestOf_55 {G : am_G} {bc bs : Nat} (X : am_Cx G cX3_bestOf RX3 "bestOf" rm_X3_bestOf (some .int) 6 bc bs true) : am_S G 55 (t_X3_bestOf_55) := by
  unfold t_X3_bestOf_55
  refine as_iload (pc := 55) X dX3_bestOf_55 ?_
  refine as_istore_n (pc := 57) X dX3_bestOf_57 rfl ?_ (by decide)
  exact s_X3_bestOf_58 X
theorem s_X3_bestOf_5 {G : am_G} {bc bs : Nat} (X : am_Cx G cX3_bestOf RX3 "bestOf" rm_X3_bestOf (some .int) 6 bc bs true) : am_S G 5 (t_X3_bestOf_5) := by
  unfold t_X3_bestOf_5
  refine as_iload (pc := 5) X dX3_bestOf_5 ?_
  refine as_aload_n (pc := 7) X dX3_bestOf_7 rfl ?_
  refine as_getR (ci := 3) (j := 2) (pc := 8) X (Cn := RX3) (Tf := TX3) (N := 17) rfl rfl (by decide) iw_X3 aw_118 rfl dX3_bestOf_8 ?_
  refine as_iload_n (pc := 11) X dX3_bestOf_11 rfl ?_
  refine as_iald (pc := 12) X dX3_bestOf_12 ?_
  refine as_ic_ge (pc := 13) X 64 dX3_bestOf_13 (by decide) (s_X3_bestOf_64 X) ?_
  refine as_aload_n (pc := 16) X dX3_bestOf_16 rfl ?_
  refine as_getR (ci := 3) (j := 1) (pc := 17) X (Cn := RX3) (Tf := TX3) (N := 17) rfl rfl (by decide) iw_X3 aw_116 rfl dX3_bestOf_17 ?_
  refine as_iload (pc := 20) X dX3_bestOf_20 ?_
  refine as_iald (pc := 22) X dX3_bestOf_22 ?_
  refine as_istore (pc := 23) X dX3_bestOf_23 ?_ (by decide)
  refine as_iload_n (pc := 25) X dX3_bestOf_25 rfl ?_
  refine as_iload (pc := 26) X dX3_bestOf_26 ?_
  refine as_callSN (np := 2) (ix := 119) (pc := 28) X ct_X4_isIn ⟨rfl, rfl⟩ (host := RX4) (by simp [am_NW]) aw_297 aw_298 aw_17 (by decide +kernel) (by decide) dX3_bestOf_28 ?_
  refine as_if_eq (pc := 31) X 58 dX3_bestOf_31 (by decide) (s_X3_bestOf_58 X) ?_
  refine as_iload_n (pc := 34) X dX3_bestOf_34 rfl ?_
  refine as_iconst (pc := 35) X dX3_bestOf_35 (by decide) ?_
  refine as_ic_eq (pc := 36) X 55 dX3_bestOf_36 (by decide) (s_X3_bestOf_55 X) ?_
  refine as_aload_n (pc := 39) X dX3_bestOf_39 rfl ?_
  refine as_iload_n (pc := 40) X dX3_bestOf_40 rfl ?_
  refine as_iload (pc := 41) X dX3_bestOf_41 ?_
  refine as_callV (ci := 3) (np := 2) (ix := 137) (pc := 43) X ct_X3_scoreFor (Cn := (RX3, TX3, 17)) rfl ⟨rfl, rfl⟩ aw_334 aw_335 aw_336 aw_337 aw_18 (by decide +kernel) (by decide) dX3_bestOf_43 ?_
  refine as_aload_n (pc := 46) X dX3_bestOf_46 rfl ?_
  refine as_iload_n (pc := 47) X dX3_bestOf_47 rfl ?_
  refine as_iload_n (pc := 48) X dX3_bestOf_48 rfl ?_
  refine as_callV (ci := 3) (np := 2) (ix := 137) (pc := 49) X ct_X3_scoreFor (Cn := (RX3, TX3, 17)) rfl ⟨rfl, rfl⟩ aw_334 aw_335 aw_336 aw_337 aw_18 (by decide +kernel) (by decide) dX3_bestOf_49 ?_
  refine as_ic_lt (pc := 52) X 58 dX3_bestOf_52 (by decide) (s_X3_bestOf_58 X) ?_
  exact s_X3_bestOf_55 X
theorem s_X3_bestOf_0 {G : am_G} {bc bs : Nat} (X : am_Cx G cX3_bestOf RX3 "bestOf" rm_X3_bestOf (some .int) 6 bc bs true) : am_S G 0 (t_X3_bestOf_0) := by
  unfold t_X3_bestOf_0
  refine as_iconst (pc := 0) X dX3_bestOf_0 (by decide) ?_
  refine as_istore_n (pc := 1) X dX3_bestOf_1 rfl ?_ (by decide)
  refine as_iconst (pc := 2) X dX3_bestOf_2 (by decide) ?_
  refine as_istore (pc := 3) X dX3_bestOf_3 ?_ (by decide)
  exact as_head
theorem s_X3_bestOf {G : am_G} {bc bs : Nat} (X : am_Cx G cX3_bestOf RX3 "bestOf" rm_X3_bestOf (some .int) 6 bc bs true) (h : Nat) : am_S G h (h_X3_bestOf h) := by
  unfold h_X3_bestOf
  split
  · next e => rw [e]; exact s_X3_bestOf_0 X
  split
  · next e => rw [e]; exact s_X3_bestOf_5 X
  exact as_bad
theorem ct_X3_bestOf : am_Ct yX3_bestOf cX3_bestOf 6 (some .int) rm_X3_bestOf sp_X3_bestOf := am_met (own := RX3) (nm := "bestOf") (by decide) rfl rfl (Or.inr (Or.inl rfl)) (fun _ _ => h_X3_bestOf) (fun _ _ _ X => s_X3_bestOf X) (fun _ _ _ _ h => h)
-- X3_rivalsFor
theorem dX3_rivalsFor_0 : decode cX3_rivalsFor 0 = .ok (.aload_n 0, 1) := by decide +kernel
theorem dX3_rivalsFor_1 : decode cX3_rivalsFor 1 = .ok (.getfield 37, 3) := by decide +kernel
theorem dX3_rivalsFor_4 : decode cX3_rivalsFor 4 = .ok (.iload_n 1, 1) := by decide +kernel
theorem dX3_rivalsFor_5 : decode cX3_rivalsFor 5 = .ok (.iaload, 1) := by decide +kernel
theorem dX3_rivalsFor_6 : decode cX3_rivalsFor 6 = .ok (.istore_n 2, 1) := by decide +kernel
theorem dX3_rivalsFor_7 : decode cX3_rivalsFor 7 = .ok (.iload_n 2, 1) := by decide +kernel
theorem dX3_rivalsFor_8 : decode cX3_rivalsFor 8 = .ok (.iconst (-1), 1) := by decide +kernel
theorem dX3_rivalsFor_9 : decode cX3_rivalsFor 9 = .ok (.if_icmp .eq 20, 3) := by decide +kernel
theorem dX3_rivalsFor_12 : decode cX3_rivalsFor 12 = .ok (.aload_n 0, 1) := by decide +kernel
theorem dX3_rivalsFor_13 : decode cX3_rivalsFor 13 = .ok (.iload_n 1, 1) := by decide +kernel
theorem dX3_rivalsFor_14 : decode cX3_rivalsFor 14 = .ok (.aload_n 0, 1) := by decide +kernel
theorem dX3_rivalsFor_15 : decode cX3_rivalsFor 15 = .ok (.getfield 12, 3) := by decide +kernel
theorem dX3_rivalsFor_18 : decode cX3_rivalsFor 18 = .ok (.getfield 98, 3) := by decide +kernel
theorem dX3_rivalsFor_21 : decode cX3_rivalsFor 21 = .ok (.iload_n 2, 1) := by decide +kernel
theorem dX3_rivalsFor_22 : decode cX3_rivalsFor 22 = .ok (.iaload, 1) := by decide +kernel
theorem dX3_rivalsFor_23 : decode cX3_rivalsFor 23 = .ok (.invokevirtual 101, 3) := by decide +kernel
theorem dX3_rivalsFor_26 : decode cX3_rivalsFor 26 = .ok (.ifCond .ne 5, 3) := by decide +kernel
theorem dX3_rivalsFor_29 : decode cX3_rivalsFor 29 = .ok (.iconst 0, 1) := by decide +kernel
theorem dX3_rivalsFor_30 : decode cX3_rivalsFor 30 = .ok (.ireturn, 1) := by decide +kernel
theorem dX3_rivalsFor_31 : decode cX3_rivalsFor 31 = .ok (.aload_n 0, 1) := by decide +kernel
theorem dX3_rivalsFor_32 : decode cX3_rivalsFor 32 = .ok (.iload_n 1, 1) := by decide +kernel
theorem dX3_rivalsFor_33 : decode cX3_rivalsFor 33 = .ok (.iload_n 2, 1) := by decide +kernel
theorem dX3_rivalsFor_34 : decode cX3_rivalsFor 34 = .ok (.invokevirtual 137, 3) := by decide +kernel
theorem dX3_rivalsFor_37 : decode cX3_rivalsFor 37 = .ok (.aload_n 0, 1) := by decide +kernel
theorem dX3_rivalsFor_38 : decode cX3_rivalsFor 38 = .ok (.getfield 12, 3) := by decide +kernel
theorem dX3_rivalsFor_41 : decode cX3_rivalsFor 41 = .ok (.getfield 105, 3) := by decide +kernel
theorem dX3_rivalsFor_44 : decode cX3_rivalsFor 44 = .ok (.bipush 7, 2) := by decide +kernel
theorem dX3_rivalsFor_46 : decode cX3_rivalsFor 46 = .ok (.iaload, 1) := by decide +kernel
theorem dX3_rivalsFor_47 : decode cX3_rivalsFor 47 = .ok (.isub, 1) := by decide +kernel
theorem dX3_rivalsFor_48 : decode cX3_rivalsFor 48 = .ok (.istore_n 3, 1) := by decide +kernel
theorem dX3_rivalsFor_49 : decode cX3_rivalsFor 49 = .ok (.iconst 0, 1) := by decide +kernel
theorem dX3_rivalsFor_50 : decode cX3_rivalsFor 50 = .ok (.istore 4, 2) := by decide +kernel
theorem dX3_rivalsFor_52 : decode cX3_rivalsFor 52 = .ok (.iconst 0, 1) := by decide +kernel
theorem dX3_rivalsFor_53 : decode cX3_rivalsFor 53 = .ok (.istore 5, 2) := by decide +kernel
theorem dX3_rivalsFor_55 : decode cX3_rivalsFor 55 = .ok (.iload 5, 2) := by decide +kernel
theorem dX3_rivalsFor_57 : decode cX3_rivalsFor 57 = .ok (.aload_n 0, 1) := by decide +kernel
theorem dX3_rivalsFor_58 : decode cX3_rivalsFor 58 = .ok (.getfield 22, 3) := by decide +kernel
theorem dX3_rivalsFor_61 : decode cX3_rivalsFor 61 = .ok (.iload_n 1, 1) := by decide +kernel
theorem dX3_rivalsFor_62 : decode cX3_rivalsFor 62 = .ok (.iaload, 1) := by decide +kernel
theorem dX3_rivalsFor_63 : decode cX3_rivalsFor 63 = .ok (.if_icmp .ge 92, 3) := by decide +kernel
theorem dX3_rivalsFor_66 : decode cX3_rivalsFor 66 = .ok (.aload_n 0, 1) := by decide +kernel
theorem dX3_rivalsFor_67 : decode cX3_rivalsFor 67 = .ok (.getfield 18, 3) := by decide +kernel
theorem dX3_rivalsFor_70 : decode cX3_rivalsFor 70 = .ok (.iload 5, 2) := by decide +kernel
theorem dX3_rivalsFor_72 : decode cX3_rivalsFor 72 = .ok (.iaload, 1) := by decide +kernel
theorem dX3_rivalsFor_73 : decode cX3_rivalsFor 73 = .ok (.istore 6, 2) := by decide +kernel
theorem dX3_rivalsFor_75 : decode cX3_rivalsFor 75 = .ok (.aload_n 0, 1) := by decide +kernel
theorem dX3_rivalsFor_76 : decode cX3_rivalsFor 76 = .ok (.getfield 34, 3) := by decide +kernel
theorem dX3_rivalsFor_79 : decode cX3_rivalsFor 79 = .ok (.iload_n 1, 1) := by decide +kernel
theorem dX3_rivalsFor_80 : decode cX3_rivalsFor 80 = .ok (.iaload, 1) := by decide +kernel
theorem dX3_rivalsFor_81 : decode cX3_rivalsFor 81 = .ok (.iload 6, 2) := by decide +kernel
theorem dX3_rivalsFor_83 : decode cX3_rivalsFor 83 = .ok (.invokestatic 119, 3) := by decide +kernel
theorem dX3_rivalsFor_86 : decode cX3_rivalsFor 86 = .ok (.ifCond .eq 63, 3) := by decide +kernel
theorem dX3_rivalsFor_89 : decode cX3_rivalsFor 89 = .ok (.aload_n 0, 1) := by decide +kernel
theorem dX3_rivalsFor_90 : decode cX3_rivalsFor 90 = .ok (.iload_n 1, 1) := by decide +kernel
theorem dX3_rivalsFor_91 : decode cX3_rivalsFor 91 = .ok (.iload 6, 2) := by decide +kernel
theorem dX3_rivalsFor_93 : decode cX3_rivalsFor 93 = .ok (.invokevirtual 137, 3) := by decide +kernel
theorem dX3_rivalsFor_96 : decode cX3_rivalsFor 96 = .ok (.iload_n 3, 1) := by decide +kernel
theorem dX3_rivalsFor_97 : decode cX3_rivalsFor 97 = .ok (.if_icmp .lt 52, 3) := by decide +kernel
theorem dX3_rivalsFor_100 : decode cX3_rivalsFor 100 = .ok (.aload_n 0, 1) := by decide +kernel
theorem dX3_rivalsFor_101 : decode cX3_rivalsFor 101 = .ok (.iload_n 1, 1) := by decide +kernel
theorem dX3_rivalsFor_102 : decode cX3_rivalsFor 102 = .ok (.aload_n 0, 1) := by decide +kernel
theorem dX3_rivalsFor_103 : decode cX3_rivalsFor 103 = .ok (.getfield 12, 3) := by decide +kernel
theorem dX3_rivalsFor_106 : decode cX3_rivalsFor 106 = .ok (.getfield 98, 3) := by decide +kernel
theorem dX3_rivalsFor_109 : decode cX3_rivalsFor 109 = .ok (.iload 6, 2) := by decide +kernel
theorem dX3_rivalsFor_111 : decode cX3_rivalsFor 111 = .ok (.iaload, 1) := by decide +kernel
theorem dX3_rivalsFor_112 : decode cX3_rivalsFor 112 = .ok (.invokevirtual 101, 3) := by decide +kernel
theorem dX3_rivalsFor_115 : decode cX3_rivalsFor 115 = .ok (.ifCond .eq 34, 3) := by decide +kernel
theorem dX3_rivalsFor_118 : decode cX3_rivalsFor 118 = .ok (.aload_n 0, 1) := by decide +kernel
theorem dX3_rivalsFor_119 : decode cX3_rivalsFor 119 = .ok (.getfield 12, 3) := by decide +kernel
theorem dX3_rivalsFor_122 : decode cX3_rivalsFor 122 = .ok (.getfield 98, 3) := by decide +kernel
theorem dX3_rivalsFor_125 : decode cX3_rivalsFor 125 = .ok (.iload 6, 2) := by decide +kernel
theorem dX3_rivalsFor_127 : decode cX3_rivalsFor 127 = .ok (.iaload, 1) := by decide +kernel
theorem dX3_rivalsFor_128 : decode cX3_rivalsFor 128 = .ok (.aload_n 0, 1) := by decide +kernel
theorem dX3_rivalsFor_129 : decode cX3_rivalsFor 129 = .ok (.getfield 12, 3) := by decide +kernel
theorem dX3_rivalsFor_132 : decode cX3_rivalsFor 132 = .ok (.getfield 98, 3) := by decide +kernel
theorem dX3_rivalsFor_135 : decode cX3_rivalsFor 135 = .ok (.iload_n 2, 1) := by decide +kernel
theorem dX3_rivalsFor_136 : decode cX3_rivalsFor 136 = .ok (.iaload, 1) := by decide +kernel
theorem dX3_rivalsFor_137 : decode cX3_rivalsFor 137 = .ok (.if_icmp .eq 12, 3) := by decide +kernel
theorem dX3_rivalsFor_140 : decode cX3_rivalsFor 140 = .ok (.iload 4, 2) := by decide +kernel
theorem dX3_rivalsFor_142 : decode cX3_rivalsFor 142 = .ok (.iconst 1, 1) := by decide +kernel
theorem dX3_rivalsFor_143 : decode cX3_rivalsFor 143 = .ok (.iload 6, 2) := by decide +kernel
theorem dX3_rivalsFor_145 : decode cX3_rivalsFor 145 = .ok (.ishl, 1) := by decide +kernel
theorem dX3_rivalsFor_146 : decode cX3_rivalsFor 146 = .ok (.ior, 1) := by decide +kernel
theorem dX3_rivalsFor_147 : decode cX3_rivalsFor 147 = .ok (.istore 4, 2) := by decide +kernel
theorem dX3_rivalsFor_149 : decode cX3_rivalsFor 149 = .ok (.iinc 5 1, 3) := by decide +kernel
theorem dX3_rivalsFor_152 : decode cX3_rivalsFor 152 = .ok (.goto (-97), 3) := by decide +kernel
theorem dX3_rivalsFor_155 : decode cX3_rivalsFor 155 = .ok (.iload 4, 2) := by decide +kernel
theorem dX3_rivalsFor_157 : decode cX3_rivalsFor 157 = .ok (.ireturn, 1) := by decide +kernel
def t_X3_rivalsFor_155 : am_T := tb_iload 4 <|
  tb_iret
def t_X3_rivalsFor_149 : am_T := tb_iinc 5 1 <|
  tb_head 55
def t_X3_rivalsFor_55 : am_T := tb_iload 5 <|
  tb_aload 0 <|
  tb_getR 3 2 <|
  tb_iload 1 <|
  tb_iald <|
  tb_ic (fun x y => y ≤ x) (t_X3_rivalsFor_155) <|
  tb_aload 0 <|
  tb_getR 3 1 <|
  tb_iload 5 <|
  tb_iald <|
  tb_istore 6 <|
  tb_aload 0 <|
  tb_getR 3 6 <|
  tb_iload 1 <|
  tb_iald <|
  tb_iload 6 <|
  tb_callS sp_X4_isIn 2 <|
  tb_if (fun x => x = 0) (t_X3_rivalsFor_149) <|
  tb_aload 0 <|
  tb_iload 1 <|
  tb_iload 6 <|
  tb_callV 3 sp_X3_scoreFor 3 <|
  tb_iload 3 <|
  tb_ic (fun x y => x < y) (t_X3_rivalsFor_149) <|
  tb_aload 0 <|
  tb_iload 1 <|
  tb_aload 0 <|
  tb_getR 3 0 <|
  tb_getR 1 6 <|
  tb_iload 6 <|
  tb_iald <|
  tb_callV 3 sp_X3_speaksTo 3 <|
  tb_if (fun x => x = 0) (t_X3_rivalsFor_149) <|
  tb_aload 0 <|
  tb_getR 3 0 <|
  tb_getR 1 6 <|
  tb_iload 6 <|
  tb_iald <|
  tb_aload 0 <|
  tb_getR 3 0 <|
  tb_getR 1 6 <|
  tb_iload 2 <|
  tb_iald <|
  tb_ic (fun x y => x = y) (t_X3_rivalsFor_149) <|
  tb_iload 4 <|
  tb_const 1 <|
  tb_iload 6 <|
  tb_bin (fun x y => x <<< (y &&& 31)) <|
  tb_bin (fun x y => x ||| y) <|
  tb_istore 4 <|
  t_X3_rivalsFor_149
def t_X3_rivalsFor_31 : am_T := tb_aload 0 <|
  tb_iload 1 <|
  tb_iload 2 <|
  tb_callV 3 sp_X3_scoreFor 3 <|
  tb_aload 0 <|
  tb_getR 3 0 <|
  tb_getR 1 13 <|
  tb_const 7 <|
  tb_iald <|
  tb_bin (fun x y => x - y) <|
  tb_istore 3 <|
  tb_const 0 <|
  tb_istore 4 <|
  tb_const 0 <|
  tb_istore 5 <|
  tb_head 55
def t_X3_rivalsFor_29 : am_T := tb_const 0 <|
  tb_iret
def t_X3_rivalsFor_0 : am_T := tb_aload 0 <|
  tb_getR 3 7 <|
  tb_iload 1 <|
  tb_iald <|
  tb_istore 2 <|
  tb_iload 2 <|
  tb_const (-1) <|
  tb_ic (fun x y => x = y) (t_X3_rivalsFor_29) <|
  tb_aload 0 <|
  tb_iload 1 <|
  tb_aload 0 <|
  tb_getR 3 0 <|
  tb_getR 1 6 <|
  tb_iload 2 <|
  tb_iald <|
  tb_callV 3 sp_X3_speaksTo 3 <|
  tb_if (fun x => x ≠ 0) (t_X3_rivalsFor_31) <|
  t_X3_rivalsFor_29
def h_X3_rivalsFor : am_Hd := fun h => if h = 0 then t_X3_rivalsFor_0 else if h = 55 then t_X3_rivalsFor_55 else tb_bad
theorem h_X3_rivalsFor_0 : h_X3_rivalsFor 0 = t_X3_rivalsFor_0 := rfl
theorem h_X3_rivalsFor_55 : h_X3_rivalsFor 55 = t_X3_rivalsFor_55 := rfl
def rm_X3_rivalsFor : Room := { frames := 2, cells := 0, slots := 0, locals := 43 }
def sp_X3_rivalsFor : am_sp := fun as M Q => as.length ≤ 7 ∧ am_OK h_X3_rivalsFor Q 0 (am_in 7 as) M
theorem s_X3_rivalsFor_155 {G : am_G} {bc bs : Nat} (X : am_Cx G cX3_rivalsFor RX3 "rivalsFor" rm_X3_rivalsFor (some .int) 7 bc bs true) : am_S G 155 (t_X3_rivalsFor_155) := by
  unfold t_X3_rivalsFor_155
  refine as_iload (pc := 155) X dX3_rivalsFor_155 ?_
  exact as_iret (pc := 157) X ⟨rfl, rfl⟩ rfl dX3_rivalsFor_157
theorem s_X3_rivalsFor_149 {G : am_G} {bc bs : Nat} (X : am_Cx G cX3_rivalsFor RX3 "rivalsFor" rm_X3_rivalsFor (some .int) 7 bc bs true) : am_S G 149 (t_X3_rivalsFor_149) := by
  unfold t_X3_rivalsFor_149
  refine as_iinc (pc := 149) X dX3_rivalsFor_149 (by decide) (by decide) ?_
  exact as_goto (pc := 152) X 55 dX3_rivalsFor_152 (by decide) (as_head)
theorem s_X3_rivalsFor_55 {G : am_G} {bc bs : Nat} (X : am_Cx G cX3_rivalsFor RX3 "rivalsFor" rm_X3_rivalsFor (some .int) 7 bc bs true) : am_S G 55 (t_X3_rivalsFor_55) := by
  unfold t_X3_rivalsFor_55
  refine as_iload (pc := 55) X dX3_rivalsFor_55 ?_
  refine as_aload_n (pc := 57) X dX3_rivalsFor_57 rfl ?_
  refine as_getR (ci := 3) (j := 2) (pc := 58) X (Cn := RX3) (Tf := TX3) (N := 17) rfl rfl (by decide) iw_X3 aw_118 rfl dX3_rivalsFor_58 ?_
  refine as_iload_n (pc := 61) X dX3_rivalsFor_61 rfl ?_
  refine as_iald (pc := 62) X dX3_rivalsFor_62 ?_
  refine as_ic_ge (pc := 63) X 155 dX3_rivalsFor_63 (by decide) (s_X3_rivalsFor_155 X) ?_
  refine as_aload_n (pc := 66) X dX3_rivalsFor_66 rfl ?_
  refine as_getR (ci := 3) (j := 1) (pc := 67) X (Cn := RX3) (Tf := TX3) (N := 17) rfl rfl (by decide) iw_X3 aw_116 rfl dX3_rivalsFor_67 ?_
  refine as_iload (pc := 70) X dX3_rivalsFor_70 ?_
  refine as_iald (pc := 72) X dX3_rivalsFor_72 ?_
  refine as_istore (pc := 73) X dX3_rivalsFor_73 ?_ (by decide)
  refine as_aload_n (pc := 75) X dX3_rivalsFor_75 rfl ?_
  refine as_getR (ci := 3) (j := 6) (pc := 76) X (Cn := RX3) (Tf := TX3) (N := 17) rfl rfl (by decide) iw_X3 aw_124 rfl dX3_rivalsFor_76 ?_
  refine as_iload_n (pc := 79) X dX3_rivalsFor_79 rfl ?_
  refine as_iald (pc := 80) X dX3_rivalsFor_80 ?_
  refine as_iload (pc := 81) X dX3_rivalsFor_81 ?_
  refine as_callSN (np := 2) (ix := 119) (pc := 83) X ct_X4_isIn ⟨rfl, rfl⟩ (host := RX4) (by simp [am_NW]) aw_297 aw_298 aw_17 (by decide +kernel) (by decide) dX3_rivalsFor_83 ?_
  refine as_if_eq (pc := 86) X 149 dX3_rivalsFor_86 (by decide) (s_X3_rivalsFor_149 X) ?_
  refine as_aload_n (pc := 89) X dX3_rivalsFor_89 rfl ?_
  refine as_iload_n (pc := 90) X dX3_rivalsFor_90 rfl ?_
  refine as_iload (pc := 91) X dX3_rivalsFor_91 ?_
  refine as_callV (ci := 3) (np := 2) (ix := 137) (pc := 93) X ct_X3_scoreFor (Cn := (RX3, TX3, 17)) rfl ⟨rfl, rfl⟩ aw_334 aw_335 aw_336 aw_337 aw_18 (by decide +kernel) (by decide) dX3_rivalsFor_93 ?_
  refine as_iload_n (pc := 96) X dX3_rivalsFor_96 rfl ?_
  refine as_ic_lt (pc := 97) X 149 dX3_rivalsFor_97 (by decide) (s_X3_rivalsFor_149 X) ?_
  refine as_aload_n (pc := 100) X dX3_rivalsFor_100 rfl ?_
  refine as_iload_n (pc := 101) X dX3_rivalsFor_101 rfl ?_
  refine as_aload_n (pc := 102) X dX3_rivalsFor_102 rfl ?_
  refine as_getR (ci := 3) (j := 0) (pc := 103) X (Cn := RX3) (Tf := TX3) (N := 17) rfl rfl (by decide) iw_X3 aw_114 rfl dX3_rivalsFor_103 ?_
  refine as_getR (ci := 1) (j := 6) (pc := 106) X (Cn := RX1) (Tf := TX1) (N := 14) rfl rfl (by decide) iw_X1 aw_62 rfl dX3_rivalsFor_106 ?_
  refine as_iload (pc := 109) X dX3_rivalsFor_109 ?_
  refine as_iald (pc := 111) X dX3_rivalsFor_111 ?_
  refine as_callV (ci := 3) (np := 2) (ix := 101) (pc := 112) X ct_X3_speaksTo (Cn := (RX3, TX3, 17)) rfl ⟨rfl, rfl⟩ aw_303 aw_305 aw_3 aw_306 aw_18 (by decide +kernel) (by decide) dX3_rivalsFor_112 ?_
  refine as_if_eq (pc := 115) X 149 dX3_rivalsFor_115 (by decide) (s_X3_rivalsFor_149 X) ?_
  refine as_aload_n (pc := 118) X dX3_rivalsFor_118 rfl ?_
  refine as_getR (ci := 3) (j := 0) (pc := 119) X (Cn := RX3) (Tf := TX3) (N := 17) rfl rfl (by decide) iw_X3 aw_114 rfl dX3_rivalsFor_119 ?_
  refine as_getR (ci := 1) (j := 6) (pc := 122) X (Cn := RX1) (Tf := TX1) (N := 14) rfl rfl (by decide) iw_X1 aw_62 rfl dX3_rivalsFor_122 ?_
  refine as_iload (pc := 125) X dX3_rivalsFor_125 ?_
  refine as_iald (pc := 127) X dX3_rivalsFor_127 ?_
  refine as_aload_n (pc := 128) X dX3_rivalsFor_128 rfl ?_
  refine as_getR (ci := 3) (j := 0) (pc := 129) X (Cn := RX3) (Tf := TX3) (N := 17) rfl rfl (by decide) iw_X3 aw_114 rfl dX3_rivalsFor_129 ?_
  refine as_getR (ci := 1) (j := 6) (pc := 132) X (Cn := RX1) (Tf := TX1) (N := 14) rfl rfl (by decide) iw_X1 aw_62 rfl dX3_rivalsFor_132 ?_
  refine as_iload_n (pc := 135) X dX3_rivalsFor_135 rfl ?_
  refine as_iald (pc := 136) X dX3_rivalsFor_136 ?_
  refine as_ic_eq (pc := 137) X 149 dX3_rivalsFor_137 (by decide) (s_X3_rivalsFor_149 X) ?_
  refine as_iload (pc := 140) X dX3_rivalsFor_140 ?_
  refine as_iconst (pc := 142) X dX3_rivalsFor_142 (by decide) ?_
  refine as_iload (pc := 143) X dX3_rivalsFor_143 ?_
  refine as_ishl (pc := 145) X dX3_rivalsFor_145 ?_
  refine as_ior (pc := 146) X dX3_rivalsFor_146 ?_
  refine as_istore (pc := 147) X dX3_rivalsFor_147 ?_ (by decide)
  exact s_X3_rivalsFor_149 X
theorem s_X3_rivalsFor_31 {G : am_G} {bc bs : Nat} (X : am_Cx G cX3_rivalsFor RX3 "rivalsFor" rm_X3_rivalsFor (some .int) 7 bc bs true) : am_S G 31 (t_X3_rivalsFor_31) := by
  unfold t_X3_rivalsFor_31
  refine as_aload_n (pc := 31) X dX3_rivalsFor_31 rfl ?_
  refine as_iload_n (pc := 32) X dX3_rivalsFor_32 rfl ?_
  refine as_iload_n (pc := 33) X dX3_rivalsFor_33 rfl ?_
  refine as_callV (ci := 3) (np := 2) (ix := 137) (pc := 34) X ct_X3_scoreFor (Cn := (RX3, TX3, 17)) rfl ⟨rfl, rfl⟩ aw_334 aw_335 aw_336 aw_337 aw_18 (by decide +kernel) (by decide) dX3_rivalsFor_34 ?_
  refine as_aload_n (pc := 37) X dX3_rivalsFor_37 rfl ?_
  refine as_getR (ci := 3) (j := 0) (pc := 38) X (Cn := RX3) (Tf := TX3) (N := 17) rfl rfl (by decide) iw_X3 aw_114 rfl dX3_rivalsFor_38 ?_
  refine as_getR (ci := 1) (j := 13) (pc := 41) X (Cn := RX1) (Tf := TX1) (N := 14) rfl rfl (by decide) iw_X1 aw_82 rfl dX3_rivalsFor_41 ?_
  refine as_bipush (pc := 44) X dX3_rivalsFor_44 (by decide) ?_
  refine as_iald (pc := 46) X dX3_rivalsFor_46 ?_
  refine as_isub (pc := 47) X dX3_rivalsFor_47 ?_
  refine as_istore_n (pc := 48) X dX3_rivalsFor_48 rfl ?_ (by decide)
  refine as_iconst (pc := 49) X dX3_rivalsFor_49 (by decide) ?_
  refine as_istore (pc := 50) X dX3_rivalsFor_50 ?_ (by decide)
  refine as_iconst (pc := 52) X dX3_rivalsFor_52 (by decide) ?_
  refine as_istore (pc := 53) X dX3_rivalsFor_53 ?_ (by decide)
  exact as_head
theorem s_X3_rivalsFor_29 {G : am_G} {bc bs : Nat} (X : am_Cx G cX3_rivalsFor RX3 "rivalsFor" rm_X3_rivalsFor (some .int) 7 bc bs true) : am_S G 29 (t_X3_rivalsFor_29) := by
  unfold t_X3_rivalsFor_29
  refine as_iconst (pc := 29) X dX3_rivalsFor_29 (by decide) ?_
  exact as_iret (pc := 30) X ⟨rfl, rfl⟩ rfl dX3_rivalsFor_30
theorem s_X3_rivalsFor_0 {G : am_G} {bc bs : Nat} (X : am_Cx G cX3_rivalsFor RX3 "rivalsFor" rm_X3_rivalsFor (some .int) 7 bc bs true) : am_S G 0 (t_X3_rivalsFor_0) := by
  unfold t_X3_rivalsFor_0
  refine as_aload_n (pc := 0) X dX3_rivalsFor_0 rfl ?_
  refine as_getR (ci := 3) (j := 7) (pc := 1) X (Cn := RX3) (Tf := TX3) (N := 17) rfl rfl (by decide) iw_X3 aw_125 rfl dX3_rivalsFor_1 ?_
  refine as_iload_n (pc := 4) X dX3_rivalsFor_4 rfl ?_
  refine as_iald (pc := 5) X dX3_rivalsFor_5 ?_
  refine as_istore_n (pc := 6) X dX3_rivalsFor_6 rfl ?_ (by decide)
  refine as_iload_n (pc := 7) X dX3_rivalsFor_7 rfl ?_
  refine as_iconst (pc := 8) X dX3_rivalsFor_8 (by decide) ?_
  refine as_ic_eq (pc := 9) X 29 dX3_rivalsFor_9 (by decide) (s_X3_rivalsFor_29 X) ?_
  refine as_aload_n (pc := 12) X dX3_rivalsFor_12 rfl ?_
  refine as_iload_n (pc := 13) X dX3_rivalsFor_13 rfl ?_
  refine as_aload_n (pc := 14) X dX3_rivalsFor_14 rfl ?_
  refine as_getR (ci := 3) (j := 0) (pc := 15) X (Cn := RX3) (Tf := TX3) (N := 17) rfl rfl (by decide) iw_X3 aw_114 rfl dX3_rivalsFor_15 ?_
  refine as_getR (ci := 1) (j := 6) (pc := 18) X (Cn := RX1) (Tf := TX1) (N := 14) rfl rfl (by decide) iw_X1 aw_62 rfl dX3_rivalsFor_18 ?_
  refine as_iload_n (pc := 21) X dX3_rivalsFor_21 rfl ?_
  refine as_iald (pc := 22) X dX3_rivalsFor_22 ?_
  refine as_callV (ci := 3) (np := 2) (ix := 101) (pc := 23) X ct_X3_speaksTo (Cn := (RX3, TX3, 17)) rfl ⟨rfl, rfl⟩ aw_303 aw_305 aw_3 aw_306 aw_18 (by decide +kernel) (by decide) dX3_rivalsFor_23 ?_
  refine as_if_ne (pc := 26) X 31 dX3_rivalsFor_26 (by decide) (s_X3_rivalsFor_31 X) ?_
  exact s_X3_rivalsFor_29 X
theorem s_X3_rivalsFor {G : am_G} {bc bs : Nat} (X : am_Cx G cX3_rivalsFor RX3 "rivalsFor" rm_X3_rivalsFor (some .int) 7 bc bs true) (h : Nat) : am_S G h (h_X3_rivalsFor h) := by
  unfold h_X3_rivalsFor
  split
  · next e => rw [e]; exact s_X3_rivalsFor_0 X
  split
  · next e => rw [e]; exact s_X3_rivalsFor_55 X
  exact as_bad
theorem ct_X3_rivalsFor : am_Ct yX3_rivalsFor cX3_rivalsFor 7 (some .int) rm_X3_rivalsFor sp_X3_rivalsFor := am_met (own := RX3) (nm := "rivalsFor") (by decide) rfl rfl (Or.inr (Or.inl rfl)) (fun _ _ => h_X3_rivalsFor) (fun _ _ _ X => s_X3_rivalsFor X) (fun _ _ _ _ h => h)
-- X3_rateAll
theorem dX3_rateAll_0 : decode cX3_rateAll 0 = .ok (.aload_n 0, 1) := by decide +kernel
theorem dX3_rateAll_1 : decode cX3_rateAll 1 = .ok (.invokevirtual 68, 3) := by decide +kernel
theorem dX3_rateAll_4 : decode cX3_rateAll 4 = .ok (.iconst 0, 1) := by decide +kernel
theorem dX3_rateAll_5 : decode cX3_rateAll 5 = .ok (.istore_n 1, 1) := by decide +kernel
theorem dX3_rateAll_6 : decode cX3_rateAll 6 = .ok (.iload_n 1, 1) := by decide +kernel
theorem dX3_rateAll_7 : decode cX3_rateAll 7 = .ok (.aload_n 0, 1) := by decide +kernel
theorem dX3_rateAll_8 : decode cX3_rateAll 8 = .ok (.getfield 12, 3) := by decide +kernel
theorem dX3_rateAll_11 : decode cX3_rateAll 11 = .ok (.getfield 71, 3) := by decide +kernel
theorem dX3_rateAll_14 : decode cX3_rateAll 14 = .ok (.if_icmp .ge 23, 3) := by decide +kernel
theorem dX3_rateAll_17 : decode cX3_rateAll 17 = .ok (.aload_n 0, 1) := by decide +kernel
theorem dX3_rateAll_18 : decode cX3_rateAll 18 = .ok (.getfield 25, 3) := by decide +kernel
theorem dX3_rateAll_21 : decode cX3_rateAll 21 = .ok (.iload_n 1, 1) := by decide +kernel
theorem dX3_rateAll_22 : decode cX3_rateAll 22 = .ok (.aload_n 0, 1) := by decide +kernel
theorem dX3_rateAll_23 : decode cX3_rateAll 23 = .ok (.getfield 12, 3) := by decide +kernel
theorem dX3_rateAll_26 : decode cX3_rateAll 26 = .ok (.iload_n 1, 1) := by decide +kernel
theorem dX3_rateAll_27 : decode cX3_rateAll 27 = .ok (.invokevirtual 74, 3) := by decide +kernel
theorem dX3_rateAll_30 : decode cX3_rateAll 30 = .ok (.iastore, 1) := by decide +kernel
theorem dX3_rateAll_31 : decode cX3_rateAll 31 = .ok (.iinc 1 1, 3) := by decide +kernel
theorem dX3_rateAll_34 : decode cX3_rateAll 34 = .ok (.goto (-28), 3) := by decide +kernel
theorem dX3_rateAll_37 : decode cX3_rateAll 37 = .ok (.iconst 0, 1) := by decide +kernel
theorem dX3_rateAll_38 : decode cX3_rateAll 38 = .ok (.istore_n 1, 1) := by decide +kernel
theorem dX3_rateAll_39 : decode cX3_rateAll 39 = .ok (.iload_n 1, 1) := by decide +kernel
theorem dX3_rateAll_40 : decode cX3_rateAll 40 = .ok (.aload_n 0, 1) := by decide +kernel
theorem dX3_rateAll_41 : decode cX3_rateAll 41 = .ok (.getfield 12, 3) := by decide +kernel
theorem dX3_rateAll_44 : decode cX3_rateAll 44 = .ok (.getfield 71, 3) := by decide +kernel
theorem dX3_rateAll_47 : decode cX3_rateAll 47 = .ok (.if_icmp .ge 107, 3) := by decide +kernel
theorem dX3_rateAll_50 : decode cX3_rateAll 50 = .ok (.aload_n 0, 1) := by decide +kernel
theorem dX3_rateAll_51 : decode cX3_rateAll 51 = .ok (.getfield 18, 3) := by decide +kernel
theorem dX3_rateAll_54 : decode cX3_rateAll 54 = .ok (.iload_n 1, 1) := by decide +kernel
theorem dX3_rateAll_55 : decode cX3_rateAll 55 = .ok (.iaload, 1) := by decide +kernel
theorem dX3_rateAll_56 : decode cX3_rateAll 56 = .ok (.istore_n 2, 1) := by decide +kernel
theorem dX3_rateAll_57 : decode cX3_rateAll 57 = .ok (.iconst 0, 1) := by decide +kernel
theorem dX3_rateAll_58 : decode cX3_rateAll 58 = .ok (.istore_n 3, 1) := by decide +kernel
theorem dX3_rateAll_59 : decode cX3_rateAll 59 = .ok (.iload_n 3, 1) := by decide +kernel
theorem dX3_rateAll_60 : decode cX3_rateAll 60 = .ok (.iload_n 1, 1) := by decide +kernel
theorem dX3_rateAll_61 : decode cX3_rateAll 61 = .ok (.if_icmp .ge 20, 3) := by decide +kernel
theorem dX3_rateAll_64 : decode cX3_rateAll 64 = .ok (.aload_n 0, 1) := by decide +kernel
theorem dX3_rateAll_65 : decode cX3_rateAll 65 = .ok (.iload_n 2, 1) := by decide +kernel
theorem dX3_rateAll_66 : decode cX3_rateAll 66 = .ok (.aload_n 0, 1) := by decide +kernel
theorem dX3_rateAll_67 : decode cX3_rateAll 67 = .ok (.getfield 18, 3) := by decide +kernel
theorem dX3_rateAll_70 : decode cX3_rateAll 70 = .ok (.iload_n 3, 1) := by decide +kernel
theorem dX3_rateAll_71 : decode cX3_rateAll 71 = .ok (.iaload, 1) := by decide +kernel
theorem dX3_rateAll_72 : decode cX3_rateAll 72 = .ok (.invokevirtual 78, 3) := by decide +kernel
theorem dX3_rateAll_75 : decode cX3_rateAll 75 = .ok (.iinc 3 1, 3) := by decide +kernel
theorem dX3_rateAll_78 : decode cX3_rateAll 78 = .ok (.goto (-19), 3) := by decide +kernel
theorem dX3_rateAll_81 : decode cX3_rateAll 81 = .ok (.aload_n 0, 1) := by decide +kernel
theorem dX3_rateAll_82 : decode cX3_rateAll 82 = .ok (.getfield 31, 3) := by decide +kernel
theorem dX3_rateAll_85 : decode cX3_rateAll 85 = .ok (.iload_n 2, 1) := by decide +kernel
theorem dX3_rateAll_86 : decode cX3_rateAll 86 = .ok (.aload_n 0, 1) := by decide +kernel
theorem dX3_rateAll_87 : decode cX3_rateAll 87 = .ok (.getfield 12, 3) := by decide +kernel
theorem dX3_rateAll_90 : decode cX3_rateAll 90 = .ok (.iload_n 2, 1) := by decide +kernel
theorem dX3_rateAll_91 : decode cX3_rateAll 91 = .ok (.invokevirtual 82, 3) := by decide +kernel
theorem dX3_rateAll_94 : decode cX3_rateAll 94 = .ok (.iastore, 1) := by decide +kernel
theorem dX3_rateAll_95 : decode cX3_rateAll 95 = .ok (.aload_n 0, 1) := by decide +kernel
theorem dX3_rateAll_96 : decode cX3_rateAll 96 = .ok (.getfield 34, 3) := by decide +kernel
theorem dX3_rateAll_99 : decode cX3_rateAll 99 = .ok (.iload_n 2, 1) := by decide +kernel
theorem dX3_rateAll_100 : decode cX3_rateAll 100 = .ok (.aload_n 0, 1) := by decide +kernel
theorem dX3_rateAll_101 : decode cX3_rateAll 101 = .ok (.iload_n 2, 1) := by decide +kernel
theorem dX3_rateAll_102 : decode cX3_rateAll 102 = .ok (.invokevirtual 85, 3) := by decide +kernel
theorem dX3_rateAll_105 : decode cX3_rateAll 105 = .ok (.iastore, 1) := by decide +kernel
theorem dX3_rateAll_106 : decode cX3_rateAll 106 = .ok (.aload_n 0, 1) := by decide +kernel
theorem dX3_rateAll_107 : decode cX3_rateAll 107 = .ok (.getfield 37, 3) := by decide +kernel
theorem dX3_rateAll_110 : decode cX3_rateAll 110 = .ok (.iload_n 2, 1) := by decide +kernel
theorem dX3_rateAll_111 : decode cX3_rateAll 111 = .ok (.aload_n 0, 1) := by decide +kernel
theorem dX3_rateAll_112 : decode cX3_rateAll 112 = .ok (.getfield 31, 3) := by decide +kernel
theorem dX3_rateAll_115 : decode cX3_rateAll 115 = .ok (.iload_n 2, 1) := by decide +kernel
theorem dX3_rateAll_116 : decode cX3_rateAll 116 = .ok (.iaload, 1) := by decide +kernel
theorem dX3_rateAll_117 : decode cX3_rateAll 117 = .ok (.iconst (-1), 1) := by decide +kernel
theorem dX3_rateAll_118 : decode cX3_rateAll 118 = .ok (.if_icmp .ne 17, 3) := by decide +kernel
theorem dX3_rateAll_121 : decode cX3_rateAll 121 = .ok (.aload_n 0, 1) := by decide +kernel
theorem dX3_rateAll_122 : decode cX3_rateAll 122 = .ok (.aload_n 0, 1) := by decide +kernel
theorem dX3_rateAll_123 : decode cX3_rateAll 123 = .ok (.getfield 34, 3) := by decide +kernel
theorem dX3_rateAll_126 : decode cX3_rateAll 126 = .ok (.iload_n 2, 1) := by decide +kernel
theorem dX3_rateAll_127 : decode cX3_rateAll 127 = .ok (.iaload, 1) := by decide +kernel
theorem dX3_rateAll_128 : decode cX3_rateAll 128 = .ok (.iload_n 2, 1) := by decide +kernel
theorem dX3_rateAll_129 : decode cX3_rateAll 129 = .ok (.invokevirtual 88, 3) := by decide +kernel
theorem dX3_rateAll_132 : decode cX3_rateAll 132 = .ok (.goto 4, 3) := by decide +kernel
theorem dX3_rateAll_135 : decode cX3_rateAll 135 = .ok (.iconst (-1), 1) := by decide +kernel
theorem dX3_rateAll_136 : decode cX3_rateAll 136 = .ok (.iastore, 1) := by decide +kernel
theorem dX3_rateAll_137 : decode cX3_rateAll 137 = .ok (.aload_n 0, 1) := by decide +kernel
theorem dX3_rateAll_138 : decode cX3_rateAll 138 = .ok (.getfield 40, 3) := by decide +kernel
theorem dX3_rateAll_141 : decode cX3_rateAll 141 = .ok (.iload_n 2, 1) := by decide +kernel
theorem dX3_rateAll_142 : decode cX3_rateAll 142 = .ok (.aload_n 0, 1) := by decide +kernel
theorem dX3_rateAll_143 : decode cX3_rateAll 143 = .ok (.iload_n 2, 1) := by decide +kernel
theorem dX3_rateAll_144 : decode cX3_rateAll 144 = .ok (.invokevirtual 92, 3) := by decide +kernel
theorem dX3_rateAll_147 : decode cX3_rateAll 147 = .ok (.iastore, 1) := by decide +kernel
theorem dX3_rateAll_148 : decode cX3_rateAll 148 = .ok (.iinc 1 1, 3) := by decide +kernel
theorem dX3_rateAll_151 : decode cX3_rateAll 151 = .ok (.goto (-112), 3) := by decide +kernel
theorem dX3_rateAll_154 : decode cX3_rateAll 154 = .ok (.return_, 1) := by decide +kernel
def t_X3_rateAll_154 : am_T := tb_ret
def t_X3_rateAll_136 : am_T := tb_iast <|
  tb_aload 0 <|
  tb_getR 3 8 <|
  tb_iload 2 <|
  tb_aload 0 <|
  tb_iload 2 <|
  tb_callV 3 sp_X3_rivalsFor 2 <|
  tb_iast <|
  tb_iinc 1 1 <|
  tb_head 39
def t_X3_rateAll_135 : am_T := tb_const (-1) <|
  t_X3_rateAll_136
def t_X3_rateAll_81 : am_T := tb_aload 0 <|
  tb_getR 3 5 <|
  tb_iload 2 <|
  tb_aload 0 <|
  tb_getR 3 0 <|
  tb_iload 2 <|
  tb_callV 1 sp_X1_countingFix 2 <|
  tb_iast <|
  tb_aload 0 <|
  tb_getR 3 6 <|
  tb_iload 2 <|
  tb_aload 0 <|
  tb_iload 2 <|
  tb_callV 3 sp_X3_choicesFor 2 <|
  tb_iast <|
  tb_aload 0 <|
  tb_getR 3 7 <|
  tb_iload 2 <|
  tb_aload 0 <|
  tb_getR 3 5 <|
  tb_iload 2 <|
  tb_iald <|
  tb_const (-1) <|
  tb_ic (fun x y => x ≠ y) (t_X3_rateAll_135) <|
  tb_aload 0 <|
  tb_aload 0 <|
  tb_getR 3 6 <|
  tb_iload 2 <|
  tb_iald <|
  tb_iload 2 <|
  tb_callV 3 sp_X3_bestOf 3 <|
  t_X3_rateAll_136
def t_X3_rateAll_59 : am_T := tb_iload 3 <|
  tb_iload 1 <|
  tb_ic (fun x y => y ≤ x) (t_X3_rateAll_81) <|
  tb_aload 0 <|
  tb_iload 2 <|
  tb_aload 0 <|
  tb_getR 3 1 <|
  tb_iload 3 <|
  tb_iald <|
  tb_callV 3 sp_X3_rate 3 <|
  tb_iinc 3 1 <|
  tb_head 59
def t_X3_rateAll_39 : am_T := tb_iload 1 <|
  tb_aload 0 <|
  tb_getR 3 0 <|
  tb_getI 1 4 <|
  tb_ic (fun x y => y ≤ x) (t_X3_rateAll_154) <|
  tb_aload 0 <|
  tb_getR 3 1 <|
  tb_iload 1 <|
  tb_iald <|
  tb_istore 2 <|
  tb_const 0 <|
  tb_istore 3 <|
  tb_head 59
def t_X3_rateAll_37 : am_T := tb_const 0 <|
  tb_istore 1 <|
  tb_head 39
def t_X3_rateAll_6 : am_T := tb_iload 1 <|
  tb_aload 0 <|
  tb_getR 3 0 <|
  tb_getI 1 4 <|
  tb_ic (fun x y => y ≤ x) (t_X3_rateAll_37) <|
  tb_aload 0 <|
  tb_getR 3 3 <|
  tb_iload 1 <|
  tb_aload 0 <|
  tb_getR 3 0 <|
  tb_iload 1 <|
  tb_callV 1 sp_X1_personsNamedIn 2 <|
  tb_iast <|
  tb_iinc 1 1 <|
  tb_head 6
def t_X3_rateAll_0 : am_T := tb_aload 0 <|
  tb_callV 3 sp_X3_putInOrder 1 <|
  tb_const 0 <|
  tb_istore 1 <|
  tb_head 6
def h_X3_rateAll : am_Hd := fun h => if h = 0 then t_X3_rateAll_0 else if h = 6 then t_X3_rateAll_6 else if h = 39 then t_X3_rateAll_39 else if h = 59 then t_X3_rateAll_59 else tb_bad
theorem h_X3_rateAll_0 : h_X3_rateAll 0 = t_X3_rateAll_0 := rfl
theorem h_X3_rateAll_6 : h_X3_rateAll 6 = t_X3_rateAll_6 := rfl
theorem h_X3_rateAll_39 : h_X3_rateAll 39 = t_X3_rateAll_39 := rfl
theorem h_X3_rateAll_59 : h_X3_rateAll 59 = t_X3_rateAll_59 := rfl
def rm_X3_rateAll : Room := { frames := 3, cells := 0, slots := 0, locals := 69 }
def sp_X3_rateAll : am_sp := fun as M Q => as.length ≤ 4 ∧ am_OK h_X3_rateAll Q 0 (am_in 4 as) M
theorem s_X3_rateAll_154 {G : am_G} {bc bs : Nat} (X : am_Cx G cX3_rateAll RX3 "rateAll" rm_X3_rateAll none 4 bc bs true) : am_S G 154 (t_X3_rateAll_154) := by
  unfold t_X3_rateAll_154
  exact as_ret (pc := 154) X ⟨rfl, rfl⟩ rfl dX3_rateAll_154
theorem s_X3_rateAll_136 {G : am_G} {bc bs : Nat} (X : am_Cx G cX3_rateAll RX3 "rateAll" rm_X3_rateAll none 4 bc bs true) : am_S G 136 (t_X3_rateAll_136) := by
  unfold t_X3_rateAll_136
  refine as_iast (pc := 136) X dX3_rateAll_136 ?_
  refine as_aload_n (pc := 137) X dX3_rateAll_137 rfl ?_
  refine as_getR (ci := 3) (j := 8) (pc := 138) X (Cn := RX3) (Tf := TX3) (N := 17) rfl rfl (by decide) iw_X3 aw_126 rfl dX3_rateAll_138 ?_
  refine as_iload_n (pc := 141) X dX3_rateAll_141 rfl ?_
  refine as_aload_n (pc := 142) X dX3_rateAll_142 rfl ?_
  refine as_iload_n (pc := 143) X dX3_rateAll_143 rfl ?_
  refine as_callV (ci := 3) (np := 1) (ix := 92) (pc := 144) X ct_X3_rivalsFor (Cn := (RX3, TX3, 17)) rfl ⟨rfl, rfl⟩ aw_338 aw_340 aw_7 aw_341 aw_18 (by decide +kernel) (by decide) dX3_rateAll_144 ?_
  refine as_iast (pc := 147) X dX3_rateAll_147 ?_
  refine as_iinc (pc := 148) X dX3_rateAll_148 (by decide) (by decide) ?_
  exact as_goto (pc := 151) X 39 dX3_rateAll_151 (by decide) (as_head)
theorem s_X3_rateAll_135 {G : am_G} {bc bs : Nat} (X : am_Cx G cX3_rateAll RX3 "rateAll" rm_X3_rateAll none 4 bc bs true) : am_S G 135 (t_X3_rateAll_135) := by
  unfold t_X3_rateAll_135
  refine as_iconst (pc := 135) X dX3_rateAll_135 (by decide) ?_
  exact s_X3_rateAll_136 X
theorem s_X3_rateAll_81 {G : am_G} {bc bs : Nat} (X : am_Cx G cX3_rateAll RX3 "rateAll" rm_X3_rateAll none 4 bc bs true) : am_S G 81 (t_X3_rateAll_81) := by
  unfold t_X3_rateAll_81
  refine as_aload_n (pc := 81) X dX3_rateAll_81 rfl ?_
  refine as_getR (ci := 3) (j := 5) (pc := 82) X (Cn := RX3) (Tf := TX3) (N := 17) rfl rfl (by decide) iw_X3 aw_123 rfl dX3_rateAll_82 ?_
  refine as_iload_n (pc := 85) X dX3_rateAll_85 rfl ?_
  refine as_aload_n (pc := 86) X dX3_rateAll_86 rfl ?_
  refine as_getR (ci := 3) (j := 0) (pc := 87) X (Cn := RX3) (Tf := TX3) (N := 17) rfl rfl (by decide) iw_X3 aw_114 rfl dX3_rateAll_87 ?_
  refine as_iload_n (pc := 90) X dX3_rateAll_90 rfl ?_
  refine as_callV (ci := 1) (np := 1) (ix := 82) (pc := 91) X ct_X1_countingFix (Cn := (RX1, TX1, 14)) rfl ⟨rfl, rfl⟩ aw_318 aw_319 aw_320 aw_321 aw_19 (by decide +kernel) (by decide) dX3_rateAll_91 ?_
  refine as_iast (pc := 94) X dX3_rateAll_94 ?_
  refine as_aload_n (pc := 95) X dX3_rateAll_95 rfl ?_
  refine as_getR (ci := 3) (j := 6) (pc := 96) X (Cn := RX3) (Tf := TX3) (N := 17) rfl rfl (by decide) iw_X3 aw_124 rfl dX3_rateAll_96 ?_
  refine as_iload_n (pc := 99) X dX3_rateAll_99 rfl ?_
  refine as_aload_n (pc := 100) X dX3_rateAll_100 rfl ?_
  refine as_iload_n (pc := 101) X dX3_rateAll_101 rfl ?_
  refine as_callV (ci := 3) (np := 1) (ix := 85) (pc := 102) X ct_X3_choicesFor (Cn := (RX3, TX3, 17)) rfl ⟨rfl, rfl⟩ aw_322 aw_324 aw_4 aw_325 aw_18 (by decide +kernel) (by decide) dX3_rateAll_102 ?_
  refine as_iast (pc := 105) X dX3_rateAll_105 ?_
  refine as_aload_n (pc := 106) X dX3_rateAll_106 rfl ?_
  refine as_getR (ci := 3) (j := 7) (pc := 107) X (Cn := RX3) (Tf := TX3) (N := 17) rfl rfl (by decide) iw_X3 aw_125 rfl dX3_rateAll_107 ?_
  refine as_iload_n (pc := 110) X dX3_rateAll_110 rfl ?_
  refine as_aload_n (pc := 111) X dX3_rateAll_111 rfl ?_
  refine as_getR (ci := 3) (j := 5) (pc := 112) X (Cn := RX3) (Tf := TX3) (N := 17) rfl rfl (by decide) iw_X3 aw_123 rfl dX3_rateAll_112 ?_
  refine as_iload_n (pc := 115) X dX3_rateAll_115 rfl ?_
  refine as_iald (pc := 116) X dX3_rateAll_116 ?_
  refine as_iconst (pc := 117) X dX3_rateAll_117 (by decide) ?_
  refine as_ic_ne (pc := 118) X 135 dX3_rateAll_118 (by decide) (s_X3_rateAll_135 X) ?_
  refine as_aload_n (pc := 121) X dX3_rateAll_121 rfl ?_
  refine as_aload_n (pc := 122) X dX3_rateAll_122 rfl ?_
  refine as_getR (ci := 3) (j := 6) (pc := 123) X (Cn := RX3) (Tf := TX3) (N := 17) rfl rfl (by decide) iw_X3 aw_124 rfl dX3_rateAll_123 ?_
  refine as_iload_n (pc := 126) X dX3_rateAll_126 rfl ?_
  refine as_iald (pc := 127) X dX3_rateAll_127 ?_
  refine as_iload_n (pc := 128) X dX3_rateAll_128 rfl ?_
  refine as_callV (ci := 3) (np := 2) (ix := 88) (pc := 129) X ct_X3_bestOf (Cn := (RX3, TX3, 17)) rfl ⟨rfl, rfl⟩ aw_330 aw_332 aw_6 aw_333 aw_18 (by decide +kernel) (by decide) dX3_rateAll_129 ?_
  exact as_goto (pc := 132) X 136 dX3_rateAll_132 (by decide) (s_X3_rateAll_136 X)
theorem s_X3_rateAll_59 {G : am_G} {bc bs : Nat} (X : am_Cx G cX3_rateAll RX3 "rateAll" rm_X3_rateAll none 4 bc bs true) : am_S G 59 (t_X3_rateAll_59) := by
  unfold t_X3_rateAll_59
  refine as_iload_n (pc := 59) X dX3_rateAll_59 rfl ?_
  refine as_iload_n (pc := 60) X dX3_rateAll_60 rfl ?_
  refine as_ic_ge (pc := 61) X 81 dX3_rateAll_61 (by decide) (s_X3_rateAll_81 X) ?_
  refine as_aload_n (pc := 64) X dX3_rateAll_64 rfl ?_
  refine as_iload_n (pc := 65) X dX3_rateAll_65 rfl ?_
  refine as_aload_n (pc := 66) X dX3_rateAll_66 rfl ?_
  refine as_getR (ci := 3) (j := 1) (pc := 67) X (Cn := RX3) (Tf := TX3) (N := 17) rfl rfl (by decide) iw_X3 aw_116 rfl dX3_rateAll_67 ?_
  refine as_iload_n (pc := 70) X dX3_rateAll_70 rfl ?_
  refine as_iald (pc := 71) X dX3_rateAll_71 ?_
  refine as_callV (ci := 3) (np := 2) (ix := 78) (pc := 72) X ct_X3_rate (Cn := (RX3, TX3, 17)) rfl ⟨rfl, rfl⟩ aw_299 aw_301 aw_2 aw_302 aw_18 (by decide +kernel) (by decide) dX3_rateAll_72 ?_
  refine as_iinc (pc := 75) X dX3_rateAll_75 (by decide) (by decide) ?_
  exact as_goto (pc := 78) X 59 dX3_rateAll_78 (by decide) (as_head)
theorem s_X3_rateAll_39 {G : am_G} {bc bs : Nat} (X : am_Cx G cX3_rateAll RX3 "rateAll" rm_X3_rateAll none 4 bc bs true) : am_S G 39 (t_X3_rateAll_39) := by
  unfold t_X3_rateAll_39
  refine as_iload_n (pc := 39) X dX3_rateAll_39 rfl ?_
  refine as_aload_n (pc := 40) X dX3_rateAll_40 rfl ?_
  refine as_getR (ci := 3) (j := 0) (pc := 41) X (Cn := RX3) (Tf := TX3) (N := 17) rfl rfl (by decide) iw_X3 aw_114 rfl dX3_rateAll_41 ?_
  refine as_getI (ci := 1) (j := 4) (pc := 44) X (Cn := RX1) (Tf := TX1) (N := 14) rfl rfl (by decide) iw_X1 aw_56 rfl dX3_rateAll_44 ?_
  refine as_ic_ge (pc := 47) X 154 dX3_rateAll_47 (by decide) (s_X3_rateAll_154 X) ?_
  refine as_aload_n (pc := 50) X dX3_rateAll_50 rfl ?_
  refine as_getR (ci := 3) (j := 1) (pc := 51) X (Cn := RX3) (Tf := TX3) (N := 17) rfl rfl (by decide) iw_X3 aw_116 rfl dX3_rateAll_51 ?_
  refine as_iload_n (pc := 54) X dX3_rateAll_54 rfl ?_
  refine as_iald (pc := 55) X dX3_rateAll_55 ?_
  refine as_istore_n (pc := 56) X dX3_rateAll_56 rfl ?_ (by decide)
  refine as_iconst (pc := 57) X dX3_rateAll_57 (by decide) ?_
  refine as_istore_n (pc := 58) X dX3_rateAll_58 rfl ?_ (by decide)
  exact as_head
theorem s_X3_rateAll_37 {G : am_G} {bc bs : Nat} (X : am_Cx G cX3_rateAll RX3 "rateAll" rm_X3_rateAll none 4 bc bs true) : am_S G 37 (t_X3_rateAll_37) := by
  unfold t_X3_rateAll_37
  refine as_iconst (pc := 37) X dX3_rateAll_37 (by decide) ?_
  refine as_istore_n (pc := 38) X dX3_rateAll_38 rfl ?_ (by decide)
  exact as_head
theorem s_X3_rateAll_6 {G : am_G} {bc bs : Nat} (X : am_Cx G cX3_rateAll RX3 "rateAll" rm_X3_rateAll none 4 bc bs true) : am_S G 6 (t_X3_rateAll_6) := by
  unfold t_X3_rateAll_6
  refine as_iload_n (pc := 6) X dX3_rateAll_6 rfl ?_
  refine as_aload_n (pc := 7) X dX3_rateAll_7 rfl ?_
  refine as_getR (ci := 3) (j := 0) (pc := 8) X (Cn := RX3) (Tf := TX3) (N := 17) rfl rfl (by decide) iw_X3 aw_114 rfl dX3_rateAll_8 ?_
  refine as_getI (ci := 1) (j := 4) (pc := 11) X (Cn := RX1) (Tf := TX1) (N := 14) rfl rfl (by decide) iw_X1 aw_56 rfl dX3_rateAll_11 ?_
  refine as_ic_ge (pc := 14) X 37 dX3_rateAll_14 (by decide) (s_X3_rateAll_37 X) ?_
  refine as_aload_n (pc := 17) X dX3_rateAll_17 rfl ?_
  refine as_getR (ci := 3) (j := 3) (pc := 18) X (Cn := RX3) (Tf := TX3) (N := 17) rfl rfl (by decide) iw_X3 aw_120 rfl dX3_rateAll_18 ?_
  refine as_iload_n (pc := 21) X dX3_rateAll_21 rfl ?_
  refine as_aload_n (pc := 22) X dX3_rateAll_22 rfl ?_
  refine as_getR (ci := 3) (j := 0) (pc := 23) X (Cn := RX3) (Tf := TX3) (N := 17) rfl rfl (by decide) iw_X3 aw_114 rfl dX3_rateAll_23 ?_
  refine as_iload_n (pc := 26) X dX3_rateAll_26 rfl ?_
  refine as_callV (ci := 1) (np := 1) (ix := 74) (pc := 27) X ct_X1_personsNamedIn (Cn := (RX1, TX1, 14)) rfl ⟨rfl, rfl⟩ aw_292 aw_293 aw_294 aw_295 aw_19 (by decide +kernel) (by decide) dX3_rateAll_27 ?_
  refine as_iast (pc := 30) X dX3_rateAll_30 ?_
  refine as_iinc (pc := 31) X dX3_rateAll_31 (by decide) (by decide) ?_
  exact as_goto (pc := 34) X 6 dX3_rateAll_34 (by decide) (as_head)
theorem s_X3_rateAll_0 {G : am_G} {bc bs : Nat} (X : am_Cx G cX3_rateAll RX3 "rateAll" rm_X3_rateAll none 4 bc bs true) : am_S G 0 (t_X3_rateAll_0) := by
  unfold t_X3_rateAll_0
  refine as_aload_n (pc := 0) X dX3_rateAll_0 rfl ?_
  refine as_callV (ci := 3) (np := 0) (ix := 68) (pc := 1) X ct_X3_putInOrder (Cn := (RX3, TX3, 17)) rfl ⟨rfl, rfl⟩ aw_288 aw_290 aw_1 aw_291 aw_18 (by decide +kernel) (by decide) dX3_rateAll_1 ?_
  refine as_iconst (pc := 4) X dX3_rateAll_4 (by decide) ?_
  refine as_istore_n (pc := 5) X dX3_rateAll_5 rfl ?_ (by decide)
  exact as_head
theorem s_X3_rateAll {G : am_G} {bc bs : Nat} (X : am_Cx G cX3_rateAll RX3 "rateAll" rm_X3_rateAll none 4 bc bs true) (h : Nat) : am_S G h (h_X3_rateAll h) := by
  unfold h_X3_rateAll
  split
  · next e => rw [e]; exact s_X3_rateAll_0 X
  split
  · next e => rw [e]; exact s_X3_rateAll_6 X
  split
  · next e => rw [e]; exact s_X3_rateAll_39 X
  split
  · next e => rw [e]; exact s_X3_rateAll_59 X
  exact as_bad
theorem ct_X3_rateAll : am_Ct yX3_rateAll cX3_rateAll 4 none rm_X3_rateAll sp_X3_rateAll := am_met (own := RX3) (nm := "rateAll") (by decide) rfl rfl (Or.inl rfl) (fun _ _ => h_X3_rateAll) (fun _ _ _ X => s_X3_rateAll X) (fun _ _ _ _ h => h)
-- X3_isPassed
theorem dX3_isPassed_0 : decode cX3_isPassed 0 = .ok (.iload_n 2, 1) := by decide +kernel
theorem dX3_isPassed_1 : decode cX3_isPassed 1 = .ok (.iconst (-1), 1) := by decide +kernel
theorem dX3_isPassed_2 : decode cX3_isPassed 2 = .ok (.if_icmp .eq 25, 3) := by decide +kernel
theorem dX3_isPassed_5 : decode cX3_isPassed 5 = .ok (.aload_n 0, 1) := by decide +kernel
theorem dX3_isPassed_6 : decode cX3_isPassed 6 = .ok (.iload_n 1, 1) := by decide +kernel
theorem dX3_isPassed_7 : decode cX3_isPassed 7 = .ok (.iload_n 2, 1) := by decide +kernel
theorem dX3_isPassed_8 : decode cX3_isPassed 8 = .ok (.invokevirtual 137, 3) := by decide +kernel
theorem dX3_isPassed_11 : decode cX3_isPassed 11 = .ok (.aload_n 0, 1) := by decide +kernel
theorem dX3_isPassed_12 : decode cX3_isPassed 12 = .ok (.getfield 12, 3) := by decide +kernel
theorem dX3_isPassed_15 : decode cX3_isPassed 15 = .ok (.getfield 105, 3) := by decide +kernel
theorem dX3_isPassed_18 : decode cX3_isPassed 18 = .ok (.iconst 1, 1) := by decide +kernel
theorem dX3_isPassed_19 : decode cX3_isPassed 19 = .ok (.iaload, 1) := by decide +kernel
theorem dX3_isPassed_20 : decode cX3_isPassed 20 = .ok (.if_icmp .lt 7, 3) := by decide +kernel
theorem dX3_isPassed_23 : decode cX3_isPassed 23 = .ok (.iconst 1, 1) := by decide +kernel
theorem dX3_isPassed_24 : decode cX3_isPassed 24 = .ok (.goto 4, 3) := by decide +kernel
theorem dX3_isPassed_27 : decode cX3_isPassed 27 = .ok (.iconst 0, 1) := by decide +kernel
theorem dX3_isPassed_28 : decode cX3_isPassed 28 = .ok (.ireturn, 1) := by decide +kernel
def t_X3_isPassed_28 : am_T := tb_zret
def t_X3_isPassed_27 : am_T := tb_const 0 <|
  t_X3_isPassed_28
def t_X3_isPassed_0 : am_T := tb_iload 2 <|
  tb_const (-1) <|
  tb_ic (fun x y => x = y) (t_X3_isPassed_27) <|
  tb_aload 0 <|
  tb_iload 1 <|
  tb_iload 2 <|
  tb_callV 3 sp_X3_scoreFor 3 <|
  tb_aload 0 <|
  tb_getR 3 0 <|
  tb_getR 1 13 <|
  tb_const 1 <|
  tb_iald <|
  tb_ic (fun x y => x < y) (t_X3_isPassed_27) <|
  tb_const 1 <|
  t_X3_isPassed_28
def h_X3_isPassed : am_Hd := fun h => if h = 0 then t_X3_isPassed_0 else tb_bad
theorem h_X3_isPassed_0 : h_X3_isPassed 0 = t_X3_isPassed_0 := rfl
def rm_X3_isPassed : Room := { frames := 1, cells := 0, slots := 0, locals := 22 }
def sp_X3_isPassed : am_sp := fun as M Q => as.length ≤ 3 ∧ am_OK h_X3_isPassed Q 0 (am_in 3 as) M
theorem s_X3_isPassed_28 {G : am_G} {bc bs : Nat} (X : am_Cx G cX3_isPassed RX3 "isPassed" rm_X3_isPassed (some .boolean) 3 bc bs true) : am_S G 28 (t_X3_isPassed_28) := by
  unfold t_X3_isPassed_28
  exact as_zret (pc := 28) X ⟨rfl, rfl⟩ rfl dX3_isPassed_28
theorem s_X3_isPassed_27 {G : am_G} {bc bs : Nat} (X : am_Cx G cX3_isPassed RX3 "isPassed" rm_X3_isPassed (some .boolean) 3 bc bs true) : am_S G 27 (t_X3_isPassed_27) := by
  unfold t_X3_isPassed_27
  refine as_iconst (pc := 27) X dX3_isPassed_27 (by decide) ?_
  exact s_X3_isPassed_28 X
theorem s_X3_isPassed_0 {G : am_G} {bc bs : Nat} (X : am_Cx G cX3_isPassed RX3 "isPassed" rm_X3_isPassed (some .boolean) 3 bc bs true) : am_S G 0 (t_X3_isPassed_0) := by
  unfold t_X3_isPassed_0
  refine as_iload_n (pc := 0) X dX3_isPassed_0 rfl ?_
  refine as_iconst (pc := 1) X dX3_isPassed_1 (by decide) ?_
  refine as_ic_eq (pc := 2) X 27 dX3_isPassed_2 (by decide) (s_X3_isPassed_27 X) ?_
  refine as_aload_n (pc := 5) X dX3_isPassed_5 rfl ?_
  refine as_iload_n (pc := 6) X dX3_isPassed_6 rfl ?_
  refine as_iload_n (pc := 7) X dX3_isPassed_7 rfl ?_
  refine as_callV (ci := 3) (np := 2) (ix := 137) (pc := 8) X ct_X3_scoreFor (Cn := (RX3, TX3, 17)) rfl ⟨rfl, rfl⟩ aw_334 aw_335 aw_336 aw_337 aw_18 (by decide +kernel) (by decide) dX3_isPassed_8 ?_
  refine as_aload_n (pc := 11) X dX3_isPassed_11 rfl ?_
  refine as_getR (ci := 3) (j := 0) (pc := 12) X (Cn := RX3) (Tf := TX3) (N := 17) rfl rfl (by decide) iw_X3 aw_114 rfl dX3_isPassed_12 ?_
  refine as_getR (ci := 1) (j := 13) (pc := 15) X (Cn := RX1) (Tf := TX1) (N := 14) rfl rfl (by decide) iw_X1 aw_82 rfl dX3_isPassed_15 ?_
  refine as_iconst (pc := 18) X dX3_isPassed_18 (by decide) ?_
  refine as_iald (pc := 19) X dX3_isPassed_19 ?_
  refine as_ic_lt (pc := 20) X 27 dX3_isPassed_20 (by decide) (s_X3_isPassed_27 X) ?_
  refine as_iconst (pc := 23) X dX3_isPassed_23 (by decide) ?_
  exact as_goto (pc := 24) X 28 dX3_isPassed_24 (by decide) (s_X3_isPassed_28 X)
theorem s_X3_isPassed {G : am_G} {bc bs : Nat} (X : am_Cx G cX3_isPassed RX3 "isPassed" rm_X3_isPassed (some .boolean) 3 bc bs true) (h : Nat) : am_S G h (h_X3_isPassed h) := by
  unfold h_X3_isPassed
  split
  · next e => rw [e]; exact s_X3_isPassed_0 X
  exact as_bad
theorem ct_X3_isPassed : am_Ct yX3_isPassed cX3_isPassed 3 (some .boolean) rm_X3_isPassed sp_X3_isPassed := am_met (own := RX3) (nm := "isPassed") (by decide) rfl rfl (Or.inr (Or.inr (Or.inl rfl))) (fun _ _ => h_X3_isPassed) (fun _ _ _ X => s_X3_isPassed X) (fun _ _ _ _ h => h)
-- X3_answerOf
theorem dX3_answerOf_0 : decode cX3_answerOf 0 = .ok (.aload_n 0, 1) := by decide +kernel
theorem dX3_answerOf_1 : decode cX3_answerOf 1 = .ok (.getfield 31, 3) := by decide +kernel
theorem dX3_answerOf_4 : decode cX3_answerOf 4 = .ok (.iload_n 1, 1) := by decide +kernel
theorem dX3_answerOf_5 : decode cX3_answerOf 5 = .ok (.iaload, 1) := by decide +kernel
theorem dX3_answerOf_6 : decode cX3_answerOf 6 = .ok (.iconst (-1), 1) := by decide +kernel
theorem dX3_answerOf_7 : decode cX3_answerOf 7 = .ok (.if_icmp .eq 18, 3) := by decide +kernel
theorem dX3_answerOf_10 : decode cX3_answerOf 10 = .ok (.aload_n 0, 1) := by decide +kernel
theorem dX3_answerOf_11 : decode cX3_answerOf 11 = .ok (.getfield 12, 3) := by decide +kernel
theorem dX3_answerOf_14 : decode cX3_answerOf 14 = .ok (.getfield 134, 3) := by decide +kernel
theorem dX3_answerOf_17 : decode cX3_answerOf 17 = .ok (.aload_n 0, 1) := by decide +kernel
theorem dX3_answerOf_18 : decode cX3_answerOf 18 = .ok (.getfield 31, 3) := by decide +kernel
theorem dX3_answerOf_21 : decode cX3_answerOf 21 = .ok (.iload_n 1, 1) := by decide +kernel
theorem dX3_answerOf_22 : decode cX3_answerOf 22 = .ok (.iaload, 1) := by decide +kernel
theorem dX3_answerOf_23 : decode cX3_answerOf 23 = .ok (.iaload, 1) := by decide +kernel
theorem dX3_answerOf_24 : decode cX3_answerOf 24 = .ok (.ireturn, 1) := by decide +kernel
theorem dX3_answerOf_25 : decode cX3_answerOf 25 = .ok (.aload_n 0, 1) := by decide +kernel
theorem dX3_answerOf_26 : decode cX3_answerOf 26 = .ok (.iload_n 1, 1) := by decide +kernel
theorem dX3_answerOf_27 : decode cX3_answerOf 27 = .ok (.aload_n 0, 1) := by decide +kernel
theorem dX3_answerOf_28 : decode cX3_answerOf 28 = .ok (.getfield 37, 3) := by decide +kernel
theorem dX3_answerOf_31 : decode cX3_answerOf 31 = .ok (.iload_n 1, 1) := by decide +kernel
theorem dX3_answerOf_32 : decode cX3_answerOf 32 = .ok (.iaload, 1) := by decide +kernel
theorem dX3_answerOf_33 : decode cX3_answerOf 33 = .ok (.invokevirtual 153, 3) := by decide +kernel
theorem dX3_answerOf_36 : decode cX3_answerOf 36 = .ok (.ifCond .eq 12, 3) := by decide +kernel
theorem dX3_answerOf_39 : decode cX3_answerOf 39 = .ok (.aload_n 0, 1) := by decide +kernel
theorem dX3_answerOf_40 : decode cX3_answerOf 40 = .ok (.getfield 37, 3) := by decide +kernel
theorem dX3_answerOf_43 : decode cX3_answerOf 43 = .ok (.iload_n 1, 1) := by decide +kernel
theorem dX3_answerOf_44 : decode cX3_answerOf 44 = .ok (.iaload, 1) := by decide +kernel
theorem dX3_answerOf_45 : decode cX3_answerOf 45 = .ok (.goto 4, 3) := by decide +kernel
theorem dX3_answerOf_48 : decode cX3_answerOf 48 = .ok (.iconst (-1), 1) := by decide +kernel
theorem dX3_answerOf_49 : decode cX3_answerOf 49 = .ok (.ireturn, 1) := by decide +kernel
def t_X3_answerOf_49 : am_T := tb_iret
def t_X3_answerOf_48 : am_T := tb_const (-1) <|
  t_X3_answerOf_49
def t_X3_answerOf_25 : am_T := tb_aload 0 <|
  tb_iload 1 <|
  tb_aload 0 <|
  tb_getR 3 7 <|
  tb_iload 1 <|
  tb_iald <|
  tb_callV 3 sp_X3_isPassed 3 <|
  tb_if (fun x => x = 0) (t_X3_answerOf_48) <|
  tb_aload 0 <|
  tb_getR 3 7 <|
  tb_iload 1 <|
  tb_iald <|
  t_X3_answerOf_49
def t_X3_answerOf_0 : am_T := tb_aload 0 <|
  tb_getR 3 5 <|
  tb_iload 1 <|
  tb_iald <|
  tb_const (-1) <|
  tb_ic (fun x y => x = y) (t_X3_answerOf_25) <|
  tb_aload 0 <|
  tb_getR 3 0 <|
  tb_getR 1 12 <|
  tb_aload 0 <|
  tb_getR 3 5 <|
  tb_iload 1 <|
  tb_iald <|
  tb_iald <|
  tb_iret
def h_X3_answerOf : am_Hd := fun h => if h = 0 then t_X3_answerOf_0 else tb_bad
theorem h_X3_answerOf_0 : h_X3_answerOf 0 = t_X3_answerOf_0 := rfl
def rm_X3_answerOf : Room := { frames := 2, cells := 0, slots := 0, locals := 44 }
def sp_X3_answerOf : am_sp := fun as M Q => as.length ≤ 2 ∧ am_OK h_X3_answerOf Q 0 (am_in 2 as) M
theorem s_X3_answerOf_49 {G : am_G} {bc bs : Nat} (X : am_Cx G cX3_answerOf RX3 "answerOf" rm_X3_answerOf (some .int) 2 bc bs true) : am_S G 49 (t_X3_answerOf_49) := by
  unfold t_X3_answerOf_49
  exact as_iret (pc := 49) X ⟨rfl, rfl⟩ rfl dX3_answerOf_49
theorem s_X3_answerOf_48 {G : am_G} {bc bs : Nat} (X : am_Cx G cX3_answerOf RX3 "answerOf" rm_X3_answerOf (some .int) 2 bc bs true) : am_S G 48 (t_X3_answerOf_48) := by
  unfold t_X3_answerOf_48
  refine as_iconst (pc := 48) X dX3_answerOf_48 (by decide) ?_
  exact s_X3_answerOf_49 X
theorem s_X3_answerOf_25 {G : am_G} {bc bs : Nat} (X : am_Cx G cX3_answerOf RX3 "answerOf" rm_X3_answerOf (some .int) 2 bc bs true) : am_S G 25 (t_X3_answerOf_25) := by
  unfold t_X3_answerOf_25
  refine as_aload_n (pc := 25) X dX3_answerOf_25 rfl ?_
  refine as_iload_n (pc := 26) X dX3_answerOf_26 rfl ?_
  refine as_aload_n (pc := 27) X dX3_answerOf_27 rfl ?_
  refine as_getR (ci := 3) (j := 7) (pc := 28) X (Cn := RX3) (Tf := TX3) (N := 17) rfl rfl (by decide) iw_X3 aw_125 rfl dX3_answerOf_28 ?_
  refine as_iload_n (pc := 31) X dX3_answerOf_31 rfl ?_
  refine as_iald (pc := 32) X dX3_answerOf_32 ?_
  refine as_callV (ci := 3) (np := 2) (ix := 153) (pc := 33) X ct_X3_isPassed (Cn := (RX3, TX3, 17)) rfl ⟨rfl, rfl⟩ aw_354 aw_356 aw_10 aw_357 aw_18 (by decide +kernel) (by decide) dX3_answerOf_33 ?_
  refine as_if_eq (pc := 36) X 48 dX3_answerOf_36 (by decide) (s_X3_answerOf_48 X) ?_
  refine as_aload_n (pc := 39) X dX3_answerOf_39 rfl ?_
  refine as_getR (ci := 3) (j := 7) (pc := 40) X (Cn := RX3) (Tf := TX3) (N := 17) rfl rfl (by decide) iw_X3 aw_125 rfl dX3_answerOf_40 ?_
  refine as_iload_n (pc := 43) X dX3_answerOf_43 rfl ?_
  refine as_iald (pc := 44) X dX3_answerOf_44 ?_
  exact as_goto (pc := 45) X 49 dX3_answerOf_45 (by decide) (s_X3_answerOf_49 X)
theorem s_X3_answerOf_0 {G : am_G} {bc bs : Nat} (X : am_Cx G cX3_answerOf RX3 "answerOf" rm_X3_answerOf (some .int) 2 bc bs true) : am_S G 0 (t_X3_answerOf_0) := by
  unfold t_X3_answerOf_0
  refine as_aload_n (pc := 0) X dX3_answerOf_0 rfl ?_
  refine as_getR (ci := 3) (j := 5) (pc := 1) X (Cn := RX3) (Tf := TX3) (N := 17) rfl rfl (by decide) iw_X3 aw_123 rfl dX3_answerOf_1 ?_
  refine as_iload_n (pc := 4) X dX3_answerOf_4 rfl ?_
  refine as_iald (pc := 5) X dX3_answerOf_5 ?_
  refine as_iconst (pc := 6) X dX3_answerOf_6 (by decide) ?_
  refine as_ic_eq (pc := 7) X 25 dX3_answerOf_7 (by decide) (s_X3_answerOf_25 X) ?_
  refine as_aload_n (pc := 10) X dX3_answerOf_10 rfl ?_
  refine as_getR (ci := 3) (j := 0) (pc := 11) X (Cn := RX3) (Tf := TX3) (N := 17) rfl rfl (by decide) iw_X3 aw_114 rfl dX3_answerOf_11 ?_
  refine as_getR (ci := 1) (j := 12) (pc := 14) X (Cn := RX1) (Tf := TX1) (N := 14) rfl rfl (by decide) iw_X1 aw_79 rfl dX3_answerOf_14 ?_
  refine as_aload_n (pc := 17) X dX3_answerOf_17 rfl ?_
  refine as_getR (ci := 3) (j := 5) (pc := 18) X (Cn := RX3) (Tf := TX3) (N := 17) rfl rfl (by decide) iw_X3 aw_123 rfl dX3_answerOf_18 ?_
  refine as_iload_n (pc := 21) X dX3_answerOf_21 rfl ?_
  refine as_iald (pc := 22) X dX3_answerOf_22 ?_
  refine as_iald (pc := 23) X dX3_answerOf_23 ?_
  exact as_iret (pc := 24) X ⟨rfl, rfl⟩ rfl dX3_answerOf_24
theorem s_X3_answerOf {G : am_G} {bc bs : Nat} (X : am_Cx G cX3_answerOf RX3 "answerOf" rm_X3_answerOf (some .int) 2 bc bs true) (h : Nat) : am_S G h (h_X3_answerOf h) := by
  unfold h_X3_answerOf
  split
  · next e => rw [e]; exact s_X3_answerOf_0 X
  exact as_bad
theorem ct_X3_answerOf : am_Ct yX3_answerOf cX3_answerOf 2 (some .int) rm_X3_answerOf sp_X3_answerOf := am_met (own := RX3) (nm := "answerOf") (by decide) rfl rfl (Or.inr (Or.inl rfl)) (fun _ _ => h_X3_answerOf) (fun _ _ _ X => s_X3_answerOf X) (fun _ _ _ _ h => h)
-- X3_join
theorem dX3_join_0 : decode cX3_join 0 = .ok (.iload_n 1, 1) := by decide +kernel
theorem dX3_join_1 : decode cX3_join 1 = .ok (.iload_n 2, 1) := by decide +kernel
theorem dX3_join_2 : decode cX3_join 2 = .ok (.invokestatic 160, 3) := by decide +kernel
theorem dX3_join_5 : decode cX3_join 5 = .ok (.istore 4, 2) := by decide +kernel
theorem dX3_join_7 : decode cX3_join 7 = .ok (.iload_n 1, 1) := by decide +kernel
theorem dX3_join_8 : decode cX3_join 8 = .ok (.iload_n 2, 1) := by decide +kernel
theorem dX3_join_9 : decode cX3_join 9 = .ok (.invokestatic 165, 3) := by decide +kernel
theorem dX3_join_12 : decode cX3_join 12 = .ok (.istore 5, 2) := by decide +kernel
theorem dX3_join_14 : decode cX3_join 14 = .ok (.iconst 0, 1) := by decide +kernel
theorem dX3_join_15 : decode cX3_join 15 = .ok (.istore 6, 2) := by decide +kernel
theorem dX3_join_17 : decode cX3_join 17 = .ok (.iload 6, 2) := by decide +kernel
theorem dX3_join_19 : decode cX3_join 19 = .ok (.iload_n 3, 1) := by decide +kernel
theorem dX3_join_20 : decode cX3_join 20 = .ok (.if_icmp .gt 40, 3) := by decide +kernel
theorem dX3_join_23 : decode cX3_join 23 = .ok (.aload_n 0, 1) := by decide +kernel
theorem dX3_join_24 : decode cX3_join 24 = .ok (.getfield 52, 3) := by decide +kernel
theorem dX3_join_27 : decode cX3_join 27 = .ok (.aload_n 0, 1) := by decide +kernel
theorem dX3_join_28 : decode cX3_join 28 = .ok (.getfield 18, 3) := by decide +kernel
theorem dX3_join_31 : decode cX3_join 31 = .ok (.iload 6, 2) := by decide +kernel
theorem dX3_join_33 : decode cX3_join 33 = .ok (.iaload, 1) := by decide +kernel
theorem dX3_join_34 : decode cX3_join 34 = .ok (.iaload, 1) := by decide +kernel
theorem dX3_join_35 : decode cX3_join 35 = .ok (.iload 5, 2) := by decide +kernel
theorem dX3_join_37 : decode cX3_join 37 = .ok (.if_icmp .ne 17, 3) := by decide +kernel
theorem dX3_join_40 : decode cX3_join 40 = .ok (.aload_n 0, 1) := by decide +kernel
theorem dX3_join_41 : decode cX3_join 41 = .ok (.getfield 52, 3) := by decide +kernel
theorem dX3_join_44 : decode cX3_join 44 = .ok (.aload_n 0, 1) := by decide +kernel
theorem dX3_join_45 : decode cX3_join 45 = .ok (.getfield 18, 3) := by decide +kernel
theorem dX3_join_48 : decode cX3_join 48 = .ok (.iload 6, 2) := by decide +kernel
theorem dX3_join_50 : decode cX3_join 50 = .ok (.iaload, 1) := by decide +kernel
theorem dX3_join_51 : decode cX3_join 51 = .ok (.iload 4, 2) := by decide +kernel
theorem dX3_join_53 : decode cX3_join 53 = .ok (.iastore, 1) := by decide +kernel
theorem dX3_join_54 : decode cX3_join 54 = .ok (.iinc 6 1, 3) := by decide +kernel
theorem dX3_join_57 : decode cX3_join 57 = .ok (.goto (-40), 3) := by decide +kernel
theorem dX3_join_60 : decode cX3_join 60 = .ok (.return_, 1) := by decide +kernel
def t_X3_join_60 : am_T := tb_ret
def t_X3_join_54 : am_T := tb_iinc 6 1 <|
  tb_head 17
def t_X3_join_17 : am_T := tb_iload 6 <|
  tb_iload 3 <|
  tb_ic (fun x y => y < x) (t_X3_join_60) <|
  tb_aload 0 <|
  tb_getR 3 12 <|
  tb_aload 0 <|
  tb_getR 3 1 <|
  tb_iload 6 <|
  tb_iald <|
  tb_iald <|
  tb_iload 5 <|
  tb_ic (fun x y => x ≠ y) (t_X3_join_54) <|
  tb_aload 0 <|
  tb_getR 3 12 <|
  tb_aload 0 <|
  tb_getR 3 1 <|
  tb_iload 6 <|
  tb_iald <|
  tb_iload 4 <|
  tb_iast <|
  t_X3_join_54
def t_X3_join_0 : am_T := tb_iload 1 <|
  tb_iload 2 <|
  tb_mm (fun x y => if y < x then y else x) <|
  tb_istore 4 <|
  tb_iload 1 <|
  tb_iload 2 <|
  tb_mm (fun x y => if x < y then y else x) <|
  tb_istore 5 <|
  tb_const 0 <|
  tb_istore 6 <|
  tb_head 17
def h_X3_join : am_Hd := fun h => if h = 0 then t_X3_join_0 else if h = 17 then t_X3_join_17 else tb_bad
theorem h_X3_join_0 : h_X3_join 0 = t_X3_join_0 := rfl
theorem h_X3_join_17 : h_X3_join 17 = t_X3_join_17 := rfl
def rm_X3_join : Room := { frames := 1, cells := 0, slots := 0, locals := 21 }
def sp_X3_join : am_sp := fun as M Q => as.length ≤ 7 ∧ am_OK h_X3_join Q 0 (am_in 7 as) M
theorem s_X3_join_60 {G : am_G} {bc bs : Nat} (X : am_Cx G cX3_join RX3 "join" rm_X3_join none 7 bc bs true) : am_S G 60 (t_X3_join_60) := by
  unfold t_X3_join_60
  exact as_ret (pc := 60) X ⟨rfl, rfl⟩ rfl dX3_join_60
theorem s_X3_join_54 {G : am_G} {bc bs : Nat} (X : am_Cx G cX3_join RX3 "join" rm_X3_join none 7 bc bs true) : am_S G 54 (t_X3_join_54) := by
  unfold t_X3_join_54
  refine as_iinc (pc := 54) X dX3_join_54 (by decide) (by decide) ?_
  exact as_goto (pc := 57) X 17 dX3_join_57 (by decide) (as_head)
theorem s_X3_join_17 {G : am_G} {bc bs : Nat} (X : am_Cx G cX3_join RX3 "join" rm_X3_join none 7 bc bs true) : am_S G 17 (t_X3_join_17) := by
  unfold t_X3_join_17
  refine as_iload (pc := 17) X dX3_join_17 ?_
  refine as_iload_n (pc := 19) X dX3_join_19 rfl ?_
  refine as_ic_gt (pc := 20) X 60 dX3_join_20 (by decide) (s_X3_join_60 X) ?_
  refine as_aload_n (pc := 23) X dX3_join_23 rfl ?_
  refine as_getR (ci := 3) (j := 12) (pc := 24) X (Cn := RX3) (Tf := TX3) (N := 17) rfl rfl (by decide) iw_X3 aw_132 rfl dX3_join_24 ?_
  refine as_aload_n (pc := 27) X dX3_join_27 rfl ?_
  refine as_getR (ci := 3) (j := 1) (pc := 28) X (Cn := RX3) (Tf := TX3) (N := 17) rfl rfl (by decide) iw_X3 aw_116 rfl dX3_join_28 ?_
  refine as_iload (pc := 31) X dX3_join_31 ?_
  refine as_iald (pc := 33) X dX3_join_33 ?_
  refine as_iald (pc := 34) X dX3_join_34 ?_
  refine as_iload (pc := 35) X dX3_join_35 ?_
  refine as_ic_ne (pc := 37) X 54 dX3_join_37 (by decide) (s_X3_join_54 X) ?_
  refine as_aload_n (pc := 40) X dX3_join_40 rfl ?_
  refine as_getR (ci := 3) (j := 12) (pc := 41) X (Cn := RX3) (Tf := TX3) (N := 17) rfl rfl (by decide) iw_X3 aw_132 rfl dX3_join_41 ?_
  refine as_aload_n (pc := 44) X dX3_join_44 rfl ?_
  refine as_getR (ci := 3) (j := 1) (pc := 45) X (Cn := RX3) (Tf := TX3) (N := 17) rfl rfl (by decide) iw_X3 aw_116 rfl dX3_join_45 ?_
  refine as_iload (pc := 48) X dX3_join_48 ?_
  refine as_iald (pc := 50) X dX3_join_50 ?_
  refine as_iload (pc := 51) X dX3_join_51 ?_
  refine as_iast (pc := 53) X dX3_join_53 ?_
  exact s_X3_join_54 X
theorem s_X3_join_0 {G : am_G} {bc bs : Nat} (X : am_Cx G cX3_join RX3 "join" rm_X3_join none 7 bc bs true) : am_S G 0 (t_X3_join_0) := by
  unfold t_X3_join_0
  refine as_iload_n (pc := 0) X dX3_join_0 rfl ?_
  refine as_iload_n (pc := 1) X dX3_join_1 rfl ?_
  refine as_mmin (pc := 2) X aw_366 aw_367 aw_24 aw_368 (by decide) (by decide) dX3_join_2 ?_
  refine as_istore (pc := 5) X dX3_join_5 ?_ (by decide)
  refine as_iload_n (pc := 7) X dX3_join_7 rfl ?_
  refine as_iload_n (pc := 8) X dX3_join_8 rfl ?_
  refine as_mmax (pc := 9) X aw_369 aw_370 aw_24 aw_371 (by decide) (by decide) dX3_join_9 ?_
  refine as_istore (pc := 12) X dX3_join_12 ?_ (by decide)
  refine as_iconst (pc := 14) X dX3_join_14 (by decide) ?_
  refine as_istore (pc := 15) X dX3_join_15 ?_ (by decide)
  exact as_head
theorem s_X3_join {G : am_G} {bc bs : Nat} (X : am_Cx G cX3_join RX3 "join" rm_X3_join none 7 bc bs true) (h : Nat) : am_S G h (h_X3_join h) := by
  unfold h_X3_join
  split
  · next e => rw [e]; exact s_X3_join_0 X
  split
  · next e => rw [e]; exact s_X3_join_17 X
  exact as_bad
theorem ct_X3_join : am_Ct yX3_join cX3_join 7 none rm_X3_join sp_X3_join := am_met (own := RX3) (nm := "join") (by decide) rfl rfl (Or.inl rfl) (fun _ _ => h_X3_join) (fun _ _ _ X => s_X3_join X) (fun _ _ _ _ h => h)
-- X3_joinRivals
theorem dX3_joinRivals_0 : decode cX3_joinRivals 0 = .ok (.iconst 0, 1) := by decide +kernel
theorem dX3_joinRivals_1 : decode cX3_joinRivals 1 = .ok (.istore_n 2, 1) := by decide +kernel
theorem dX3_joinRivals_2 : decode cX3_joinRivals 2 = .ok (.iload_n 2, 1) := by decide +kernel
theorem dX3_joinRivals_3 : decode cX3_joinRivals 3 = .ok (.aload_n 0, 1) := by decide +kernel
theorem dX3_joinRivals_4 : decode cX3_joinRivals 4 = .ok (.getfield 22, 3) := by decide +kernel
theorem dX3_joinRivals_7 : decode cX3_joinRivals 7 = .ok (.iload_n 1, 1) := by decide +kernel
theorem dX3_joinRivals_8 : decode cX3_joinRivals 8 = .ok (.iaload, 1) := by decide +kernel
theorem dX3_joinRivals_9 : decode cX3_joinRivals 9 = .ok (.if_icmp .ge 85, 3) := by decide +kernel
theorem dX3_joinRivals_12 : decode cX3_joinRivals 12 = .ok (.aload_n 0, 1) := by decide +kernel
theorem dX3_joinRivals_13 : decode cX3_joinRivals 13 = .ok (.getfield 18, 3) := by decide +kernel
theorem dX3_joinRivals_16 : decode cX3_joinRivals 16 = .ok (.iload_n 2, 1) := by decide +kernel
theorem dX3_joinRivals_17 : decode cX3_joinRivals 17 = .ok (.iaload, 1) := by decide +kernel
theorem dX3_joinRivals_18 : decode cX3_joinRivals 18 = .ok (.istore_n 3, 1) := by decide +kernel
theorem dX3_joinRivals_19 : decode cX3_joinRivals 19 = .ok (.aload_n 0, 1) := by decide +kernel
theorem dX3_joinRivals_20 : decode cX3_joinRivals 20 = .ok (.getfield 40, 3) := by decide +kernel
theorem dX3_joinRivals_23 : decode cX3_joinRivals 23 = .ok (.iload_n 1, 1) := by decide +kernel
theorem dX3_joinRivals_24 : decode cX3_joinRivals 24 = .ok (.iaload, 1) := by decide +kernel
theorem dX3_joinRivals_25 : decode cX3_joinRivals 25 = .ok (.iload_n 3, 1) := by decide +kernel
theorem dX3_joinRivals_26 : decode cX3_joinRivals 26 = .ok (.invokestatic 119, 3) := by decide +kernel
theorem dX3_joinRivals_29 : decode cX3_joinRivals 29 = .ok (.ifCond .eq 59, 3) := by decide +kernel
theorem dX3_joinRivals_32 : decode cX3_joinRivals 32 = .ok (.aload_n 0, 1) := by decide +kernel
theorem dX3_joinRivals_33 : decode cX3_joinRivals 33 = .ok (.getfield 52, 3) := by decide +kernel
theorem dX3_joinRivals_36 : decode cX3_joinRivals 36 = .ok (.iload_n 3, 1) := by decide +kernel
theorem dX3_joinRivals_37 : decode cX3_joinRivals 37 = .ok (.iaload, 1) := by decide +kernel
theorem dX3_joinRivals_38 : decode cX3_joinRivals 38 = .ok (.aload_n 0, 1) := by decide +kernel
theorem dX3_joinRivals_39 : decode cX3_joinRivals 39 = .ok (.getfield 52, 3) := by decide +kernel
theorem dX3_joinRivals_42 : decode cX3_joinRivals 42 = .ok (.iload_n 1, 1) := by decide +kernel
theorem dX3_joinRivals_43 : decode cX3_joinRivals 43 = .ok (.iaload, 1) := by decide +kernel
theorem dX3_joinRivals_44 : decode cX3_joinRivals 44 = .ok (.if_icmp .eq 44, 3) := by decide +kernel
theorem dX3_joinRivals_47 : decode cX3_joinRivals 47 = .ok (.aload_n 0, 1) := by decide +kernel
theorem dX3_joinRivals_48 : decode cX3_joinRivals 48 = .ok (.iload_n 1, 1) := by decide +kernel
theorem dX3_joinRivals_49 : decode cX3_joinRivals 49 = .ok (.iload_n 3, 1) := by decide +kernel
theorem dX3_joinRivals_50 : decode cX3_joinRivals 50 = .ok (.invokevirtual 153, 3) := by decide +kernel
theorem dX3_joinRivals_53 : decode cX3_joinRivals 53 = .ok (.ifCond .eq 35, 3) := by decide +kernel
theorem dX3_joinRivals_56 : decode cX3_joinRivals 56 = .ok (.aload_n 0, 1) := by decide +kernel
theorem dX3_joinRivals_57 : decode cX3_joinRivals 57 = .ok (.aload_n 0, 1) := by decide +kernel
theorem dX3_joinRivals_58 : decode cX3_joinRivals 58 = .ok (.getfield 52, 3) := by decide +kernel
theorem dX3_joinRivals_61 : decode cX3_joinRivals 61 = .ok (.iload_n 1, 1) := by decide +kernel
theorem dX3_joinRivals_62 : decode cX3_joinRivals 62 = .ok (.iaload, 1) := by decide +kernel
theorem dX3_joinRivals_63 : decode cX3_joinRivals 63 = .ok (.aload_n 0, 1) := by decide +kernel
theorem dX3_joinRivals_64 : decode cX3_joinRivals 64 = .ok (.getfield 52, 3) := by decide +kernel
theorem dX3_joinRivals_67 : decode cX3_joinRivals 67 = .ok (.iload_n 3, 1) := by decide +kernel
theorem dX3_joinRivals_68 : decode cX3_joinRivals 68 = .ok (.iaload, 1) := by decide +kernel
theorem dX3_joinRivals_69 : decode cX3_joinRivals 69 = .ok (.aload_n 0, 1) := by decide +kernel
theorem dX3_joinRivals_70 : decode cX3_joinRivals 70 = .ok (.getfield 22, 3) := by decide +kernel
theorem dX3_joinRivals_73 : decode cX3_joinRivals 73 = .ok (.iload_n 1, 1) := by decide +kernel
theorem dX3_joinRivals_74 : decode cX3_joinRivals 74 = .ok (.iaload, 1) := by decide +kernel
theorem dX3_joinRivals_75 : decode cX3_joinRivals 75 = .ok (.invokevirtual 156, 3) := by decide +kernel
theorem dX3_joinRivals_78 : decode cX3_joinRivals 78 = .ok (.aload_n 0, 1) := by decide +kernel
theorem dX3_joinRivals_79 : decode cX3_joinRivals 79 = .ok (.getfield 46, 3) := by decide +kernel
theorem dX3_joinRivals_82 : decode cX3_joinRivals 82 = .ok (.iload_n 1, 1) := by decide +kernel
theorem dX3_joinRivals_83 : decode cX3_joinRivals 83 = .ok (.dup2, 1) := by decide +kernel
theorem dX3_joinRivals_84 : decode cX3_joinRivals 84 = .ok (.iaload, 1) := by decide +kernel
theorem dX3_joinRivals_85 : decode cX3_joinRivals 85 = .ok (.iconst 1, 1) := by decide +kernel
theorem dX3_joinRivals_86 : decode cX3_joinRivals 86 = .ok (.iadd, 1) := by decide +kernel
theorem dX3_joinRivals_87 : decode cX3_joinRivals 87 = .ok (.iastore, 1) := by decide +kernel
theorem dX3_joinRivals_88 : decode cX3_joinRivals 88 = .ok (.iinc 2 1, 3) := by decide +kernel
theorem dX3_joinRivals_91 : decode cX3_joinRivals 91 = .ok (.goto (-89), 3) := by decide +kernel
theorem dX3_joinRivals_94 : decode cX3_joinRivals 94 = .ok (.return_, 1) := by decide +kernel
def t_X3_joinRivals_94 : am_T := tb_ret
def t_X3_joinRivals_88 : am_T := tb_iinc 2 1 <|
  tb_head 2
def t_X3_joinRivals_2 : am_T := tb_iload 2 <|
  tb_aload 0 <|
  tb_getR 3 2 <|
  tb_iload 1 <|
  tb_iald <|
  tb_ic (fun x y => y ≤ x) (t_X3_joinRivals_94) <|
  tb_aload 0 <|
  tb_getR 3 1 <|
  tb_iload 2 <|
  tb_iald <|
  tb_istore 3 <|
  tb_aload 0 <|
  tb_getR 3 8 <|
  tb_iload 1 <|
  tb_iald <|
  tb_iload 3 <|
  tb_callS sp_X4_isIn 2 <|
  tb_if (fun x => x = 0) (t_X3_joinRivals_88) <|
  tb_aload 0 <|
  tb_getR 3 12 <|
  tb_iload 3 <|
  tb_iald <|
  tb_aload 0 <|
  tb_getR 3 12 <|
  tb_iload 1 <|
  tb_iald <|
  tb_ic (fun x y => x = y) (t_X3_joinRivals_88) <|
  tb_aload 0 <|
  tb_iload 1 <|
  tb_iload 3 <|
  tb_callV 3 sp_X3_isPassed 3 <|
  tb_if (fun x => x = 0) (t_X3_joinRivals_88) <|
  tb_aload 0 <|
  tb_aload 0 <|
  tb_getR 3 12 <|
  tb_iload 1 <|
  tb_iald <|
  tb_aload 0 <|
  tb_getR 3 12 <|
  tb_iload 3 <|
  tb_iald <|
  tb_aload 0 <|
  tb_getR 3 2 <|
  tb_iload 1 <|
  tb_iald <|
  tb_callV 3 sp_X3_join 4 <|
  tb_aload 0 <|
  tb_getR 3 10 <|
  tb_iload 1 <|
  tb_dup2 <|
  tb_iald <|
  tb_const 1 <|
  tb_bin (fun x y => x + y) <|
  tb_iast <|
  t_X3_joinRivals_88
def t_X3_joinRivals_0 : am_T := tb_const 0 <|
  tb_istore 2 <|
  tb_head 2
def h_X3_joinRivals : am_Hd := fun h => if h = 0 then t_X3_joinRivals_0 else if h = 2 then t_X3_joinRivals_2 else tb_bad
theorem h_X3_joinRivals_0 : h_X3_joinRivals 0 = t_X3_joinRivals_0 := rfl
theorem h_X3_joinRivals_2 : h_X3_joinRivals 2 = t_X3_joinRivals_2 := rfl
def rm_X3_joinRivals : Room := { frames := 2, cells := 0, slots := 0, locals := 47 }
def sp_X3_joinRivals : am_sp := fun as M Q => as.length ≤ 4 ∧ am_OK h_X3_joinRivals Q 0 (am_in 4 as) M
theorem s_X3_joinRivals_94 {G : am_G} {bc bs : Nat} (X : am_Cx G cX3_joinRivals RX3 "joinRivals" rm_X3_joinRivals none 4 bc bs true) : am_S G 94 (t_X3_joinRivals_94) := by
  unfold t_X3_joinRivals_94
  exact as_ret (pc := 94) X ⟨rfl, rfl⟩ rfl dX3_joinRivals_94
theorem s_X3_joinRivals_88 {G : am_G} {bc bs : Nat} (X : am_Cx G cX3_joinRivals RX3 "joinRivals" rm_X3_joinRivals none 4 bc bs true) : am_S G 88 (t_X3_joinRivals_88) := by
  unfold t_X3_joinRivals_88
  refine as_iinc (pc := 88) X dX3_joinRivals_88 (by decide) (by decide) ?_
  exact as_goto (pc := 91) X 2 dX3_joinRivals_91 (by decide) (as_head)
theorem s_X3_joinRivals_2 {G : am_G} {bc bs : Nat} (X : am_Cx G cX3_joinRivals RX3 "joinRivals" rm_X3_joinRivals none 4 bc bs true) : am_S G 2 (t_X3_joinRivals_2) := by
  unfold t_X3_joinRivals_2
  refine as_iload_n (pc := 2) X dX3_joinRivals_2 rfl ?_
  refine as_aload_n (pc := 3) X dX3_joinRivals_3 rfl ?_
  refine as_getR (ci := 3) (j := 2) (pc := 4) X (Cn := RX3) (Tf := TX3) (N := 17) rfl rfl (by decide) iw_X3 aw_118 rfl dX3_joinRivals_4 ?_
  refine as_iload_n (pc := 7) X dX3_joinRivals_7 rfl ?_
  refine as_iald (pc := 8) X dX3_joinRivals_8 ?_
  refine as_ic_ge (pc := 9) X 94 dX3_joinRivals_9 (by decide) (s_X3_joinRivals_94 X) ?_
  refine as_aload_n (pc := 12) X dX3_joinRivals_12 rfl ?_
  refine as_getR (ci := 3) (j := 1) (pc := 13) X (Cn := RX3) (Tf := TX3) (N := 17) rfl rfl (by decide) iw_X3 aw_116 rfl dX3_joinRivals_13 ?_
  refine as_iload_n (pc := 16) X dX3_joinRivals_16 rfl ?_
  refine as_iald (pc := 17) X dX3_joinRivals_17 ?_
  refine as_istore_n (pc := 18) X dX3_joinRivals_18 rfl ?_ (by decide)
  refine as_aload_n (pc := 19) X dX3_joinRivals_19 rfl ?_
  refine as_getR (ci := 3) (j := 8) (pc := 20) X (Cn := RX3) (Tf := TX3) (N := 17) rfl rfl (by decide) iw_X3 aw_126 rfl dX3_joinRivals_20 ?_
  refine as_iload_n (pc := 23) X dX3_joinRivals_23 rfl ?_
  refine as_iald (pc := 24) X dX3_joinRivals_24 ?_
  refine as_iload_n (pc := 25) X dX3_joinRivals_25 rfl ?_
  refine as_callSN (np := 2) (ix := 119) (pc := 26) X ct_X4_isIn ⟨rfl, rfl⟩ (host := RX4) (by simp [am_NW]) aw_297 aw_298 aw_17 (by decide +kernel) (by decide) dX3_joinRivals_26 ?_
  refine as_if_eq (pc := 29) X 88 dX3_joinRivals_29 (by decide) (s_X3_joinRivals_88 X) ?_
  refine as_aload_n (pc := 32) X dX3_joinRivals_32 rfl ?_
  refine as_getR (ci := 3) (j := 12) (pc := 33) X (Cn := RX3) (Tf := TX3) (N := 17) rfl rfl (by decide) iw_X3 aw_132 rfl dX3_joinRivals_33 ?_
  refine as_iload_n (pc := 36) X dX3_joinRivals_36 rfl ?_
  refine as_iald (pc := 37) X dX3_joinRivals_37 ?_
  refine as_aload_n (pc := 38) X dX3_joinRivals_38 rfl ?_
  refine as_getR (ci := 3) (j := 12) (pc := 39) X (Cn := RX3) (Tf := TX3) (N := 17) rfl rfl (by decide) iw_X3 aw_132 rfl dX3_joinRivals_39 ?_
  refine as_iload_n (pc := 42) X dX3_joinRivals_42 rfl ?_
  refine as_iald (pc := 43) X dX3_joinRivals_43 ?_
  refine as_ic_eq (pc := 44) X 88 dX3_joinRivals_44 (by decide) (s_X3_joinRivals_88 X) ?_
  refine as_aload_n (pc := 47) X dX3_joinRivals_47 rfl ?_
  refine as_iload_n (pc := 48) X dX3_joinRivals_48 rfl ?_
  refine as_iload_n (pc := 49) X dX3_joinRivals_49 rfl ?_
  refine as_callV (ci := 3) (np := 2) (ix := 153) (pc := 50) X ct_X3_isPassed (Cn := (RX3, TX3, 17)) rfl ⟨rfl, rfl⟩ aw_354 aw_356 aw_10 aw_357 aw_18 (by decide +kernel) (by decide) dX3_joinRivals_50 ?_
  refine as_if_eq (pc := 53) X 88 dX3_joinRivals_53 (by decide) (s_X3_joinRivals_88 X) ?_
  refine as_aload_n (pc := 56) X dX3_joinRivals_56 rfl ?_
  refine as_aload_n (pc := 57) X dX3_joinRivals_57 rfl ?_
  refine as_getR (ci := 3) (j := 12) (pc := 58) X (Cn := RX3) (Tf := TX3) (N := 17) rfl rfl (by decide) iw_X3 aw_132 rfl dX3_joinRivals_58 ?_
  refine as_iload_n (pc := 61) X dX3_joinRivals_61 rfl ?_
  refine as_iald (pc := 62) X dX3_joinRivals_62 ?_
  refine as_aload_n (pc := 63) X dX3_joinRivals_63 rfl ?_
  refine as_getR (ci := 3) (j := 12) (pc := 64) X (Cn := RX3) (Tf := TX3) (N := 17) rfl rfl (by decide) iw_X3 aw_132 rfl dX3_joinRivals_64 ?_
  refine as_iload_n (pc := 67) X dX3_joinRivals_67 rfl ?_
  refine as_iald (pc := 68) X dX3_joinRivals_68 ?_
  refine as_aload_n (pc := 69) X dX3_joinRivals_69 rfl ?_
  refine as_getR (ci := 3) (j := 2) (pc := 70) X (Cn := RX3) (Tf := TX3) (N := 17) rfl rfl (by decide) iw_X3 aw_118 rfl dX3_joinRivals_70 ?_
  refine as_iload_n (pc := 73) X dX3_joinRivals_73 rfl ?_
  refine as_iald (pc := 74) X dX3_joinRivals_74 ?_
  refine as_callV (ci := 3) (np := 3) (ix := 156) (pc := 75) X ct_X3_join (Cn := (RX3, TX3, 17)) rfl ⟨rfl, rfl⟩ aw_362 aw_364 aw_12 aw_365 aw_18 (by decide +kernel) (by decide) dX3_joinRivals_75 ?_
  refine as_aload_n (pc := 78) X dX3_joinRivals_78 rfl ?_
  refine as_getR (ci := 3) (j := 10) (pc := 79) X (Cn := RX3) (Tf := TX3) (N := 17) rfl rfl (by decide) iw_X3 aw_129 rfl dX3_joinRivals_79 ?_
  refine as_iload_n (pc := 82) X dX3_joinRivals_82 rfl ?_
  refine as_dup2 (pc := 83) X dX3_joinRivals_83 ?_
  refine as_iald (pc := 84) X dX3_joinRivals_84 ?_
  refine as_iconst (pc := 85) X dX3_joinRivals_85 (by decide) ?_
  refine as_iadd (pc := 86) X dX3_joinRivals_86 ?_
  refine as_iast (pc := 87) X dX3_joinRivals_87 ?_
  exact s_X3_joinRivals_88 X
theorem s_X3_joinRivals_0 {G : am_G} {bc bs : Nat} (X : am_Cx G cX3_joinRivals RX3 "joinRivals" rm_X3_joinRivals none 4 bc bs true) : am_S G 0 (t_X3_joinRivals_0) := by
  unfold t_X3_joinRivals_0
  refine as_iconst (pc := 0) X dX3_joinRivals_0 (by decide) ?_
  refine as_istore_n (pc := 1) X dX3_joinRivals_1 rfl ?_ (by decide)
  exact as_head
theorem s_X3_joinRivals {G : am_G} {bc bs : Nat} (X : am_Cx G cX3_joinRivals RX3 "joinRivals" rm_X3_joinRivals none 4 bc bs true) (h : Nat) : am_S G h (h_X3_joinRivals h) := by
  unfold h_X3_joinRivals
  split
  · next e => rw [e]; exact s_X3_joinRivals_0 X
  split
  · next e => rw [e]; exact s_X3_joinRivals_2 X
  exact as_bad
theorem ct_X3_joinRivals : am_Ct yX3_joinRivals cX3_joinRivals 4 none rm_X3_joinRivals sp_X3_joinRivals := am_met (own := RX3) (nm := "joinRivals") (by decide) rfl rfl (Or.inl rfl) (fun _ _ => h_X3_joinRivals) (fun _ _ _ X => s_X3_joinRivals X) (fun _ _ _ _ h => h)
-- X3_addToThread
theorem dX3_addToThread_0 : decode cX3_addToThread 0 = .ok (.aload_n 0, 1) := by decide +kernel
theorem dX3_addToThread_1 : decode cX3_addToThread 1 = .ok (.iload_n 1, 1) := by decide +kernel
theorem dX3_addToThread_2 : decode cX3_addToThread 2 = .ok (.invokevirtual 147, 3) := by decide +kernel
theorem dX3_addToThread_5 : decode cX3_addToThread 5 = .ok (.istore_n 2, 1) := by decide +kernel
theorem dX3_addToThread_6 : decode cX3_addToThread 6 = .ok (.aload_n 0, 1) := by decide +kernel
theorem dX3_addToThread_7 : decode cX3_addToThread 7 = .ok (.getfield 43, 3) := by decide +kernel
theorem dX3_addToThread_10 : decode cX3_addToThread 10 = .ok (.iload_n 1, 1) := by decide +kernel
theorem dX3_addToThread_11 : decode cX3_addToThread 11 = .ok (.iload_n 2, 1) := by decide +kernel
theorem dX3_addToThread_12 : decode cX3_addToThread 12 = .ok (.iastore, 1) := by decide +kernel
theorem dX3_addToThread_13 : decode cX3_addToThread 13 = .ok (.aload_n 0, 1) := by decide +kernel
theorem dX3_addToThread_14 : decode cX3_addToThread 14 = .ok (.getfield 46, 3) := by decide +kernel
theorem dX3_addToThread_17 : decode cX3_addToThread 17 = .ok (.iload_n 1, 1) := by decide +kernel
theorem dX3_addToThread_18 : decode cX3_addToThread 18 = .ok (.iconst 0, 1) := by decide +kernel
theorem dX3_addToThread_19 : decode cX3_addToThread 19 = .ok (.iastore, 1) := by decide +kernel
theorem dX3_addToThread_20 : decode cX3_addToThread 20 = .ok (.iload_n 2, 1) := by decide +kernel
theorem dX3_addToThread_21 : decode cX3_addToThread 21 = .ok (.iconst (-1), 1) := by decide +kernel
theorem dX3_addToThread_22 : decode cX3_addToThread 22 = .ok (.if_icmp .ne 23, 3) := by decide +kernel
theorem dX3_addToThread_25 : decode cX3_addToThread 25 = .ok (.aload_n 0, 1) := by decide +kernel
theorem dX3_addToThread_26 : decode cX3_addToThread 26 = .ok (.getfield 49, 3) := by decide +kernel
theorem dX3_addToThread_29 : decode cX3_addToThread 29 = .ok (.iload_n 1, 1) := by decide +kernel
theorem dX3_addToThread_30 : decode cX3_addToThread 30 = .ok (.iconst 1, 1) := by decide +kernel
theorem dX3_addToThread_31 : decode cX3_addToThread 31 = .ok (.iastore, 1) := by decide +kernel
theorem dX3_addToThread_32 : decode cX3_addToThread 32 = .ok (.aload_n 0, 1) := by decide +kernel
theorem dX3_addToThread_33 : decode cX3_addToThread 33 = .ok (.getfield 52, 3) := by decide +kernel
theorem dX3_addToThread_36 : decode cX3_addToThread 36 = .ok (.iload_n 1, 1) := by decide +kernel
theorem dX3_addToThread_37 : decode cX3_addToThread 37 = .ok (.aload_n 0, 1) := by decide +kernel
theorem dX3_addToThread_38 : decode cX3_addToThread 38 = .ok (.getfield 22, 3) := by decide +kernel
theorem dX3_addToThread_41 : decode cX3_addToThread 41 = .ok (.iload_n 1, 1) := by decide +kernel
theorem dX3_addToThread_42 : decode cX3_addToThread 42 = .ok (.iaload, 1) := by decide +kernel
theorem dX3_addToThread_43 : decode cX3_addToThread 43 = .ok (.iastore, 1) := by decide +kernel
theorem dX3_addToThread_44 : decode cX3_addToThread 44 = .ok (.return_, 1) := by decide +kernel
theorem dX3_addToThread_45 : decode cX3_addToThread 45 = .ok (.aload_n 0, 1) := by decide +kernel
theorem dX3_addToThread_46 : decode cX3_addToThread 46 = .ok (.getfield 49, 3) := by decide +kernel
theorem dX3_addToThread_49 : decode cX3_addToThread 49 = .ok (.iload_n 1, 1) := by decide +kernel
theorem dX3_addToThread_50 : decode cX3_addToThread 50 = .ok (.aload_n 0, 1) := by decide +kernel
theorem dX3_addToThread_51 : decode cX3_addToThread 51 = .ok (.getfield 49, 3) := by decide +kernel
theorem dX3_addToThread_54 : decode cX3_addToThread 54 = .ok (.iload_n 2, 1) := by decide +kernel
theorem dX3_addToThread_55 : decode cX3_addToThread 55 = .ok (.iaload, 1) := by decide +kernel
theorem dX3_addToThread_56 : decode cX3_addToThread 56 = .ok (.iconst 1, 1) := by decide +kernel
theorem dX3_addToThread_57 : decode cX3_addToThread 57 = .ok (.iadd, 1) := by decide +kernel
theorem dX3_addToThread_58 : decode cX3_addToThread 58 = .ok (.iastore, 1) := by decide +kernel
theorem dX3_addToThread_59 : decode cX3_addToThread 59 = .ok (.aload_n 0, 1) := by decide +kernel
theorem dX3_addToThread_60 : decode cX3_addToThread 60 = .ok (.getfield 52, 3) := by decide +kernel
theorem dX3_addToThread_63 : decode cX3_addToThread 63 = .ok (.iload_n 1, 1) := by decide +kernel
theorem dX3_addToThread_64 : decode cX3_addToThread 64 = .ok (.aload_n 0, 1) := by decide +kernel
theorem dX3_addToThread_65 : decode cX3_addToThread 65 = .ok (.getfield 52, 3) := by decide +kernel
theorem dX3_addToThread_68 : decode cX3_addToThread 68 = .ok (.iload_n 2, 1) := by decide +kernel
theorem dX3_addToThread_69 : decode cX3_addToThread 69 = .ok (.iaload, 1) := by decide +kernel
theorem dX3_addToThread_70 : decode cX3_addToThread 70 = .ok (.iastore, 1) := by decide +kernel
theorem dX3_addToThread_71 : decode cX3_addToThread 71 = .ok (.aload_n 0, 1) := by decide +kernel
theorem dX3_addToThread_72 : decode cX3_addToThread 72 = .ok (.getfield 40, 3) := by decide +kernel
theorem dX3_addToThread_75 : decode cX3_addToThread 75 = .ok (.iload_n 1, 1) := by decide +kernel
theorem dX3_addToThread_76 : decode cX3_addToThread 76 = .ok (.iaload, 1) := by decide +kernel
theorem dX3_addToThread_77 : decode cX3_addToThread 77 = .ok (.ifCond .eq 8, 3) := by decide +kernel
theorem dX3_addToThread_80 : decode cX3_addToThread 80 = .ok (.aload_n 0, 1) := by decide +kernel
theorem dX3_addToThread_81 : decode cX3_addToThread 81 = .ok (.iload_n 1, 1) := by decide +kernel
theorem dX3_addToThread_82 : decode cX3_addToThread 82 = .ok (.invokevirtual 150, 3) := by decide +kernel
theorem dX3_addToThread_85 : decode cX3_addToThread 85 = .ok (.return_, 1) := by decide +kernel
def t_X3_addToThread_85 : am_T := tb_ret
def t_X3_addToThread_45 : am_T := tb_aload 0 <|
  tb_getR 3 11 <|
  tb_iload 1 <|
  tb_aload 0 <|
  tb_getR 3 11 <|
  tb_iload 2 <|
  tb_iald <|
  tb_const 1 <|
  tb_bin (fun x y => x + y) <|
  tb_iast <|
  tb_aload 0 <|
  tb_getR 3 12 <|
  tb_iload 1 <|
  tb_aload 0 <|
  tb_getR 3 12 <|
  tb_iload 2 <|
  tb_iald <|
  tb_iast <|
  tb_aload 0 <|
  tb_getR 3 8 <|
  tb_iload 1 <|
  tb_iald <|
  tb_if (fun x => x = 0) (t_X3_addToThread_85) <|
  tb_aload 0 <|
  tb_iload 1 <|
  tb_callV 3 sp_X3_joinRivals 2 <|
  t_X3_addToThread_85
def t_X3_addToThread_0 : am_T := tb_aload 0 <|
  tb_iload 1 <|
  tb_callV 3 sp_X3_answerOf 2 <|
  tb_istore 2 <|
  tb_aload 0 <|
  tb_getR 3 9 <|
  tb_iload 1 <|
  tb_iload 2 <|
  tb_iast <|
  tb_aload 0 <|
  tb_getR 3 10 <|
  tb_iload 1 <|
  tb_const 0 <|
  tb_iast <|
  tb_iload 2 <|
  tb_const (-1) <|
  tb_ic (fun x y => x ≠ y) (t_X3_addToThread_45) <|
  tb_aload 0 <|
  tb_getR 3 11 <|
  tb_iload 1 <|
  tb_const 1 <|
  tb_iast <|
  tb_aload 0 <|
  tb_getR 3 12 <|
  tb_iload 1 <|
  tb_aload 0 <|
  tb_getR 3 2 <|
  tb_iload 1 <|
  tb_iald <|
  tb_iast <|
  tb_ret
def h_X3_addToThread : am_Hd := fun h => if h = 0 then t_X3_addToThread_0 else tb_bad
theorem h_X3_addToThread_0 : h_X3_addToThread 0 = t_X3_addToThread_0 := rfl
def rm_X3_addToThread : Room := { frames := 3, cells := 0, slots := 0, locals := 70 }
def sp_X3_addToThread : am_sp := fun as M Q => as.length ≤ 3 ∧ am_OK h_X3_addToThread Q 0 (am_in 3 as) M
theorem s_X3_addToThread_85 {G : am_G} {bc bs : Nat} (X : am_Cx G cX3_addToThread RX3 "addToThread" rm_X3_addToThread none 3 bc bs true) : am_S G 85 (t_X3_addToThread_85) := by
  unfold t_X3_addToThread_85
  exact as_ret (pc := 85) X ⟨rfl, rfl⟩ rfl dX3_addToThread_85
theorem s_X3_addToThread_45 {G : am_G} {bc bs : Nat} (X : am_Cx G cX3_addToThread RX3 "addToThread" rm_X3_addToThread none 3 bc bs true) : am_S G 45 (t_X3_addToThread_45) := by
  unfold t_X3_addToThread_45
  refine as_aload_n (pc := 45) X dX3_addToThread_45 rfl ?_
  refine as_getR (ci := 3) (j := 11) (pc := 46) X (Cn := RX3) (Tf := TX3) (N := 17) rfl rfl (by decide) iw_X3 aw_131 rfl dX3_addToThread_46 ?_
  refine as_iload_n (pc := 49) X dX3_addToThread_49 rfl ?_
  refine as_aload_n (pc := 50) X dX3_addToThread_50 rfl ?_
  refine as_getR (ci := 3) (j := 11) (pc := 51) X (Cn := RX3) (Tf := TX3) (N := 17) rfl rfl (by decide) iw_X3 aw_131 rfl dX3_addToThread_51 ?_
  refine as_iload_n (pc := 54) X dX3_addToThread_54 rfl ?_
  refine as_iald (pc := 55) X dX3_addToThread_55 ?_
  refine as_iconst (pc := 56) X dX3_addToThread_56 (by decide) ?_
  refine as_iadd (pc := 57) X dX3_addToThread_57 ?_
  refine as_iast (pc := 58) X dX3_addToThread_58 ?_
  refine as_aload_n (pc := 59) X dX3_addToThread_59 rfl ?_
  refine as_getR (ci := 3) (j := 12) (pc := 60) X (Cn := RX3) (Tf := TX3) (N := 17) rfl rfl (by decide) iw_X3 aw_132 rfl dX3_addToThread_60 ?_
  refine as_iload_n (pc := 63) X dX3_addToThread_63 rfl ?_
  refine as_aload_n (pc := 64) X dX3_addToThread_64 rfl ?_
  refine as_getR (ci := 3) (j := 12) (pc := 65) X (Cn := RX3) (Tf := TX3) (N := 17) rfl rfl (by decide) iw_X3 aw_132 rfl dX3_addToThread_65 ?_
  refine as_iload_n (pc := 68) X dX3_addToThread_68 rfl ?_
  refine as_iald (pc := 69) X dX3_addToThread_69 ?_
  refine as_iast (pc := 70) X dX3_addToThread_70 ?_
  refine as_aload_n (pc := 71) X dX3_addToThread_71 rfl ?_
  refine as_getR (ci := 3) (j := 8) (pc := 72) X (Cn := RX3) (Tf := TX3) (N := 17) rfl rfl (by decide) iw_X3 aw_126 rfl dX3_addToThread_72 ?_
  refine as_iload_n (pc := 75) X dX3_addToThread_75 rfl ?_
  refine as_iald (pc := 76) X dX3_addToThread_76 ?_
  refine as_if_eq (pc := 77) X 85 dX3_addToThread_77 (by decide) (s_X3_addToThread_85 X) ?_
  refine as_aload_n (pc := 80) X dX3_addToThread_80 rfl ?_
  refine as_iload_n (pc := 81) X dX3_addToThread_81 rfl ?_
  refine as_callV (ci := 3) (np := 1) (ix := 150) (pc := 82) X ct_X3_joinRivals (Cn := (RX3, TX3, 17)) rfl ⟨rfl, rfl⟩ aw_358 aw_360 aw_11 aw_361 aw_18 (by decide +kernel) (by decide) dX3_addToThread_82 ?_
  exact s_X3_addToThread_85 X
theorem s_X3_addToThread_0 {G : am_G} {bc bs : Nat} (X : am_Cx G cX3_addToThread RX3 "addToThread" rm_X3_addToThread none 3 bc bs true) : am_S G 0 (t_X3_addToThread_0) := by
  unfold t_X3_addToThread_0
  refine as_aload_n (pc := 0) X dX3_addToThread_0 rfl ?_
  refine as_iload_n (pc := 1) X dX3_addToThread_1 rfl ?_
  refine as_callV (ci := 3) (np := 1) (ix := 147) (pc := 2) X ct_X3_answerOf (Cn := (RX3, TX3, 17)) rfl ⟨rfl, rfl⟩ aw_350 aw_352 aw_9 aw_353 aw_18 (by decide +kernel) (by decide) dX3_addToThread_2 ?_
  refine as_istore_n (pc := 5) X dX3_addToThread_5 rfl ?_ (by decide)
  refine as_aload_n (pc := 6) X dX3_addToThread_6 rfl ?_
  refine as_getR (ci := 3) (j := 9) (pc := 7) X (Cn := RX3) (Tf := TX3) (N := 17) rfl rfl (by decide) iw_X3 aw_127 rfl dX3_addToThread_7 ?_
  refine as_iload_n (pc := 10) X dX3_addToThread_10 rfl ?_
  refine as_iload_n (pc := 11) X dX3_addToThread_11 rfl ?_
  refine as_iast (pc := 12) X dX3_addToThread_12 ?_
  refine as_aload_n (pc := 13) X dX3_addToThread_13 rfl ?_
  refine as_getR (ci := 3) (j := 10) (pc := 14) X (Cn := RX3) (Tf := TX3) (N := 17) rfl rfl (by decide) iw_X3 aw_129 rfl dX3_addToThread_14 ?_
  refine as_iload_n (pc := 17) X dX3_addToThread_17 rfl ?_
  refine as_iconst (pc := 18) X dX3_addToThread_18 (by decide) ?_
  refine as_iast (pc := 19) X dX3_addToThread_19 ?_
  refine as_iload_n (pc := 20) X dX3_addToThread_20 rfl ?_
  refine as_iconst (pc := 21) X dX3_addToThread_21 (by decide) ?_
  refine as_ic_ne (pc := 22) X 45 dX3_addToThread_22 (by decide) (s_X3_addToThread_45 X) ?_
  refine as_aload_n (pc := 25) X dX3_addToThread_25 rfl ?_
  refine as_getR (ci := 3) (j := 11) (pc := 26) X (Cn := RX3) (Tf := TX3) (N := 17) rfl rfl (by decide) iw_X3 aw_131 rfl dX3_addToThread_26 ?_
  refine as_iload_n (pc := 29) X dX3_addToThread_29 rfl ?_
  refine as_iconst (pc := 30) X dX3_addToThread_30 (by decide) ?_
  refine as_iast (pc := 31) X dX3_addToThread_31 ?_
  refine as_aload_n (pc := 32) X dX3_addToThread_32 rfl ?_
  refine as_getR (ci := 3) (j := 12) (pc := 33) X (Cn := RX3) (Tf := TX3) (N := 17) rfl rfl (by decide) iw_X3 aw_132 rfl dX3_addToThread_33 ?_
  refine as_iload_n (pc := 36) X dX3_addToThread_36 rfl ?_
  refine as_aload_n (pc := 37) X dX3_addToThread_37 rfl ?_
  refine as_getR (ci := 3) (j := 2) (pc := 38) X (Cn := RX3) (Tf := TX3) (N := 17) rfl rfl (by decide) iw_X3 aw_118 rfl dX3_addToThread_38 ?_
  refine as_iload_n (pc := 41) X dX3_addToThread_41 rfl ?_
  refine as_iald (pc := 42) X dX3_addToThread_42 ?_
  refine as_iast (pc := 43) X dX3_addToThread_43 ?_
  exact as_ret (pc := 44) X ⟨rfl, rfl⟩ rfl dX3_addToThread_44
theorem s_X3_addToThread {G : am_G} {bc bs : Nat} (X : am_Cx G cX3_addToThread RX3 "addToThread" rm_X3_addToThread none 3 bc bs true) (h : Nat) : am_S G h (h_X3_addToThread h) := by
  unfold h_X3_addToThread
  split
  · next e => rw [e]; exact s_X3_addToThread_0 X
  exact as_bad
theorem ct_X3_addToThread : am_Ct yX3_addToThread cX3_addToThread 3 none rm_X3_addToThread sp_X3_addToThread := am_met (own := RX3) (nm := "addToThread") (by decide) rfl rfl (Or.inl rfl) (fun _ _ => h_X3_addToThread) (fun _ _ _ X => s_X3_addToThread X) (fun _ _ _ _ h => h)
-- X3_numberThreadAt
theorem dX3_numberThreadAt_0 : decode cX3_numberThreadAt 0 = .ok (.aload_n 0, 1) := by decide +kernel
theorem dX3_numberThreadAt_1 : decode cX3_numberThreadAt 1 = .ok (.getfield 18, 3) := by decide +kernel
theorem dX3_numberThreadAt_4 : decode cX3_numberThreadAt 4 = .ok (.iload_n 1, 1) := by decide +kernel
theorem dX3_numberThreadAt_5 : decode cX3_numberThreadAt 5 = .ok (.iaload, 1) := by decide +kernel
theorem dX3_numberThreadAt_6 : decode cX3_numberThreadAt 6 = .ok (.istore_n 2, 1) := by decide +kernel
theorem dX3_numberThreadAt_7 : decode cX3_numberThreadAt 7 = .ok (.aload_n 0, 1) := by decide +kernel
theorem dX3_numberThreadAt_8 : decode cX3_numberThreadAt 8 = .ok (.getfield 58, 3) := by decide +kernel
theorem dX3_numberThreadAt_11 : decode cX3_numberThreadAt 11 = .ok (.istore_n 3, 1) := by decide +kernel
theorem dX3_numberThreadAt_12 : decode cX3_numberThreadAt 12 = .ok (.aload_n 0, 1) := by decide +kernel
theorem dX3_numberThreadAt_13 : decode cX3_numberThreadAt 13 = .ok (.getfield 52, 3) := by decide +kernel
theorem dX3_numberThreadAt_16 : decode cX3_numberThreadAt 16 = .ok (.iload_n 2, 1) := by decide +kernel
theorem dX3_numberThreadAt_17 : decode cX3_numberThreadAt 17 = .ok (.iaload, 1) := by decide +kernel
theorem dX3_numberThreadAt_18 : decode cX3_numberThreadAt 18 = .ok (.iload_n 1, 1) := by decide +kernel
theorem dX3_numberThreadAt_19 : decode cX3_numberThreadAt 19 = .ok (.if_icmp .ne 23, 3) := by decide +kernel
theorem dX3_numberThreadAt_22 : decode cX3_numberThreadAt 22 = .ok (.aload_n 0, 1) := by decide +kernel
theorem dX3_numberThreadAt_23 : decode cX3_numberThreadAt 23 = .ok (.getfield 62, 3) := by decide +kernel
theorem dX3_numberThreadAt_26 : decode cX3_numberThreadAt 26 = .ok (.iload_n 3, 1) := by decide +kernel
theorem dX3_numberThreadAt_27 : decode cX3_numberThreadAt 27 = .ok (.iconst 0, 1) := by decide +kernel
theorem dX3_numberThreadAt_28 : decode cX3_numberThreadAt 28 = .ok (.iastore, 1) := by decide +kernel
theorem dX3_numberThreadAt_29 : decode cX3_numberThreadAt 29 = .ok (.aload_n 0, 1) := by decide +kernel
theorem dX3_numberThreadAt_30 : decode cX3_numberThreadAt 30 = .ok (.dup, 1) := by decide +kernel
theorem dX3_numberThreadAt_31 : decode cX3_numberThreadAt 31 = .ok (.getfield 58, 3) := by decide +kernel
theorem dX3_numberThreadAt_34 : decode cX3_numberThreadAt 34 = .ok (.iconst 1, 1) := by decide +kernel
theorem dX3_numberThreadAt_35 : decode cX3_numberThreadAt 35 = .ok (.iadd, 1) := by decide +kernel
theorem dX3_numberThreadAt_36 : decode cX3_numberThreadAt 36 = .ok (.putfield 58, 3) := by decide +kernel
theorem dX3_numberThreadAt_39 : decode cX3_numberThreadAt 39 = .ok (.goto 20, 3) := by decide +kernel
theorem dX3_numberThreadAt_42 : decode cX3_numberThreadAt 42 = .ok (.aload_n 0, 1) := by decide +kernel
theorem dX3_numberThreadAt_43 : decode cX3_numberThreadAt 43 = .ok (.getfield 55, 3) := by decide +kernel
theorem dX3_numberThreadAt_46 : decode cX3_numberThreadAt 46 = .ok (.aload_n 0, 1) := by decide +kernel
theorem dX3_numberThreadAt_47 : decode cX3_numberThreadAt 47 = .ok (.getfield 18, 3) := by decide +kernel
theorem dX3_numberThreadAt_50 : decode cX3_numberThreadAt 50 = .ok (.aload_n 0, 1) := by decide +kernel
theorem dX3_numberThreadAt_51 : decode cX3_numberThreadAt 51 = .ok (.getfield 52, 3) := by decide +kernel
theorem dX3_numberThreadAt_54 : decode cX3_numberThreadAt 54 = .ok (.iload_n 2, 1) := by decide +kernel
theorem dX3_numberThreadAt_55 : decode cX3_numberThreadAt 55 = .ok (.iaload, 1) := by decide +kernel
theorem dX3_numberThreadAt_56 : decode cX3_numberThreadAt 56 = .ok (.iaload, 1) := by decide +kernel
theorem dX3_numberThreadAt_57 : decode cX3_numberThreadAt 57 = .ok (.iaload, 1) := by decide +kernel
theorem dX3_numberThreadAt_58 : decode cX3_numberThreadAt 58 = .ok (.istore_n 3, 1) := by decide +kernel
theorem dX3_numberThreadAt_59 : decode cX3_numberThreadAt 59 = .ok (.aload_n 0, 1) := by decide +kernel
theorem dX3_numberThreadAt_60 : decode cX3_numberThreadAt 60 = .ok (.getfield 55, 3) := by decide +kernel
theorem dX3_numberThreadAt_63 : decode cX3_numberThreadAt 63 = .ok (.iload_n 2, 1) := by decide +kernel
theorem dX3_numberThreadAt_64 : decode cX3_numberThreadAt 64 = .ok (.iload_n 3, 1) := by decide +kernel
theorem dX3_numberThreadAt_65 : decode cX3_numberThreadAt 65 = .ok (.iastore, 1) := by decide +kernel
theorem dX3_numberThreadAt_66 : decode cX3_numberThreadAt 66 = .ok (.aload_n 0, 1) := by decide +kernel
theorem dX3_numberThreadAt_67 : decode cX3_numberThreadAt 67 = .ok (.getfield 62, 3) := by decide +kernel
theorem dX3_numberThreadAt_70 : decode cX3_numberThreadAt 70 = .ok (.iload_n 3, 1) := by decide +kernel
theorem dX3_numberThreadAt_71 : decode cX3_numberThreadAt 71 = .ok (.dup2, 1) := by decide +kernel
theorem dX3_numberThreadAt_72 : decode cX3_numberThreadAt 72 = .ok (.iaload, 1) := by decide +kernel
theorem dX3_numberThreadAt_73 : decode cX3_numberThreadAt 73 = .ok (.iconst 1, 1) := by decide +kernel
theorem dX3_numberThreadAt_74 : decode cX3_numberThreadAt 74 = .ok (.iadd, 1) := by decide +kernel
theorem dX3_numberThreadAt_75 : decode cX3_numberThreadAt 75 = .ok (.iastore, 1) := by decide +kernel
theorem dX3_numberThreadAt_76 : decode cX3_numberThreadAt 76 = .ok (.aload_n 0, 1) := by decide +kernel
theorem dX3_numberThreadAt_77 : decode cX3_numberThreadAt 77 = .ok (.getfield 65, 3) := by decide +kernel
theorem dX3_numberThreadAt_80 : decode cX3_numberThreadAt 80 = .ok (.iload_n 3, 1) := by decide +kernel
theorem dX3_numberThreadAt_81 : decode cX3_numberThreadAt 81 = .ok (.iload_n 2, 1) := by decide +kernel
theorem dX3_numberThreadAt_82 : decode cX3_numberThreadAt 82 = .ok (.iastore, 1) := by decide +kernel
theorem dX3_numberThreadAt_83 : decode cX3_numberThreadAt 83 = .ok (.return_, 1) := by decide +kernel
def t_X3_numberThreadAt_59 : am_T := tb_aload 0 <|
  tb_getR 3 13 <|
  tb_iload 2 <|
  tb_iload 3 <|
  tb_iast <|
  tb_aload 0 <|
  tb_getR 3 15 <|
  tb_iload 3 <|
  tb_dup2 <|
  tb_iald <|
  tb_const 1 <|
  tb_bin (fun x y => x + y) <|
  tb_iast <|
  tb_aload 0 <|
  tb_getR 3 16 <|
  tb_iload 3 <|
  tb_iload 2 <|
  tb_iast <|
  tb_ret
def t_X3_numberThreadAt_42 : am_T := tb_aload 0 <|
  tb_getR 3 13 <|
  tb_aload 0 <|
  tb_getR 3 1 <|
  tb_aload 0 <|
  tb_getR 3 12 <|
  tb_iload 2 <|
  tb_iald <|
  tb_iald <|
  tb_iald <|
  tb_istore 3 <|
  t_X3_numberThreadAt_59
def t_X3_numberThreadAt_0 : am_T := tb_aload 0 <|
  tb_getR 3 1 <|
  tb_iload 1 <|
  tb_iald <|
  tb_istore 2 <|
  tb_aload 0 <|
  tb_getI 3 14 <|
  tb_istore 3 <|
  tb_aload 0 <|
  tb_getR 3 12 <|
  tb_iload 2 <|
  tb_iald <|
  tb_iload 1 <|
  tb_ic (fun x y => x ≠ y) (t_X3_numberThreadAt_42) <|
  tb_aload 0 <|
  tb_getR 3 15 <|
  tb_iload 3 <|
  tb_const 0 <|
  tb_iast <|
  tb_aload 0 <|
  tb_dup <|
  tb_getI 3 14 <|
  tb_const 1 <|
  tb_bin (fun x y => x + y) <|
  tb_putI 3 14 <|
  t_X3_numberThreadAt_59
def h_X3_numberThreadAt : am_Hd := fun h => if h = 0 then t_X3_numberThreadAt_0 else tb_bad
theorem h_X3_numberThreadAt_0 : h_X3_numberThreadAt 0 = t_X3_numberThreadAt_0 := rfl
def rm_X3_numberThreadAt : Room := { frames := 0, cells := 0, slots := 0, locals := 0 }
def sp_X3_numberThreadAt : am_sp := fun as M Q => as.length ≤ 4 ∧ am_OK h_X3_numberThreadAt Q 0 (am_in 4 as) M
theorem s_X3_numberThreadAt_59 {G : am_G} {bc bs : Nat} (X : am_Cx G cX3_numberThreadAt RX3 "numberThreadAt" rm_X3_numberThreadAt none 4 bc bs true) : am_S G 59 (t_X3_numberThreadAt_59) := by
  unfold t_X3_numberThreadAt_59
  refine as_aload_n (pc := 59) X dX3_numberThreadAt_59 rfl ?_
  refine as_getR (ci := 3) (j := 13) (pc := 60) X (Cn := RX3) (Tf := TX3) (N := 17) rfl rfl (by decide) iw_X3 aw_133 rfl dX3_numberThreadAt_60 ?_
  refine as_iload_n (pc := 63) X dX3_numberThreadAt_63 rfl ?_
  refine as_iload_n (pc := 64) X dX3_numberThreadAt_64 rfl ?_
  refine as_iast (pc := 65) X dX3_numberThreadAt_65 ?_
  refine as_aload_n (pc := 66) X dX3_numberThreadAt_66 rfl ?_
  refine as_getR (ci := 3) (j := 15) (pc := 67) X (Cn := RX3) (Tf := TX3) (N := 17) rfl rfl (by decide) iw_X3 aw_137 rfl dX3_numberThreadAt_67 ?_
  refine as_iload_n (pc := 70) X dX3_numberThreadAt_70 rfl ?_
  refine as_dup2 (pc := 71) X dX3_numberThreadAt_71 ?_
  refine as_iald (pc := 72) X dX3_numberThreadAt_72 ?_
  refine as_iconst (pc := 73) X dX3_numberThreadAt_73 (by decide) ?_
  refine as_iadd (pc := 74) X dX3_numberThreadAt_74 ?_
  refine as_iast (pc := 75) X dX3_numberThreadAt_75 ?_
  refine as_aload_n (pc := 76) X dX3_numberThreadAt_76 rfl ?_
  refine as_getR (ci := 3) (j := 16) (pc := 77) X (Cn := RX3) (Tf := TX3) (N := 17) rfl rfl (by decide) iw_X3 aw_138 rfl dX3_numberThreadAt_77 ?_
  refine as_iload_n (pc := 80) X dX3_numberThreadAt_80 rfl ?_
  refine as_iload_n (pc := 81) X dX3_numberThreadAt_81 rfl ?_
  refine as_iast (pc := 82) X dX3_numberThreadAt_82 ?_
  exact as_ret (pc := 83) X ⟨rfl, rfl⟩ rfl dX3_numberThreadAt_83
theorem s_X3_numberThreadAt_42 {G : am_G} {bc bs : Nat} (X : am_Cx G cX3_numberThreadAt RX3 "numberThreadAt" rm_X3_numberThreadAt none 4 bc bs true) : am_S G 42 (t_X3_numberThreadAt_42) := by
  unfold t_X3_numberThreadAt_42
  refine as_aload_n (pc := 42) X dX3_numberThreadAt_42 rfl ?_
  refine as_getR (ci := 3) (j := 13) (pc := 43) X (Cn := RX3) (Tf := TX3) (N := 17) rfl rfl (by decide) iw_X3 aw_133 rfl dX3_numberThreadAt_43 ?_
  refine as_aload_n (pc := 46) X dX3_numberThreadAt_46 rfl ?_
  refine as_getR (ci := 3) (j := 1) (pc := 47) X (Cn := RX3) (Tf := TX3) (N := 17) rfl rfl (by decide) iw_X3 aw_116 rfl dX3_numberThreadAt_47 ?_
  refine as_aload_n (pc := 50) X dX3_numberThreadAt_50 rfl ?_
  refine as_getR (ci := 3) (j := 12) (pc := 51) X (Cn := RX3) (Tf := TX3) (N := 17) rfl rfl (by decide) iw_X3 aw_132 rfl dX3_numberThreadAt_51 ?_
  refine as_iload_n (pc := 54) X dX3_numberThreadAt_54 rfl ?_
  refine as_iald (pc := 55) X dX3_numberThreadAt_55 ?_
  refine as_iald (pc := 56) X dX3_numberThreadAt_56 ?_
  refine as_iald (pc := 57) X dX3_numberThreadAt_57 ?_
  refine as_istore_n (pc := 58) X dX3_numberThreadAt_58 rfl ?_ (by decide)
  exact s_X3_numberThreadAt_59 X
theorem s_X3_numberThreadAt_0 {G : am_G} {bc bs : Nat} (X : am_Cx G cX3_numberThreadAt RX3 "numberThreadAt" rm_X3_numberThreadAt none 4 bc bs true) : am_S G 0 (t_X3_numberThreadAt_0) := by
  unfold t_X3_numberThreadAt_0
  refine as_aload_n (pc := 0) X dX3_numberThreadAt_0 rfl ?_
  refine as_getR (ci := 3) (j := 1) (pc := 1) X (Cn := RX3) (Tf := TX3) (N := 17) rfl rfl (by decide) iw_X3 aw_116 rfl dX3_numberThreadAt_1 ?_
  refine as_iload_n (pc := 4) X dX3_numberThreadAt_4 rfl ?_
  refine as_iald (pc := 5) X dX3_numberThreadAt_5 ?_
  refine as_istore_n (pc := 6) X dX3_numberThreadAt_6 rfl ?_ (by decide)
  refine as_aload_n (pc := 7) X dX3_numberThreadAt_7 rfl ?_
  refine as_getI (ci := 3) (j := 14) (pc := 8) X (Cn := RX3) (Tf := TX3) (N := 17) rfl rfl (by decide) iw_X3 aw_135 rfl dX3_numberThreadAt_8 ?_
  refine as_istore_n (pc := 11) X dX3_numberThreadAt_11 rfl ?_ (by decide)
  refine as_aload_n (pc := 12) X dX3_numberThreadAt_12 rfl ?_
  refine as_getR (ci := 3) (j := 12) (pc := 13) X (Cn := RX3) (Tf := TX3) (N := 17) rfl rfl (by decide) iw_X3 aw_132 rfl dX3_numberThreadAt_13 ?_
  refine as_iload_n (pc := 16) X dX3_numberThreadAt_16 rfl ?_
  refine as_iald (pc := 17) X dX3_numberThreadAt_17 ?_
  refine as_iload_n (pc := 18) X dX3_numberThreadAt_18 rfl ?_
  refine as_ic_ne (pc := 19) X 42 dX3_numberThreadAt_19 (by decide) (s_X3_numberThreadAt_42 X) ?_
  refine as_aload_n (pc := 22) X dX3_numberThreadAt_22 rfl ?_
  refine as_getR (ci := 3) (j := 15) (pc := 23) X (Cn := RX3) (Tf := TX3) (N := 17) rfl rfl (by decide) iw_X3 aw_137 rfl dX3_numberThreadAt_23 ?_
  refine as_iload_n (pc := 26) X dX3_numberThreadAt_26 rfl ?_
  refine as_iconst (pc := 27) X dX3_numberThreadAt_27 (by decide) ?_
  refine as_iast (pc := 28) X dX3_numberThreadAt_28 ?_
  refine as_aload_n (pc := 29) X dX3_numberThreadAt_29 rfl ?_
  refine as_dup (pc := 30) X dX3_numberThreadAt_30 ?_
  refine as_getI (ci := 3) (j := 14) (pc := 31) X (Cn := RX3) (Tf := TX3) (N := 17) rfl rfl (by decide) iw_X3 aw_135 rfl dX3_numberThreadAt_31 ?_
  refine as_iconst (pc := 34) X dX3_numberThreadAt_34 (by decide) ?_
  refine as_iadd (pc := 35) X dX3_numberThreadAt_35 ?_
  refine as_putI (ci := 3) (j := 14) (pc := 36) X (Cn := RX3) (Tf := TX3) (N := 17) rfl rfl (by decide) iw_X3 aw_135 tyX3 tyX3_ok nmX3 rfl rfl (by decide +kernel) dX3_numberThreadAt_36 ?_
  exact as_goto (pc := 39) X 59 dX3_numberThreadAt_39 (by decide) (s_X3_numberThreadAt_59 X)
theorem s_X3_numberThreadAt {G : am_G} {bc bs : Nat} (X : am_Cx G cX3_numberThreadAt RX3 "numberThreadAt" rm_X3_numberThreadAt none 4 bc bs true) (h : Nat) : am_S G h (h_X3_numberThreadAt h) := by
  unfold h_X3_numberThreadAt
  split
  · next e => rw [e]; exact s_X3_numberThreadAt_0 X
  exact as_bad
theorem ct_X3_numberThreadAt : am_Ct yX3_numberThreadAt cX3_numberThreadAt 4 none rm_X3_numberThreadAt sp_X3_numberThreadAt := am_met (own := RX3) (nm := "numberThreadAt") (by decide) rfl rfl (Or.inl rfl) (fun _ _ => h_X3_numberThreadAt) (fun _ _ _ X => s_X3_numberThreadAt X) (fun _ _ _ _ h => h)
-- X3_follow
theorem dX3_follow_0 : decode cX3_follow 0 = .ok (.iconst 0, 1) := by decide +kernel
theorem dX3_follow_1 : decode cX3_follow 1 = .ok (.istore_n 1, 1) := by decide +kernel
theorem dX3_follow_2 : decode cX3_follow 2 = .ok (.iload_n 1, 1) := by decide +kernel
theorem dX3_follow_3 : decode cX3_follow 3 = .ok (.aload_n 0, 1) := by decide +kernel
theorem dX3_follow_4 : decode cX3_follow 4 = .ok (.getfield 12, 3) := by decide +kernel
theorem dX3_follow_7 : decode cX3_follow 7 = .ok (.getfield 71, 3) := by decide +kernel
theorem dX3_follow_10 : decode cX3_follow 10 = .ok (.if_icmp .ge 19, 3) := by decide +kernel
theorem dX3_follow_13 : decode cX3_follow 13 = .ok (.aload_n 0, 1) := by decide +kernel
theorem dX3_follow_14 : decode cX3_follow 14 = .ok (.aload_n 0, 1) := by decide +kernel
theorem dX3_follow_15 : decode cX3_follow 15 = .ok (.getfield 18, 3) := by decide +kernel
theorem dX3_follow_18 : decode cX3_follow 18 = .ok (.iload_n 1, 1) := by decide +kernel
theorem dX3_follow_19 : decode cX3_follow 19 = .ok (.iaload, 1) := by decide +kernel
theorem dX3_follow_20 : decode cX3_follow 20 = .ok (.invokevirtual 140, 3) := by decide +kernel
theorem dX3_follow_23 : decode cX3_follow 23 = .ok (.iinc 1 1, 3) := by decide +kernel
theorem dX3_follow_26 : decode cX3_follow 26 = .ok (.goto (-24), 3) := by decide +kernel
theorem dX3_follow_29 : decode cX3_follow 29 = .ok (.aload_n 0, 1) := by decide +kernel
theorem dX3_follow_30 : decode cX3_follow 30 = .ok (.iconst 0, 1) := by decide +kernel
theorem dX3_follow_31 : decode cX3_follow 31 = .ok (.putfield 58, 3) := by decide +kernel
theorem dX3_follow_34 : decode cX3_follow 34 = .ok (.iconst 0, 1) := by decide +kernel
theorem dX3_follow_35 : decode cX3_follow 35 = .ok (.istore_n 1, 1) := by decide +kernel
theorem dX3_follow_36 : decode cX3_follow 36 = .ok (.iload_n 1, 1) := by decide +kernel
theorem dX3_follow_37 : decode cX3_follow 37 = .ok (.aload_n 0, 1) := by decide +kernel
theorem dX3_follow_38 : decode cX3_follow 38 = .ok (.getfield 12, 3) := by decide +kernel
theorem dX3_follow_41 : decode cX3_follow 41 = .ok (.getfield 71, 3) := by decide +kernel
theorem dX3_follow_44 : decode cX3_follow 44 = .ok (.if_icmp .ge 14, 3) := by decide +kernel
theorem dX3_follow_47 : decode cX3_follow 47 = .ok (.aload_n 0, 1) := by decide +kernel
theorem dX3_follow_48 : decode cX3_follow 48 = .ok (.iload_n 1, 1) := by decide +kernel
theorem dX3_follow_49 : decode cX3_follow 49 = .ok (.invokevirtual 144, 3) := by decide +kernel
theorem dX3_follow_52 : decode cX3_follow 52 = .ok (.iinc 1 1, 3) := by decide +kernel
theorem dX3_follow_55 : decode cX3_follow 55 = .ok (.goto (-19), 3) := by decide +kernel
theorem dX3_follow_58 : decode cX3_follow 58 = .ok (.return_, 1) := by decide +kernel
def t_X3_follow_58 : am_T := tb_ret
def t_X3_follow_36 : am_T := tb_iload 1 <|
  tb_aload 0 <|
  tb_getR 3 0 <|
  tb_getI 1 4 <|
  tb_ic (fun x y => y ≤ x) (t_X3_follow_58) <|
  tb_aload 0 <|
  tb_iload 1 <|
  tb_callV 3 sp_X3_numberThreadAt 2 <|
  tb_iinc 1 1 <|
  tb_head 36
def t_X3_follow_29 : am_T := tb_aload 0 <|
  tb_const 0 <|
  tb_putI 3 14 <|
  tb_const 0 <|
  tb_istore 1 <|
  tb_head 36
def t_X3_follow_2 : am_T := tb_iload 1 <|
  tb_aload 0 <|
  tb_getR 3 0 <|
  tb_getI 1 4 <|
  tb_ic (fun x y => y ≤ x) (t_X3_follow_29) <|
  tb_aload 0 <|
  tb_aload 0 <|
  tb_getR 3 1 <|
  tb_iload 1 <|
  tb_iald <|
  tb_callV 3 sp_X3_addToThread 2 <|
  tb_iinc 1 1 <|
  tb_head 2
def t_X3_follow_0 : am_T := tb_const 0 <|
  tb_istore 1 <|
  tb_head 2
def h_X3_follow : am_Hd := fun h => if h = 0 then t_X3_follow_0 else if h = 2 then t_X3_follow_2 else if h = 36 then t_X3_follow_36 else tb_bad
theorem h_X3_follow_0 : h_X3_follow 0 = t_X3_follow_0 := rfl
theorem h_X3_follow_2 : h_X3_follow 2 = t_X3_follow_2 := rfl
theorem h_X3_follow_36 : h_X3_follow 36 = t_X3_follow_36 := rfl
def rm_X3_follow : Room := { frames := 4, cells := 0, slots := 0, locals := 92 }
def sp_X3_follow : am_sp := fun as M Q => as.length ≤ 2 ∧ am_OK h_X3_follow Q 0 (am_in 2 as) M
theorem s_X3_follow_58 {G : am_G} {bc bs : Nat} (X : am_Cx G cX3_follow RX3 "follow" rm_X3_follow none 2 bc bs true) : am_S G 58 (t_X3_follow_58) := by
  unfold t_X3_follow_58
  exact as_ret (pc := 58) X ⟨rfl, rfl⟩ rfl dX3_follow_58
theorem s_X3_follow_36 {G : am_G} {bc bs : Nat} (X : am_Cx G cX3_follow RX3 "follow" rm_X3_follow none 2 bc bs true) : am_S G 36 (t_X3_follow_36) := by
  unfold t_X3_follow_36
  refine as_iload_n (pc := 36) X dX3_follow_36 rfl ?_
  refine as_aload_n (pc := 37) X dX3_follow_37 rfl ?_
  refine as_getR (ci := 3) (j := 0) (pc := 38) X (Cn := RX3) (Tf := TX3) (N := 17) rfl rfl (by decide) iw_X3 aw_114 rfl dX3_follow_38 ?_
  refine as_getI (ci := 1) (j := 4) (pc := 41) X (Cn := RX1) (Tf := TX1) (N := 14) rfl rfl (by decide) iw_X1 aw_56 rfl dX3_follow_41 ?_
  refine as_ic_ge (pc := 44) X 58 dX3_follow_44 (by decide) (s_X3_follow_58 X) ?_
  refine as_aload_n (pc := 47) X dX3_follow_47 rfl ?_
  refine as_iload_n (pc := 48) X dX3_follow_48 rfl ?_
  refine as_callV (ci := 3) (np := 1) (ix := 144) (pc := 49) X ct_X3_numberThreadAt (Cn := (RX3, TX3, 17)) rfl ⟨rfl, rfl⟩ aw_372 aw_374 aw_13 aw_375 aw_18 (by decide +kernel) (by decide) dX3_follow_49 ?_
  refine as_iinc (pc := 52) X dX3_follow_52 (by decide) (by decide) ?_
  exact as_goto (pc := 55) X 36 dX3_follow_55 (by decide) (as_head)
theorem s_X3_follow_29 {G : am_G} {bc bs : Nat} (X : am_Cx G cX3_follow RX3 "follow" rm_X3_follow none 2 bc bs true) : am_S G 29 (t_X3_follow_29) := by
  unfold t_X3_follow_29
  refine as_aload_n (pc := 29) X dX3_follow_29 rfl ?_
  refine as_iconst (pc := 30) X dX3_follow_30 (by decide) ?_
  refine as_putI (ci := 3) (j := 14) (pc := 31) X (Cn := RX3) (Tf := TX3) (N := 17) rfl rfl (by decide) iw_X3 aw_135 tyX3 tyX3_ok nmX3 rfl rfl (by decide +kernel) dX3_follow_31 ?_
  refine as_iconst (pc := 34) X dX3_follow_34 (by decide) ?_
  refine as_istore_n (pc := 35) X dX3_follow_35 rfl ?_ (by decide)
  exact as_head
theorem s_X3_follow_2 {G : am_G} {bc bs : Nat} (X : am_Cx G cX3_follow RX3 "follow" rm_X3_follow none 2 bc bs true) : am_S G 2 (t_X3_follow_2) := by
  unfold t_X3_follow_2
  refine as_iload_n (pc := 2) X dX3_follow_2 rfl ?_
  refine as_aload_n (pc := 3) X dX3_follow_3 rfl ?_
  refine as_getR (ci := 3) (j := 0) (pc := 4) X (Cn := RX3) (Tf := TX3) (N := 17) rfl rfl (by decide) iw_X3 aw_114 rfl dX3_follow_4 ?_
  refine as_getI (ci := 1) (j := 4) (pc := 7) X (Cn := RX1) (Tf := TX1) (N := 14) rfl rfl (by decide) iw_X1 aw_56 rfl dX3_follow_7 ?_
  refine as_ic_ge (pc := 10) X 29 dX3_follow_10 (by decide) (s_X3_follow_29 X) ?_
  refine as_aload_n (pc := 13) X dX3_follow_13 rfl ?_
  refine as_aload_n (pc := 14) X dX3_follow_14 rfl ?_
  refine as_getR (ci := 3) (j := 1) (pc := 15) X (Cn := RX3) (Tf := TX3) (N := 17) rfl rfl (by decide) iw_X3 aw_116 rfl dX3_follow_15 ?_
  refine as_iload_n (pc := 18) X dX3_follow_18 rfl ?_
  refine as_iald (pc := 19) X dX3_follow_19 ?_
  refine as_callV (ci := 3) (np := 1) (ix := 140) (pc := 20) X ct_X3_addToThread (Cn := (RX3, TX3, 17)) rfl ⟨rfl, rfl⟩ aw_346 aw_348 aw_8 aw_349 aw_18 (by decide +kernel) (by decide) dX3_follow_20 ?_
  refine as_iinc (pc := 23) X dX3_follow_23 (by decide) (by decide) ?_
  exact as_goto (pc := 26) X 2 dX3_follow_26 (by decide) (as_head)
theorem s_X3_follow_0 {G : am_G} {bc bs : Nat} (X : am_Cx G cX3_follow RX3 "follow" rm_X3_follow none 2 bc bs true) : am_S G 0 (t_X3_follow_0) := by
  unfold t_X3_follow_0
  refine as_iconst (pc := 0) X dX3_follow_0 (by decide) ?_
  refine as_istore_n (pc := 1) X dX3_follow_1 rfl ?_ (by decide)
  exact as_head
theorem s_X3_follow {G : am_G} {bc bs : Nat} (X : am_Cx G cX3_follow RX3 "follow" rm_X3_follow none 2 bc bs true) (h : Nat) : am_S G h (h_X3_follow h) := by
  unfold h_X3_follow
  split
  · next e => rw [e]; exact s_X3_follow_0 X
  split
  · next e => rw [e]; exact s_X3_follow_2 X
  split
  · next e => rw [e]; exact s_X3_follow_36 X
  exact as_bad
theorem ct_X3_follow : am_Ct yX3_follow cX3_follow 2 none rm_X3_follow sp_X3_follow := am_met (own := RX3) (nm := "follow") (by decide) rfl rfl (Or.inl rfl) (fun _ _ => h_X3_follow) (fun _ _ _ X => s_X3_follow X) (fun _ _ _ _ h => h)
-- X4_currentThreads
theorem dX4_currentThreads_0 : decode cX4_currentThreads 0 = .ok (.aload_n 0, 1) := by decide +kernel
theorem dX4_currentThreads_1 : decode cX4_currentThreads 1 = .ok (.getfield 21, 3) := by decide +kernel
theorem dX4_currentThreads_4 : decode cX4_currentThreads 4 = .ok (.ifCond .eq 22, 3) := by decide +kernel
theorem dX4_currentThreads_7 : decode cX4_currentThreads 7 = .ok (.aload_n 0, 1) := by decide +kernel
theorem dX4_currentThreads_8 : decode cX4_currentThreads 8 = .ok (.getfield 10, 3) := by decide +kernel
theorem dX4_currentThreads_11 : decode cX4_currentThreads 11 = .ok (.invokevirtual 244, 3) := by decide +kernel
theorem dX4_currentThreads_14 : decode cX4_currentThreads 14 = .ok (.aload_n 0, 1) := by decide +kernel
theorem dX4_currentThreads_15 : decode cX4_currentThreads 15 = .ok (.getfield 10, 3) := by decide +kernel
theorem dX4_currentThreads_18 : decode cX4_currentThreads 18 = .ok (.invokevirtual 253, 3) := by decide +kernel
theorem dX4_currentThreads_21 : decode cX4_currentThreads 21 = .ok (.aload_n 0, 1) := by decide +kernel
theorem dX4_currentThreads_22 : decode cX4_currentThreads 22 = .ok (.iconst 0, 1) := by decide +kernel
theorem dX4_currentThreads_23 : decode cX4_currentThreads 23 = .ok (.putfield 21, 3) := by decide +kernel
theorem dX4_currentThreads_26 : decode cX4_currentThreads 26 = .ok (.aload_n 0, 1) := by decide +kernel
theorem dX4_currentThreads_27 : decode cX4_currentThreads 27 = .ok (.getfield 10, 3) := by decide +kernel
theorem dX4_currentThreads_30 : decode cX4_currentThreads 30 = .ok (.areturn, 1) := by decide +kernel
def t_X4_currentThreads_26 : am_T := tb_aload 0 <|
  tb_getR 4 0 <|
  tb_aret
def t_X4_currentThreads_0 : am_T := tb_aload 0 <|
  tb_getI 4 2 <|
  tb_if (fun x => x = 0) (t_X4_currentThreads_26) <|
  tb_aload 0 <|
  tb_getR 4 0 <|
  tb_callV 3 sp_X3_rateAll 1 <|
  tb_aload 0 <|
  tb_getR 4 0 <|
  tb_callV 3 sp_X3_follow 1 <|
  tb_aload 0 <|
  tb_const 0 <|
  tb_putN .boolean 4 2 <|
  t_X4_currentThreads_26
def h_X4_currentThreads : am_Hd := fun h => if h = 0 then t_X4_currentThreads_0 else tb_bad
theorem h_X4_currentThreads_0 : h_X4_currentThreads 0 = t_X4_currentThreads_0 := rfl
def rm_X4_currentThreads : Room := { frames := 5, cells := 0, slots := 0, locals := 113 }
def sp_X4_currentThreads : am_sp := fun as M Q => as.length ≤ 1 ∧ am_OK h_X4_currentThreads Q 0 (am_in 1 as) M
theorem s_X4_currentThreads_26 {G : am_G} {bc bs : Nat} (X : am_Cx G cX4_currentThreads RX4 "currentThreads" rm_X4_currentThreads (some (.object "ChatThreads$Threads")) 1 bc bs true) : am_S G 26 (t_X4_currentThreads_26) := by
  unfold t_X4_currentThreads_26
  refine as_aload_n (pc := 26) X dX4_currentThreads_26 rfl ?_
  refine as_getR (ci := 4) (j := 0) (pc := 27) X (Cn := RX4) (Tf := TX4) (N := 7) rfl rfl (by decide) iw_X4 aw_224 rfl dX4_currentThreads_27 ?_
  exact as_aret (pc := 30) X ⟨rfl, rfl⟩ ⟨_, rfl⟩ dX4_currentThreads_30
theorem s_X4_currentThreads_0 {G : am_G} {bc bs : Nat} (X : am_Cx G cX4_currentThreads RX4 "currentThreads" rm_X4_currentThreads (some (.object "ChatThreads$Threads")) 1 bc bs true) : am_S G 0 (t_X4_currentThreads_0) := by
  unfold t_X4_currentThreads_0
  refine as_aload_n (pc := 0) X dX4_currentThreads_0 rfl ?_
  refine as_getI (ci := 4) (j := 2) (pc := 1) X (Cn := RX4) (Tf := TX4) (N := 7) rfl rfl (by decide) iw_X4 aw_226 rfl dX4_currentThreads_1 ?_
  refine as_if_eq (pc := 4) X 26 dX4_currentThreads_4 (by decide) (s_X4_currentThreads_26 X) ?_
  refine as_aload_n (pc := 7) X dX4_currentThreads_7 rfl ?_
  refine as_getR (ci := 4) (j := 0) (pc := 8) X (Cn := RX4) (Tf := TX4) (N := 7) rfl rfl (by decide) iw_X4 aw_224 rfl dX4_currentThreads_8 ?_
  refine as_callV (ci := 3) (np := 0) (ix := 244) (pc := 11) X ct_X3_rateAll (Cn := (RX3, TX3, 17)) rfl ⟨rfl, rfl⟩ aw_284 aw_285 aw_286 aw_287 aw_18 (by decide +kernel) (by decide) dX4_currentThreads_11 ?_
  refine as_aload_n (pc := 14) X dX4_currentThreads_14 rfl ?_
  refine as_getR (ci := 4) (j := 0) (pc := 15) X (Cn := RX4) (Tf := TX4) (N := 7) rfl rfl (by decide) iw_X4 aw_224 rfl dX4_currentThreads_15 ?_
  refine as_callV (ci := 3) (np := 0) (ix := 253) (pc := 18) X ct_X3_follow (Cn := (RX3, TX3, 17)) rfl ⟨rfl, rfl⟩ aw_342 aw_343 aw_344 aw_345 aw_18 (by decide +kernel) (by decide) dX4_currentThreads_18 ?_
  refine as_aload_n (pc := 21) X dX4_currentThreads_21 rfl ?_
  refine as_iconst (pc := 22) X dX4_currentThreads_22 (by decide) ?_
  refine as_putN (ci := 4) (j := 2) (pc := 23) X (Cn := RX4) (Tf := TX4) (N := 7) rfl rfl (by decide) iw_X4 aw_226 tyX4 tyX4_ok nmX4 rfl (ty := .boolean) rfl (by decide +kernel) dX4_currentThreads_23 ?_
  exact s_X4_currentThreads_26 X
theorem s_X4_currentThreads {G : am_G} {bc bs : Nat} (X : am_Cx G cX4_currentThreads RX4 "currentThreads" rm_X4_currentThreads (some (.object "ChatThreads$Threads")) 1 bc bs true) (h : Nat) : am_S G h (h_X4_currentThreads h) := by
  unfold h_X4_currentThreads
  split
  · next e => rw [e]; exact s_X4_currentThreads_0 X
  exact as_bad
theorem ct_X4_currentThreads : am_Ct yX4_currentThreads cX4_currentThreads 1 (some (.object "ChatThreads$Threads")) rm_X4_currentThreads sp_X4_currentThreads := am_met (own := RX4) (nm := "currentThreads") (by decide) rfl rfl (Or.inr (Or.inr (Or.inr ⟨_, rfl⟩))) (fun _ _ => h_X4_currentThreads) (fun _ _ _ X => s_X4_currentThreads X) (fun _ _ _ _ h => h)
-- X4_inOrder
theorem dX4_inOrder_0 : decode cX4_inOrder 0 = .ok (.iload_n 1, 1) := by decide +kernel
theorem dX4_inOrder_1 : decode cX4_inOrder 1 = .ok (.ifCond .ge 5, 3) := by decide +kernel
theorem dX4_inOrder_4 : decode cX4_inOrder 4 = .ok (.iconst (-1), 1) := by decide +kernel
theorem dX4_inOrder_5 : decode cX4_inOrder 5 = .ok (.ireturn, 1) := by decide +kernel
theorem dX4_inOrder_6 : decode cX4_inOrder 6 = .ok (.iload_n 1, 1) := by decide +kernel
theorem dX4_inOrder_7 : decode cX4_inOrder 7 = .ok (.aload_n 0, 1) := by decide +kernel
theorem dX4_inOrder_8 : decode cX4_inOrder 8 = .ok (.getfield 20, 3) := by decide +kernel
theorem dX4_inOrder_11 : decode cX4_inOrder 11 = .ok (.getfield 86, 3) := by decide +kernel
theorem dX4_inOrder_14 : decode cX4_inOrder 14 = .ok (.if_icmp .ge 15, 3) := by decide +kernel
theorem dX4_inOrder_17 : decode cX4_inOrder 17 = .ok (.aload_n 0, 1) := by decide +kernel
theorem dX4_inOrder_18 : decode cX4_inOrder 18 = .ok (.invokevirtual 116, 3) := by decide +kernel
theorem dX4_inOrder_21 : decode cX4_inOrder 21 = .ok (.getfield 138, 3) := by decide +kernel
theorem dX4_inOrder_24 : decode cX4_inOrder 24 = .ok (.iload_n 1, 1) := by decide +kernel
theorem dX4_inOrder_25 : decode cX4_inOrder 25 = .ok (.iaload, 1) := by decide +kernel
theorem dX4_inOrder_26 : decode cX4_inOrder 26 = .ok (.goto 5, 3) := by decide +kernel
theorem dX4_inOrder_29 : decode cX4_inOrder 29 = .ok (.bipush (-4), 2) := by decide +kernel
theorem dX4_inOrder_31 : decode cX4_inOrder 31 = .ok (.ireturn, 1) := by decide +kernel
def t_X4_inOrder_31 : am_T := tb_iret
def t_X4_inOrder_29 : am_T := tb_const (-4) <|
  t_X4_inOrder_31
def t_X4_inOrder_6 : am_T := tb_iload 1 <|
  tb_aload 0 <|
  tb_getR 4 1 <|
  tb_getI 1 4 <|
  tb_ic (fun x y => y ≤ x) (t_X4_inOrder_29) <|
  tb_aload 0 <|
  tb_callV 4 sp_X4_currentThreads 1 <|
  tb_getR 3 1 <|
  tb_iload 1 <|
  tb_iald <|
  t_X4_inOrder_31
def t_X4_inOrder_0 : am_T := tb_iload 1 <|
  tb_if (fun x => 0 ≤ x) (t_X4_inOrder_6) <|
  tb_const (-1) <|
  tb_iret
def h_X4_inOrder : am_Hd := fun h => if h = 0 then t_X4_inOrder_0 else tb_bad
theorem h_X4_inOrder_0 : h_X4_inOrder 0 = t_X4_inOrder_0 := rfl
def rm_X4_inOrder : Room := { frames := 6, cells := 0, slots := 0, locals := 133 }
def sp_X4_inOrder : am_sp := fun as M Q => as.length ≤ 2 ∧ am_OK h_X4_inOrder Q 0 (am_in 2 as) M
theorem s_X4_inOrder_31 {G : am_G} {bc bs : Nat} (X : am_Cx G cX4_inOrder RX4 "inOrder" rm_X4_inOrder (some .int) 2 bc bs true) : am_S G 31 (t_X4_inOrder_31) := by
  unfold t_X4_inOrder_31
  exact as_iret (pc := 31) X ⟨rfl, rfl⟩ rfl dX4_inOrder_31
theorem s_X4_inOrder_29 {G : am_G} {bc bs : Nat} (X : am_Cx G cX4_inOrder RX4 "inOrder" rm_X4_inOrder (some .int) 2 bc bs true) : am_S G 29 (t_X4_inOrder_29) := by
  unfold t_X4_inOrder_29
  refine as_bipush (pc := 29) X dX4_inOrder_29 (by decide) ?_
  exact s_X4_inOrder_31 X
theorem s_X4_inOrder_6 {G : am_G} {bc bs : Nat} (X : am_Cx G cX4_inOrder RX4 "inOrder" rm_X4_inOrder (some .int) 2 bc bs true) : am_S G 6 (t_X4_inOrder_6) := by
  unfold t_X4_inOrder_6
  refine as_iload_n (pc := 6) X dX4_inOrder_6 rfl ?_
  refine as_aload_n (pc := 7) X dX4_inOrder_7 rfl ?_
  refine as_getR (ci := 4) (j := 1) (pc := 8) X (Cn := RX4) (Tf := TX4) (N := 7) rfl rfl (by decide) iw_X4 aw_225 rfl dX4_inOrder_8 ?_
  refine as_getI (ci := 1) (j := 4) (pc := 11) X (Cn := RX1) (Tf := TX1) (N := 14) rfl rfl (by decide) iw_X1 aw_57 rfl dX4_inOrder_11 ?_
  refine as_ic_ge (pc := 14) X 29 dX4_inOrder_14 (by decide) (s_X4_inOrder_29 X) ?_
  refine as_aload_n (pc := 17) X dX4_inOrder_17 rfl ?_
  refine as_callV (ci := 4) (np := 0) (ix := 116) (pc := 18) X ct_X4_currentThreads (Cn := (RX4, TX4, 7)) rfl ⟨rfl, rfl⟩ aw_280 aw_282 aw_0 aw_283 aw_17 (by decide +kernel) (by decide) dX4_inOrder_18 ?_
  refine as_getR (ci := 3) (j := 1) (pc := 21) X (Cn := RX3) (Tf := TX3) (N := 17) rfl rfl (by decide) iw_X3 aw_117 rfl dX4_inOrder_21 ?_
  refine as_iload_n (pc := 24) X dX4_inOrder_24 rfl ?_
  refine as_iald (pc := 25) X dX4_inOrder_25 ?_
  exact as_goto (pc := 26) X 31 dX4_inOrder_26 (by decide) (s_X4_inOrder_31 X)
theorem s_X4_inOrder_0 {G : am_G} {bc bs : Nat} (X : am_Cx G cX4_inOrder RX4 "inOrder" rm_X4_inOrder (some .int) 2 bc bs true) : am_S G 0 (t_X4_inOrder_0) := by
  unfold t_X4_inOrder_0
  refine as_iload_n (pc := 0) X dX4_inOrder_0 rfl ?_
  refine as_if_ge (pc := 1) X 6 dX4_inOrder_1 (by decide) (s_X4_inOrder_6 X) ?_
  refine as_iconst (pc := 4) X dX4_inOrder_4 (by decide) ?_
  exact as_iret (pc := 5) X ⟨rfl, rfl⟩ rfl dX4_inOrder_5
theorem s_X4_inOrder {G : am_G} {bc bs : Nat} (X : am_Cx G cX4_inOrder RX4 "inOrder" rm_X4_inOrder (some .int) 2 bc bs true) (h : Nat) : am_S G h (h_X4_inOrder h) := by
  unfold h_X4_inOrder
  split
  · next e => rw [e]; exact s_X4_inOrder_0 X
  exact as_bad
theorem ct_X4_inOrder : am_Ct yX4_inOrder cX4_inOrder 2 (some .int) rm_X4_inOrder sp_X4_inOrder := am_met (own := RX4) (nm := "inOrder") (by decide) rfl rfl (Or.inr (Or.inl rfl)) (fun _ _ => h_X4_inOrder) (fun _ _ _ X => s_X4_inOrder X) (fun _ _ _ _ h => h)
-- X1_isLine
theorem dX1_isLine_0 : decode cX1_isLine 0 = .ok (.iload_n 1, 1) := by decide +kernel
theorem dX1_isLine_1 : decode cX1_isLine 1 = .ok (.ifCond .lt 15, 3) := by decide +kernel
theorem dX1_isLine_4 : decode cX1_isLine 4 = .ok (.iload_n 1, 1) := by decide +kernel
theorem dX1_isLine_5 : decode cX1_isLine 5 = .ok (.aload_n 0, 1) := by decide +kernel
theorem dX1_isLine_6 : decode cX1_isLine 6 = .ok (.getfield 25, 3) := by decide +kernel
theorem dX1_isLine_9 : decode cX1_isLine 9 = .ok (.if_icmp .ge 7, 3) := by decide +kernel
theorem dX1_isLine_12 : decode cX1_isLine 12 = .ok (.iconst 1, 1) := by decide +kernel
theorem dX1_isLine_13 : decode cX1_isLine 13 = .ok (.goto 4, 3) := by decide +kernel
theorem dX1_isLine_16 : decode cX1_isLine 16 = .ok (.iconst 0, 1) := by decide +kernel
theorem dX1_isLine_17 : decode cX1_isLine 17 = .ok (.ireturn, 1) := by decide +kernel
def t_X1_isLine_17 : am_T := tb_zret
def t_X1_isLine_16 : am_T := tb_const 0 <|
  t_X1_isLine_17
def t_X1_isLine_0 : am_T := tb_iload 1 <|
  tb_if (fun x => x < 0) (t_X1_isLine_16) <|
  tb_iload 1 <|
  tb_aload 0 <|
  tb_getI 1 4 <|
  tb_ic (fun x y => y ≤ x) (t_X1_isLine_16) <|
  tb_const 1 <|
  t_X1_isLine_17
def h_X1_isLine : am_Hd := fun h => if h = 0 then t_X1_isLine_0 else tb_bad
theorem h_X1_isLine_0 : h_X1_isLine 0 = t_X1_isLine_0 := rfl
def rm_X1_isLine : Room := { frames := 0, cells := 0, slots := 0, locals := 0 }
def sp_X1_isLine : am_sp := fun as M Q => as.length ≤ 2 ∧ am_OK h_X1_isLine Q 0 (am_in 2 as) M
theorem s_X1_isLine_17 {G : am_G} {bc bs : Nat} (X : am_Cx G cX1_isLine RX1 "isLine" rm_X1_isLine (some .boolean) 2 bc bs true) : am_S G 17 (t_X1_isLine_17) := by
  unfold t_X1_isLine_17
  exact as_zret (pc := 17) X ⟨rfl, rfl⟩ rfl dX1_isLine_17
theorem s_X1_isLine_16 {G : am_G} {bc bs : Nat} (X : am_Cx G cX1_isLine RX1 "isLine" rm_X1_isLine (some .boolean) 2 bc bs true) : am_S G 16 (t_X1_isLine_16) := by
  unfold t_X1_isLine_16
  refine as_iconst (pc := 16) X dX1_isLine_16 (by decide) ?_
  exact s_X1_isLine_17 X
theorem s_X1_isLine_0 {G : am_G} {bc bs : Nat} (X : am_Cx G cX1_isLine RX1 "isLine" rm_X1_isLine (some .boolean) 2 bc bs true) : am_S G 0 (t_X1_isLine_0) := by
  unfold t_X1_isLine_0
  refine as_iload_n (pc := 0) X dX1_isLine_0 rfl ?_
  refine as_if_lt (pc := 1) X 16 dX1_isLine_1 (by decide) (s_X1_isLine_16 X) ?_
  refine as_iload_n (pc := 4) X dX1_isLine_4 rfl ?_
  refine as_aload_n (pc := 5) X dX1_isLine_5 rfl ?_
  refine as_getI (ci := 1) (j := 4) (pc := 6) X (Cn := RX1) (Tf := TX1) (N := 14) rfl rfl (by decide) iw_X1 aw_55 rfl dX1_isLine_6 ?_
  refine as_ic_ge (pc := 9) X 16 dX1_isLine_9 (by decide) (s_X1_isLine_16 X) ?_
  refine as_iconst (pc := 12) X dX1_isLine_12 (by decide) ?_
  exact as_goto (pc := 13) X 17 dX1_isLine_13 (by decide) (s_X1_isLine_17 X)
theorem s_X1_isLine {G : am_G} {bc bs : Nat} (X : am_Cx G cX1_isLine RX1 "isLine" rm_X1_isLine (some .boolean) 2 bc bs true) (h : Nat) : am_S G h (h_X1_isLine h) := by
  unfold h_X1_isLine
  split
  · next e => rw [e]; exact s_X1_isLine_0 X
  exact as_bad
theorem ct_X1_isLine : am_Ct yX1_isLine cX1_isLine 2 (some .boolean) rm_X1_isLine sp_X1_isLine := am_met (own := RX1) (nm := "isLine") (by decide) rfl rfl (Or.inr (Or.inr (Or.inl rfl))) (fun _ _ => h_X1_isLine) (fun _ _ _ X => s_X1_isLine X) (fun _ _ _ _ h => h)
-- X4_orNotFound
theorem dX4_orNotFound_0 : decode cX4_orNotFound 0 = .ok (.iload_n 0, 1) := by decide +kernel
theorem dX4_orNotFound_1 : decode cX4_orNotFound 1 = .ok (.iconst (-1), 1) := by decide +kernel
theorem dX4_orNotFound_2 : decode cX4_orNotFound 2 = .ok (.if_icmp .ne 8, 3) := by decide +kernel
theorem dX4_orNotFound_5 : decode cX4_orNotFound 5 = .ok (.bipush (-4), 2) := by decide +kernel
theorem dX4_orNotFound_7 : decode cX4_orNotFound 7 = .ok (.goto 4, 3) := by decide +kernel
theorem dX4_orNotFound_10 : decode cX4_orNotFound 10 = .ok (.iload_n 0, 1) := by decide +kernel
theorem dX4_orNotFound_11 : decode cX4_orNotFound 11 = .ok (.ireturn, 1) := by decide +kernel
def t_X4_orNotFound_11 : am_T := tb_iret
def t_X4_orNotFound_10 : am_T := tb_iload 0 <|
  t_X4_orNotFound_11
def t_X4_orNotFound_0 : am_T := tb_iload 0 <|
  tb_const (-1) <|
  tb_ic (fun x y => x ≠ y) (t_X4_orNotFound_10) <|
  tb_const (-4) <|
  t_X4_orNotFound_11
def h_X4_orNotFound : am_Hd := fun h => if h = 0 then t_X4_orNotFound_0 else tb_bad
theorem h_X4_orNotFound_0 : h_X4_orNotFound 0 = t_X4_orNotFound_0 := rfl
def rm_X4_orNotFound : Room := { frames := 0, cells := 0, slots := 0, locals := 0 }
def sp_X4_orNotFound : am_sp := fun as M Q => as.length ≤ 1 ∧ am_OK h_X4_orNotFound Q 0 (am_in 1 as) M
theorem s_X4_orNotFound_11 {G : am_G} {bc bs : Nat} (X : am_Cx G cX4_orNotFound RX4 "orNotFound" rm_X4_orNotFound (some .int) 1 bc bs true) : am_S G 11 (t_X4_orNotFound_11) := by
  unfold t_X4_orNotFound_11
  exact as_iret (pc := 11) X ⟨rfl, rfl⟩ rfl dX4_orNotFound_11
theorem s_X4_orNotFound_10 {G : am_G} {bc bs : Nat} (X : am_Cx G cX4_orNotFound RX4 "orNotFound" rm_X4_orNotFound (some .int) 1 bc bs true) : am_S G 10 (t_X4_orNotFound_10) := by
  unfold t_X4_orNotFound_10
  refine as_iload_n (pc := 10) X dX4_orNotFound_10 rfl ?_
  exact s_X4_orNotFound_11 X
theorem s_X4_orNotFound_0 {G : am_G} {bc bs : Nat} (X : am_Cx G cX4_orNotFound RX4 "orNotFound" rm_X4_orNotFound (some .int) 1 bc bs true) : am_S G 0 (t_X4_orNotFound_0) := by
  unfold t_X4_orNotFound_0
  refine as_iload_n (pc := 0) X dX4_orNotFound_0 rfl ?_
  refine as_iconst (pc := 1) X dX4_orNotFound_1 (by decide) ?_
  refine as_ic_ne (pc := 2) X 10 dX4_orNotFound_2 (by decide) (s_X4_orNotFound_10 X) ?_
  refine as_bipush (pc := 5) X dX4_orNotFound_5 (by decide) ?_
  exact as_goto (pc := 7) X 11 dX4_orNotFound_7 (by decide) (s_X4_orNotFound_11 X)
theorem s_X4_orNotFound {G : am_G} {bc bs : Nat} (X : am_Cx G cX4_orNotFound RX4 "orNotFound" rm_X4_orNotFound (some .int) 1 bc bs true) (h : Nat) : am_S G h (h_X4_orNotFound h) := by
  unfold h_X4_orNotFound
  split
  · next e => rw [e]; exact s_X4_orNotFound_0 X
  exact as_bad
theorem ct_X4_orNotFound : am_Ct yX4_orNotFound cX4_orNotFound 1 (some .int) rm_X4_orNotFound sp_X4_orNotFound := am_met (own := RX4) (nm := "orNotFound") (by decide) rfl rfl (Or.inr (Or.inl rfl)) (fun _ _ => h_X4_orNotFound) (fun _ _ _ X => s_X4_orNotFound X) (fun _ _ _ _ h => h)
-- X3_answersTo
theorem dX3_answersTo_0 : decode cX3_answersTo 0 = .ok (.iconst 0, 1) := by decide +kernel
theorem dX3_answersTo_1 : decode cX3_answersTo 1 = .ok (.istore_n 2, 1) := by decide +kernel
theorem dX3_answersTo_2 : decode cX3_answersTo 2 = .ok (.iconst 0, 1) := by decide +kernel
theorem dX3_answersTo_3 : decode cX3_answersTo 3 = .ok (.istore_n 3, 1) := by decide +kernel
theorem dX3_answersTo_4 : decode cX3_answersTo 4 = .ok (.iload_n 3, 1) := by decide +kernel
theorem dX3_answersTo_5 : decode cX3_answersTo 5 = .ok (.aload_n 0, 1) := by decide +kernel
theorem dX3_answersTo_6 : decode cX3_answersTo 6 = .ok (.getfield 12, 3) := by decide +kernel
theorem dX3_answersTo_9 : decode cX3_answersTo 9 = .ok (.getfield 71, 3) := by decide +kernel
theorem dX3_answersTo_12 : decode cX3_answersTo 12 = .ok (.if_icmp .ge 22, 3) := by decide +kernel
theorem dX3_answersTo_15 : decode cX3_answersTo 15 = .ok (.aload_n 0, 1) := by decide +kernel
theorem dX3_answersTo_16 : decode cX3_answersTo 16 = .ok (.getfield 43, 3) := by decide +kernel
theorem dX3_answersTo_19 : decode cX3_answersTo 19 = .ok (.iload_n 3, 1) := by decide +kernel
theorem dX3_answersTo_20 : decode cX3_answersTo 20 = .ok (.iaload, 1) := by decide +kernel
theorem dX3_answersTo_21 : decode cX3_answersTo 21 = .ok (.iload_n 1, 1) := by decide +kernel
theorem dX3_answersTo_22 : decode cX3_answersTo 22 = .ok (.if_icmp .ne 6, 3) := by decide +kernel
theorem dX3_answersTo_25 : decode cX3_answersTo 25 = .ok (.iinc 2 1, 3) := by decide +kernel
theorem dX3_answersTo_28 : decode cX3_answersTo 28 = .ok (.iinc 3 1, 3) := by decide +kernel
theorem dX3_answersTo_31 : decode cX3_answersTo 31 = .ok (.goto (-27), 3) := by decide +kernel
theorem dX3_answersTo_34 : decode cX3_answersTo 34 = .ok (.iload_n 2, 1) := by decide +kernel
theorem dX3_answersTo_35 : decode cX3_answersTo 35 = .ok (.ireturn, 1) := by decide +kernel
def t_X3_answersTo_34 : am_T := tb_iload 2 <|
  tb_iret
def t_X3_answersTo_28 : am_T := tb_iinc 3 1 <|
  tb_head 4
def t_X3_answersTo_4 : am_T := tb_iload 3 <|
  tb_aload 0 <|
  tb_getR 3 0 <|
  tb_getI 1 4 <|
  tb_ic (fun x y => y ≤ x) (t_X3_answersTo_34) <|
  tb_aload 0 <|
  tb_getR 3 9 <|
  tb_iload 3 <|
  tb_iald <|
  tb_iload 1 <|
  tb_ic (fun x y => x ≠ y) (t_X3_answersTo_28) <|
  tb_iinc 2 1 <|
  t_X3_answersTo_28
def t_X3_answersTo_0 : am_T := tb_const 0 <|
  tb_istore 2 <|
  tb_const 0 <|
  tb_istore 3 <|
  tb_head 4
def h_X3_answersTo : am_Hd := fun h => if h = 0 then t_X3_answersTo_0 else if h = 4 then t_X3_answersTo_4 else tb_bad
theorem h_X3_answersTo_0 : h_X3_answersTo 0 = t_X3_answersTo_0 := rfl
theorem h_X3_answersTo_4 : h_X3_answersTo 4 = t_X3_answersTo_4 := rfl
def rm_X3_answersTo : Room := { frames := 0, cells := 0, slots := 0, locals := 0 }
def sp_X3_answersTo : am_sp := fun as M Q => as.length ≤ 4 ∧ am_OK h_X3_answersTo Q 0 (am_in 4 as) M
theorem s_X3_answersTo_34 {G : am_G} {bc bs : Nat} (X : am_Cx G cX3_answersTo RX3 "answersTo" rm_X3_answersTo (some .int) 4 bc bs true) : am_S G 34 (t_X3_answersTo_34) := by
  unfold t_X3_answersTo_34
  refine as_iload_n (pc := 34) X dX3_answersTo_34 rfl ?_
  exact as_iret (pc := 35) X ⟨rfl, rfl⟩ rfl dX3_answersTo_35
theorem s_X3_answersTo_28 {G : am_G} {bc bs : Nat} (X : am_Cx G cX3_answersTo RX3 "answersTo" rm_X3_answersTo (some .int) 4 bc bs true) : am_S G 28 (t_X3_answersTo_28) := by
  unfold t_X3_answersTo_28
  refine as_iinc (pc := 28) X dX3_answersTo_28 (by decide) (by decide) ?_
  exact as_goto (pc := 31) X 4 dX3_answersTo_31 (by decide) (as_head)
theorem s_X3_answersTo_4 {G : am_G} {bc bs : Nat} (X : am_Cx G cX3_answersTo RX3 "answersTo" rm_X3_answersTo (some .int) 4 bc bs true) : am_S G 4 (t_X3_answersTo_4) := by
  unfold t_X3_answersTo_4
  refine as_iload_n (pc := 4) X dX3_answersTo_4 rfl ?_
  refine as_aload_n (pc := 5) X dX3_answersTo_5 rfl ?_
  refine as_getR (ci := 3) (j := 0) (pc := 6) X (Cn := RX3) (Tf := TX3) (N := 17) rfl rfl (by decide) iw_X3 aw_114 rfl dX3_answersTo_6 ?_
  refine as_getI (ci := 1) (j := 4) (pc := 9) X (Cn := RX1) (Tf := TX1) (N := 14) rfl rfl (by decide) iw_X1 aw_56 rfl dX3_answersTo_9 ?_
  refine as_ic_ge (pc := 12) X 34 dX3_answersTo_12 (by decide) (s_X3_answersTo_34 X) ?_
  refine as_aload_n (pc := 15) X dX3_answersTo_15 rfl ?_
  refine as_getR (ci := 3) (j := 9) (pc := 16) X (Cn := RX3) (Tf := TX3) (N := 17) rfl rfl (by decide) iw_X3 aw_127 rfl dX3_answersTo_16 ?_
  refine as_iload_n (pc := 19) X dX3_answersTo_19 rfl ?_
  refine as_iald (pc := 20) X dX3_answersTo_20 ?_
  refine as_iload_n (pc := 21) X dX3_answersTo_21 rfl ?_
  refine as_ic_ne (pc := 22) X 28 dX3_answersTo_22 (by decide) (s_X3_answersTo_28 X) ?_
  refine as_iinc (pc := 25) X dX3_answersTo_25 (by decide) (by decide) ?_
  exact s_X3_answersTo_28 X
theorem s_X3_answersTo_0 {G : am_G} {bc bs : Nat} (X : am_Cx G cX3_answersTo RX3 "answersTo" rm_X3_answersTo (some .int) 4 bc bs true) : am_S G 0 (t_X3_answersTo_0) := by
  unfold t_X3_answersTo_0
  refine as_iconst (pc := 0) X dX3_answersTo_0 (by decide) ?_
  refine as_istore_n (pc := 1) X dX3_answersTo_1 rfl ?_ (by decide)
  refine as_iconst (pc := 2) X dX3_answersTo_2 (by decide) ?_
  refine as_istore_n (pc := 3) X dX3_answersTo_3 rfl ?_ (by decide)
  exact as_head
theorem s_X3_answersTo {G : am_G} {bc bs : Nat} (X : am_Cx G cX3_answersTo RX3 "answersTo" rm_X3_answersTo (some .int) 4 bc bs true) (h : Nat) : am_S G h (h_X3_answersTo h) := by
  unfold h_X3_answersTo
  split
  · next e => rw [e]; exact s_X3_answersTo_0 X
  split
  · next e => rw [e]; exact s_X3_answersTo_4 X
  exact as_bad
theorem ct_X3_answersTo : am_Ct yX3_answersTo cX3_answersTo 4 (some .int) rm_X3_answersTo sp_X3_answersTo := am_met (own := RX3) (nm := "answersTo") (by decide) rfl rfl (Or.inr (Or.inl rfl)) (fun _ _ => h_X3_answersTo) (fun _ _ _ X => s_X3_answersTo X) (fun _ _ _ _ h => h)
-- X4_lineOf
theorem dX4_lineOf_0 : decode cX4_lineOf 0 = .ok (.aload_n 0, 1) := by decide +kernel
theorem dX4_lineOf_1 : decode cX4_lineOf 1 = .ok (.getfield 20, 3) := by decide +kernel
theorem dX4_lineOf_4 : decode cX4_lineOf 4 = .ok (.iload_n 1, 1) := by decide +kernel
theorem dX4_lineOf_5 : decode cX4_lineOf 5 = .ok (.invokevirtual 93, 3) := by decide +kernel
theorem dX4_lineOf_8 : decode cX4_lineOf 8 = .ok (.ifCond .ne 5, 3) := by decide +kernel
theorem dX4_lineOf_11 : decode cX4_lineOf 11 = .ok (.iconst (-1), 1) := by decide +kernel
theorem dX4_lineOf_12 : decode cX4_lineOf 12 = .ok (.ireturn, 1) := by decide +kernel
theorem dX4_lineOf_13 : decode cX4_lineOf 13 = .ok (.iload_n 2, 1) := by decide +kernel
theorem dX4_lineOf_14 : decode cX4_lineOf 14 = .ok (.tableswitch 156 0 9 #[54, 64, 74, 84, 94, 104, 114, 127, 136, 146], 54) := by decide +kernel
theorem dX4_lineOf_68 : decode cX4_lineOf 68 = .ok (.aload_n 0, 1) := by decide +kernel
theorem dX4_lineOf_69 : decode cX4_lineOf 69 = .ok (.getfield 20, 3) := by decide +kernel
theorem dX4_lineOf_72 : decode cX4_lineOf 72 = .ok (.getfield 103, 3) := by decide +kernel
theorem dX4_lineOf_75 : decode cX4_lineOf 75 = .ok (.iload_n 1, 1) := by decide +kernel
theorem dX4_lineOf_76 : decode cX4_lineOf 76 = .ok (.iaload, 1) := by decide +kernel
theorem dX4_lineOf_77 : decode cX4_lineOf 77 = .ok (.ireturn, 1) := by decide +kernel
theorem dX4_lineOf_78 : decode cX4_lineOf 78 = .ok (.aload_n 0, 1) := by decide +kernel
theorem dX4_lineOf_79 : decode cX4_lineOf 79 = .ok (.getfield 20, 3) := by decide +kernel
theorem dX4_lineOf_82 : decode cX4_lineOf 82 = .ok (.getfield 107, 3) := by decide +kernel
theorem dX4_lineOf_85 : decode cX4_lineOf 85 = .ok (.iload_n 1, 1) := by decide +kernel
theorem dX4_lineOf_86 : decode cX4_lineOf 86 = .ok (.iaload, 1) := by decide +kernel
theorem dX4_lineOf_87 : decode cX4_lineOf 87 = .ok (.ireturn, 1) := by decide +kernel
theorem dX4_lineOf_88 : decode cX4_lineOf 88 = .ok (.aload_n 0, 1) := by decide +kernel
theorem dX4_lineOf_89 : decode cX4_lineOf 89 = .ok (.getfield 20, 3) := by decide +kernel
theorem dX4_lineOf_92 : decode cX4_lineOf 92 = .ok (.getfield 110, 3) := by decide +kernel
theorem dX4_lineOf_95 : decode cX4_lineOf 95 = .ok (.iload_n 1, 1) := by decide +kernel
theorem dX4_lineOf_96 : decode cX4_lineOf 96 = .ok (.iaload, 1) := by decide +kernel
theorem dX4_lineOf_97 : decode cX4_lineOf 97 = .ok (.ireturn, 1) := by decide +kernel
theorem dX4_lineOf_98 : decode cX4_lineOf 98 = .ok (.aload_n 0, 1) := by decide +kernel
theorem dX4_lineOf_99 : decode cX4_lineOf 99 = .ok (.getfield 20, 3) := by decide +kernel
theorem dX4_lineOf_102 : decode cX4_lineOf 102 = .ok (.getfield 113, 3) := by decide +kernel
theorem dX4_lineOf_105 : decode cX4_lineOf 105 = .ok (.iload_n 1, 1) := by decide +kernel
theorem dX4_lineOf_106 : decode cX4_lineOf 106 = .ok (.iaload, 1) := by decide +kernel
theorem dX4_lineOf_107 : decode cX4_lineOf 107 = .ok (.ireturn, 1) := by decide +kernel
theorem dX4_lineOf_108 : decode cX4_lineOf 108 = .ok (.aload_n 0, 1) := by decide +kernel
theorem dX4_lineOf_109 : decode cX4_lineOf 109 = .ok (.invokevirtual 116, 3) := by decide +kernel
theorem dX4_lineOf_112 : decode cX4_lineOf 112 = .ok (.getfield 120, 3) := by decide +kernel
theorem dX4_lineOf_115 : decode cX4_lineOf 115 = .ok (.iload_n 1, 1) := by decide +kernel
theorem dX4_lineOf_116 : decode cX4_lineOf 116 = .ok (.iaload, 1) := by decide +kernel
theorem dX4_lineOf_117 : decode cX4_lineOf 117 = .ok (.ireturn, 1) := by decide +kernel
theorem dX4_lineOf_118 : decode cX4_lineOf 118 = .ok (.aload_n 0, 1) := by decide +kernel
theorem dX4_lineOf_119 : decode cX4_lineOf 119 = .ok (.invokevirtual 116, 3) := by decide +kernel
theorem dX4_lineOf_122 : decode cX4_lineOf 122 = .ok (.getfield 123, 3) := by decide +kernel
theorem dX4_lineOf_125 : decode cX4_lineOf 125 = .ok (.iload_n 1, 1) := by decide +kernel
theorem dX4_lineOf_126 : decode cX4_lineOf 126 = .ok (.iaload, 1) := by decide +kernel
theorem dX4_lineOf_127 : decode cX4_lineOf 127 = .ok (.ireturn, 1) := by decide +kernel
theorem dX4_lineOf_128 : decode cX4_lineOf 128 = .ok (.aload_n 0, 1) := by decide +kernel
theorem dX4_lineOf_129 : decode cX4_lineOf 129 = .ok (.invokevirtual 116, 3) := by decide +kernel
theorem dX4_lineOf_132 : decode cX4_lineOf 132 = .ok (.getfield 126, 3) := by decide +kernel
theorem dX4_lineOf_135 : decode cX4_lineOf 135 = .ok (.iload_n 1, 1) := by decide +kernel
theorem dX4_lineOf_136 : decode cX4_lineOf 136 = .ok (.iaload, 1) := by decide +kernel
theorem dX4_lineOf_137 : decode cX4_lineOf 137 = .ok (.invokestatic 79, 3) := by decide +kernel
theorem dX4_lineOf_140 : decode cX4_lineOf 140 = .ok (.ireturn, 1) := by decide +kernel
theorem dX4_lineOf_141 : decode cX4_lineOf 141 = .ok (.aload_n 0, 1) := by decide +kernel
theorem dX4_lineOf_142 : decode cX4_lineOf 142 = .ok (.invokevirtual 116, 3) := by decide +kernel
theorem dX4_lineOf_145 : decode cX4_lineOf 145 = .ok (.iload_n 1, 1) := by decide +kernel
theorem dX4_lineOf_146 : decode cX4_lineOf 146 = .ok (.invokevirtual 129, 3) := by decide +kernel
theorem dX4_lineOf_149 : decode cX4_lineOf 149 = .ok (.ireturn, 1) := by decide +kernel
theorem dX4_lineOf_150 : decode cX4_lineOf 150 = .ok (.aload_n 0, 1) := by decide +kernel
theorem dX4_lineOf_151 : decode cX4_lineOf 151 = .ok (.invokevirtual 116, 3) := by decide +kernel
theorem dX4_lineOf_154 : decode cX4_lineOf 154 = .ok (.getfield 132, 3) := by decide +kernel
theorem dX4_lineOf_157 : decode cX4_lineOf 157 = .ok (.iload_n 1, 1) := by decide +kernel
theorem dX4_lineOf_158 : decode cX4_lineOf 158 = .ok (.iaload, 1) := by decide +kernel
theorem dX4_lineOf_159 : decode cX4_lineOf 159 = .ok (.ireturn, 1) := by decide +kernel
theorem dX4_lineOf_160 : decode cX4_lineOf 160 = .ok (.aload_n 0, 1) := by decide +kernel
theorem dX4_lineOf_161 : decode cX4_lineOf 161 = .ok (.invokevirtual 116, 3) := by decide +kernel
theorem dX4_lineOf_164 : decode cX4_lineOf 164 = .ok (.getfield 135, 3) := by decide +kernel
theorem dX4_lineOf_167 : decode cX4_lineOf 167 = .ok (.iload_n 1, 1) := by decide +kernel
theorem dX4_lineOf_168 : decode cX4_lineOf 168 = .ok (.iaload, 1) := by decide +kernel
theorem dX4_lineOf_169 : decode cX4_lineOf 169 = .ok (.ireturn, 1) := by decide +kernel
theorem dX4_lineOf_170 : decode cX4_lineOf 170 = .ok (.iconst (-1), 1) := by decide +kernel
theorem dX4_lineOf_171 : decode cX4_lineOf 171 = .ok (.ireturn, 1) := by decide +kernel
def t_X4_lineOf_170 : am_T := tb_const (-1) <|
  tb_iret
def t_X4_lineOf_160 : am_T := tb_aload 0 <|
  tb_callV 4 sp_X4_currentThreads 1 <|
  tb_getR 3 3 <|
  tb_iload 1 <|
  tb_iald <|
  tb_iret
def t_X4_lineOf_150 : am_T := tb_aload 0 <|
  tb_callV 4 sp_X4_currentThreads 1 <|
  tb_getR 3 10 <|
  tb_iload 1 <|
  tb_iald <|
  tb_iret
def t_X4_lineOf_141 : am_T := tb_aload 0 <|
  tb_callV 4 sp_X4_currentThreads 1 <|
  tb_iload 1 <|
  tb_callV 3 sp_X3_answersTo 2 <|
  tb_iret
def t_X4_lineOf_128 : am_T := tb_aload 0 <|
  tb_callV 4 sp_X4_currentThreads 1 <|
  tb_getR 3 9 <|
  tb_iload 1 <|
  tb_iald <|
  tb_callS sp_X4_orNotFound 1 <|
  tb_iret
def t_X4_lineOf_118 : am_T := tb_aload 0 <|
  tb_callV 4 sp_X4_currentThreads 1 <|
  tb_getR 3 13 <|
  tb_iload 1 <|
  tb_iald <|
  tb_iret
def t_X4_lineOf_108 : am_T := tb_aload 0 <|
  tb_callV 4 sp_X4_currentThreads 1 <|
  tb_getR 3 2 <|
  tb_iload 1 <|
  tb_iald <|
  tb_iret
def t_X4_lineOf_98 : am_T := tb_aload 0 <|
  tb_getR 4 1 <|
  tb_getR 1 8 <|
  tb_iload 1 <|
  tb_iald <|
  tb_iret
def t_X4_lineOf_88 : am_T := tb_aload 0 <|
  tb_getR 4 1 <|
  tb_getR 1 7 <|
  tb_iload 1 <|
  tb_iald <|
  tb_iret
def t_X4_lineOf_78 : am_T := tb_aload 0 <|
  tb_getR 4 1 <|
  tb_getR 1 6 <|
  tb_iload 1 <|
  tb_iald <|
  tb_iret
def t_X4_lineOf_68 : am_T := tb_aload 0 <|
  tb_getR 4 1 <|
  tb_getR 1 5 <|
  tb_iload 1 <|
  tb_iald <|
  tb_iret
def w_X4_lineOf_14 : Nat → am_T := fun j => match j with
    | 0 => t_X4_lineOf_68
    | 1 => t_X4_lineOf_78
    | 2 => t_X4_lineOf_88
    | 3 => t_X4_lineOf_98
    | 4 => t_X4_lineOf_108
    | 5 => t_X4_lineOf_118
    | 6 => t_X4_lineOf_128
    | 7 => t_X4_lineOf_141
    | 8 => t_X4_lineOf_150
    | 9 => t_X4_lineOf_160
    | _ => tb_bad
def v_X4_lineOf_14 : Nat → Nat := fun j => match j with
    | 0 => 68
    | 1 => 78
    | 2 => 88
    | 3 => 98
    | 4 => 108
    | 5 => 118
    | 6 => 128
    | 7 => 141
    | 8 => 150
    | 9 => 160
    | _ => 0
def t_X4_lineOf_13 : am_T := tb_iload 2 <|
  tb_sw 0 9 w_X4_lineOf_14 (t_X4_lineOf_170)
def t_X4_lineOf_0 : am_T := tb_aload 0 <|
  tb_getR 4 1 <|
  tb_iload 1 <|
  tb_callV 1 sp_X1_isLine 2 <|
  tb_if (fun x => x ≠ 0) (t_X4_lineOf_13) <|
  tb_const (-1) <|
  tb_iret
def h_X4_lineOf : am_Hd := fun h => if h = 0 then t_X4_lineOf_0 else tb_bad
theorem h_X4_lineOf_0 : h_X4_lineOf 0 = t_X4_lineOf_0 := rfl
def rm_X4_lineOf : Room := { frames := 6, cells := 0, slots := 0, locals := 133 }
def sp_X4_lineOf : am_sp := fun as M Q => as.length ≤ 3 ∧ am_OK h_X4_lineOf Q 0 (am_in 3 as) M
theorem s_X4_lineOf_170 {G : am_G} {bc bs : Nat} (X : am_Cx G cX4_lineOf RX4 "lineOf" rm_X4_lineOf (some .int) 3 bc bs true) : am_S G 170 (t_X4_lineOf_170) := by
  unfold t_X4_lineOf_170
  refine as_iconst (pc := 170) X dX4_lineOf_170 (by decide) ?_
  exact as_iret (pc := 171) X ⟨rfl, rfl⟩ rfl dX4_lineOf_171
theorem s_X4_lineOf_160 {G : am_G} {bc bs : Nat} (X : am_Cx G cX4_lineOf RX4 "lineOf" rm_X4_lineOf (some .int) 3 bc bs true) : am_S G 160 (t_X4_lineOf_160) := by
  unfold t_X4_lineOf_160
  refine as_aload_n (pc := 160) X dX4_lineOf_160 rfl ?_
  refine as_callV (ci := 4) (np := 0) (ix := 116) (pc := 161) X ct_X4_currentThreads (Cn := (RX4, TX4, 7)) rfl ⟨rfl, rfl⟩ aw_280 aw_282 aw_0 aw_283 aw_17 (by decide +kernel) (by decide) dX4_lineOf_161 ?_
  refine as_getR (ci := 3) (j := 3) (pc := 164) X (Cn := RX3) (Tf := TX3) (N := 17) rfl rfl (by decide) iw_X3 aw_121 rfl dX4_lineOf_164 ?_
  refine as_iload_n (pc := 167) X dX4_lineOf_167 rfl ?_
  refine as_iald (pc := 168) X dX4_lineOf_168 ?_
  exact as_iret (pc := 169) X ⟨rfl, rfl⟩ rfl dX4_lineOf_169
theorem s_X4_lineOf_150 {G : am_G} {bc bs : Nat} (X : am_Cx G cX4_lineOf RX4 "lineOf" rm_X4_lineOf (some .int) 3 bc bs true) : am_S G 150 (t_X4_lineOf_150) := by
  unfold t_X4_lineOf_150
  refine as_aload_n (pc := 150) X dX4_lineOf_150 rfl ?_
  refine as_callV (ci := 4) (np := 0) (ix := 116) (pc := 151) X ct_X4_currentThreads (Cn := (RX4, TX4, 7)) rfl ⟨rfl, rfl⟩ aw_280 aw_282 aw_0 aw_283 aw_17 (by decide +kernel) (by decide) dX4_lineOf_151 ?_
  refine as_getR (ci := 3) (j := 10) (pc := 154) X (Cn := RX3) (Tf := TX3) (N := 17) rfl rfl (by decide) iw_X3 aw_130 rfl dX4_lineOf_154 ?_
  refine as_iload_n (pc := 157) X dX4_lineOf_157 rfl ?_
  refine as_iald (pc := 158) X dX4_lineOf_158 ?_
  exact as_iret (pc := 159) X ⟨rfl, rfl⟩ rfl dX4_lineOf_159
theorem s_X4_lineOf_141 {G : am_G} {bc bs : Nat} (X : am_Cx G cX4_lineOf RX4 "lineOf" rm_X4_lineOf (some .int) 3 bc bs true) : am_S G 141 (t_X4_lineOf_141) := by
  unfold t_X4_lineOf_141
  refine as_aload_n (pc := 141) X dX4_lineOf_141 rfl ?_
  refine as_callV (ci := 4) (np := 0) (ix := 116) (pc := 142) X ct_X4_currentThreads (Cn := (RX4, TX4, 7)) rfl ⟨rfl, rfl⟩ aw_280 aw_282 aw_0 aw_283 aw_17 (by decide +kernel) (by decide) dX4_lineOf_142 ?_
  refine as_iload_n (pc := 145) X dX4_lineOf_145 rfl ?_
  refine as_callV (ci := 3) (np := 1) (ix := 129) (pc := 146) X ct_X3_answersTo (Cn := (RX3, TX3, 17)) rfl ⟨rfl, rfl⟩ aw_560 aw_385 aw_386 aw_387 aw_18 (by decide +kernel) (by decide) dX4_lineOf_146 ?_
  exact as_iret (pc := 149) X ⟨rfl, rfl⟩ rfl dX4_lineOf_149
theorem s_X4_lineOf_128 {G : am_G} {bc bs : Nat} (X : am_Cx G cX4_lineOf RX4 "lineOf" rm_X4_lineOf (some .int) 3 bc bs true) : am_S G 128 (t_X4_lineOf_128) := by
  unfold t_X4_lineOf_128
  refine as_aload_n (pc := 128) X dX4_lineOf_128 rfl ?_
  refine as_callV (ci := 4) (np := 0) (ix := 116) (pc := 129) X ct_X4_currentThreads (Cn := (RX4, TX4, 7)) rfl ⟨rfl, rfl⟩ aw_280 aw_282 aw_0 aw_283 aw_17 (by decide +kernel) (by decide) dX4_lineOf_129 ?_
  refine as_getR (ci := 3) (j := 9) (pc := 132) X (Cn := RX3) (Tf := TX3) (N := 17) rfl rfl (by decide) iw_X3 aw_128 rfl dX4_lineOf_132 ?_
  refine as_iload_n (pc := 135) X dX4_lineOf_135 rfl ?_
  refine as_iald (pc := 136) X dX4_lineOf_136 ?_
  refine as_callS (np := 1) (ix := 79) (pc := 137) X ct_X4_orNotFound ⟨rfl, rfl⟩ aw_261 aw_262 aw_263 aw_17 (by decide +kernel) (by decide) dX4_lineOf_137 ?_
  exact as_iret (pc := 140) X ⟨rfl, rfl⟩ rfl dX4_lineOf_140
theorem s_X4_lineOf_118 {G : am_G} {bc bs : Nat} (X : am_Cx G cX4_lineOf RX4 "lineOf" rm_X4_lineOf (some .int) 3 bc bs true) : am_S G 118 (t_X4_lineOf_118) := by
  unfold t_X4_lineOf_118
  refine as_aload_n (pc := 118) X dX4_lineOf_118 rfl ?_
  refine as_callV (ci := 4) (np := 0) (ix := 116) (pc := 119) X ct_X4_currentThreads (Cn := (RX4, TX4, 7)) rfl ⟨rfl, rfl⟩ aw_280 aw_282 aw_0 aw_283 aw_17 (by decide +kernel) (by decide) dX4_lineOf_119 ?_
  refine as_getR (ci := 3) (j := 13) (pc := 122) X (Cn := RX3) (Tf := TX3) (N := 17) rfl rfl (by decide) iw_X3 aw_134 rfl dX4_lineOf_122 ?_
  refine as_iload_n (pc := 125) X dX4_lineOf_125 rfl ?_
  refine as_iald (pc := 126) X dX4_lineOf_126 ?_
  exact as_iret (pc := 127) X ⟨rfl, rfl⟩ rfl dX4_lineOf_127
theorem s_X4_lineOf_108 {G : am_G} {bc bs : Nat} (X : am_Cx G cX4_lineOf RX4 "lineOf" rm_X4_lineOf (some .int) 3 bc bs true) : am_S G 108 (t_X4_lineOf_108) := by
  unfold t_X4_lineOf_108
  refine as_aload_n (pc := 108) X dX4_lineOf_108 rfl ?_
  refine as_callV (ci := 4) (np := 0) (ix := 116) (pc := 109) X ct_X4_currentThreads (Cn := (RX4, TX4, 7)) rfl ⟨rfl, rfl⟩ aw_280 aw_282 aw_0 aw_283 aw_17 (by decide +kernel) (by decide) dX4_lineOf_109 ?_
  refine as_getR (ci := 3) (j := 2) (pc := 112) X (Cn := RX3) (Tf := TX3) (N := 17) rfl rfl (by decide) iw_X3 aw_119 rfl dX4_lineOf_112 ?_
  refine as_iload_n (pc := 115) X dX4_lineOf_115 rfl ?_
  refine as_iald (pc := 116) X dX4_lineOf_116 ?_
  exact as_iret (pc := 117) X ⟨rfl, rfl⟩ rfl dX4_lineOf_117
theorem s_X4_lineOf_98 {G : am_G} {bc bs : Nat} (X : am_Cx G cX4_lineOf RX4 "lineOf" rm_X4_lineOf (some .int) 3 bc bs true) : am_S G 98 (t_X4_lineOf_98) := by
  unfold t_X4_lineOf_98
  refine as_aload_n (pc := 98) X dX4_lineOf_98 rfl ?_
  refine as_getR (ci := 4) (j := 1) (pc := 99) X (Cn := RX4) (Tf := TX4) (N := 7) rfl rfl (by decide) iw_X4 aw_225 rfl dX4_lineOf_99 ?_
  refine as_getR (ci := 1) (j := 8) (pc := 102) X (Cn := RX1) (Tf := TX1) (N := 14) rfl rfl (by decide) iw_X1 aw_68 rfl dX4_lineOf_102 ?_
  refine as_iload_n (pc := 105) X dX4_lineOf_105 rfl ?_
  refine as_iald (pc := 106) X dX4_lineOf_106 ?_
  exact as_iret (pc := 107) X ⟨rfl, rfl⟩ rfl dX4_lineOf_107
theorem s_X4_lineOf_88 {G : am_G} {bc bs : Nat} (X : am_Cx G cX4_lineOf RX4 "lineOf" rm_X4_lineOf (some .int) 3 bc bs true) : am_S G 88 (t_X4_lineOf_88) := by
  unfold t_X4_lineOf_88
  refine as_aload_n (pc := 88) X dX4_lineOf_88 rfl ?_
  refine as_getR (ci := 4) (j := 1) (pc := 89) X (Cn := RX4) (Tf := TX4) (N := 7) rfl rfl (by decide) iw_X4 aw_225 rfl dX4_lineOf_89 ?_
  refine as_getR (ci := 1) (j := 7) (pc := 92) X (Cn := RX1) (Tf := TX1) (N := 14) rfl rfl (by decide) iw_X1 aw_65 rfl dX4_lineOf_92 ?_
  refine as_iload_n (pc := 95) X dX4_lineOf_95 rfl ?_
  refine as_iald (pc := 96) X dX4_lineOf_96 ?_
  exact as_iret (pc := 97) X ⟨rfl, rfl⟩ rfl dX4_lineOf_97
theorem s_X4_lineOf_78 {G : am_G} {bc bs : Nat} (X : am_Cx G cX4_lineOf RX4 "lineOf" rm_X4_lineOf (some .int) 3 bc bs true) : am_S G 78 (t_X4_lineOf_78) := by
  unfold t_X4_lineOf_78
  refine as_aload_n (pc := 78) X dX4_lineOf_78 rfl ?_
  refine as_getR (ci := 4) (j := 1) (pc := 79) X (Cn := RX4) (Tf := TX4) (N := 7) rfl rfl (by decide) iw_X4 aw_225 rfl dX4_lineOf_79 ?_
  refine as_getR (ci := 1) (j := 6) (pc := 82) X (Cn := RX1) (Tf := TX1) (N := 14) rfl rfl (by decide) iw_X1 aw_63 rfl dX4_lineOf_82 ?_
  refine as_iload_n (pc := 85) X dX4_lineOf_85 rfl ?_
  refine as_iald (pc := 86) X dX4_lineOf_86 ?_
  exact as_iret (pc := 87) X ⟨rfl, rfl⟩ rfl dX4_lineOf_87
theorem s_X4_lineOf_68 {G : am_G} {bc bs : Nat} (X : am_Cx G cX4_lineOf RX4 "lineOf" rm_X4_lineOf (some .int) 3 bc bs true) : am_S G 68 (t_X4_lineOf_68) := by
  unfold t_X4_lineOf_68
  refine as_aload_n (pc := 68) X dX4_lineOf_68 rfl ?_
  refine as_getR (ci := 4) (j := 1) (pc := 69) X (Cn := RX4) (Tf := TX4) (N := 7) rfl rfl (by decide) iw_X4 aw_225 rfl dX4_lineOf_69 ?_
  refine as_getR (ci := 1) (j := 5) (pc := 72) X (Cn := RX1) (Tf := TX1) (N := 14) rfl rfl (by decide) iw_X1 aw_60 rfl dX4_lineOf_72 ?_
  refine as_iload_n (pc := 75) X dX4_lineOf_75 rfl ?_
  refine as_iald (pc := 76) X dX4_lineOf_76 ?_
  exact as_iret (pc := 77) X ⟨rfl, rfl⟩ rfl dX4_lineOf_77
theorem s_X4_lineOf_13 {G : am_G} {bc bs : Nat} (X : am_Cx G cX4_lineOf RX4 "lineOf" rm_X4_lineOf (some .int) 3 bc bs true) : am_S G 13 (t_X4_lineOf_13) := by
  unfold t_X4_lineOf_13
  refine as_iload_n (pc := 13) X dX4_lineOf_13 rfl ?_
  refine as_sw (pc := 14) X dX4_lineOf_14 v_X4_lineOf_14 170 (by decide) (fun j hj => ?_) (s_X4_lineOf_170 X)
  match j, hj with
  | 0, _ => exact ⟨54, rfl, by decide, s_X4_lineOf_68 X⟩
  | 1, _ => exact ⟨64, rfl, by decide, s_X4_lineOf_78 X⟩
  | 2, _ => exact ⟨74, rfl, by decide, s_X4_lineOf_88 X⟩
  | 3, _ => exact ⟨84, rfl, by decide, s_X4_lineOf_98 X⟩
  | 4, _ => exact ⟨94, rfl, by decide, s_X4_lineOf_108 X⟩
  | 5, _ => exact ⟨104, rfl, by decide, s_X4_lineOf_118 X⟩
  | 6, _ => exact ⟨114, rfl, by decide, s_X4_lineOf_128 X⟩
  | 7, _ => exact ⟨127, rfl, by decide, s_X4_lineOf_141 X⟩
  | 8, _ => exact ⟨136, rfl, by decide, s_X4_lineOf_150 X⟩
  | 9, _ => exact ⟨146, rfl, by decide, s_X4_lineOf_160 X⟩
  | j + 10, hj => exact absurd hj (by omega)
theorem s_X4_lineOf_0 {G : am_G} {bc bs : Nat} (X : am_Cx G cX4_lineOf RX4 "lineOf" rm_X4_lineOf (some .int) 3 bc bs true) : am_S G 0 (t_X4_lineOf_0) := by
  unfold t_X4_lineOf_0
  refine as_aload_n (pc := 0) X dX4_lineOf_0 rfl ?_
  refine as_getR (ci := 4) (j := 1) (pc := 1) X (Cn := RX4) (Tf := TX4) (N := 7) rfl rfl (by decide) iw_X4 aw_225 rfl dX4_lineOf_1 ?_
  refine as_iload_n (pc := 4) X dX4_lineOf_4 rfl ?_
  refine as_callV (ci := 1) (np := 1) (ix := 93) (pc := 5) X ct_X1_isLine (Cn := (RX1, TX1, 14)) rfl ⟨rfl, rfl⟩ aw_465 aw_466 aw_467 aw_468 aw_19 (by decide +kernel) (by decide) dX4_lineOf_5 ?_
  refine as_if_ne (pc := 8) X 13 dX4_lineOf_8 (by decide) (s_X4_lineOf_13 X) ?_
  refine as_iconst (pc := 11) X dX4_lineOf_11 (by decide) ?_
  exact as_iret (pc := 12) X ⟨rfl, rfl⟩ rfl dX4_lineOf_12
theorem s_X4_lineOf {G : am_G} {bc bs : Nat} (X : am_Cx G cX4_lineOf RX4 "lineOf" rm_X4_lineOf (some .int) 3 bc bs true) (h : Nat) : am_S G h (h_X4_lineOf h) := by
  unfold h_X4_lineOf
  split
  · next e => rw [e]; exact s_X4_lineOf_0 X
  exact as_bad
theorem ct_X4_lineOf : am_Ct yX4_lineOf cX4_lineOf 3 (some .int) rm_X4_lineOf sp_X4_lineOf := am_met (own := RX4) (nm := "lineOf") (by decide) rfl rfl (Or.inr (Or.inl rfl)) (fun _ _ => h_X4_lineOf) (fun _ _ _ X => s_X4_lineOf X) (fun _ _ _ _ h => h)
-- X1_isFix
theorem dX1_isFix_0 : decode cX1_isFix 0 = .ok (.iload_n 1, 1) := by decide +kernel
theorem dX1_isFix_1 : decode cX1_isFix 1 = .ok (.ifCond .lt 15, 3) := by decide +kernel
theorem dX1_isFix_4 : decode cX1_isFix 4 = .ok (.iload_n 1, 1) := by decide +kernel
theorem dX1_isFix_5 : decode cX1_isFix 5 = .ok (.aload_n 0, 1) := by decide +kernel
theorem dX1_isFix_6 : decode cX1_isFix 6 = .ok (.getfield 40, 3) := by decide +kernel
theorem dX1_isFix_9 : decode cX1_isFix 9 = .ok (.if_icmp .ge 7, 3) := by decide +kernel
theorem dX1_isFix_12 : decode cX1_isFix 12 = .ok (.iconst 1, 1) := by decide +kernel
theorem dX1_isFix_13 : decode cX1_isFix 13 = .ok (.goto 4, 3) := by decide +kernel
theorem dX1_isFix_16 : decode cX1_isFix 16 = .ok (.iconst 0, 1) := by decide +kernel
theorem dX1_isFix_17 : decode cX1_isFix 17 = .ok (.ireturn, 1) := by decide +kernel
def t_X1_isFix_17 : am_T := tb_zret
def t_X1_isFix_16 : am_T := tb_const 0 <|
  t_X1_isFix_17
def t_X1_isFix_0 : am_T := tb_iload 1 <|
  tb_if (fun x => x < 0) (t_X1_isFix_16) <|
  tb_iload 1 <|
  tb_aload 0 <|
  tb_getI 1 9 <|
  tb_ic (fun x y => y ≤ x) (t_X1_isFix_16) <|
  tb_const 1 <|
  t_X1_isFix_17
def h_X1_isFix : am_Hd := fun h => if h = 0 then t_X1_isFix_0 else tb_bad
theorem h_X1_isFix_0 : h_X1_isFix 0 = t_X1_isFix_0 := rfl
def rm_X1_isFix : Room := { frames := 0, cells := 0, slots := 0, locals := 0 }
def sp_X1_isFix : am_sp := fun as M Q => as.length ≤ 2 ∧ am_OK h_X1_isFix Q 0 (am_in 2 as) M
theorem s_X1_isFix_17 {G : am_G} {bc bs : Nat} (X : am_Cx G cX1_isFix RX1 "isFix" rm_X1_isFix (some .boolean) 2 bc bs true) : am_S G 17 (t_X1_isFix_17) := by
  unfold t_X1_isFix_17
  exact as_zret (pc := 17) X ⟨rfl, rfl⟩ rfl dX1_isFix_17
theorem s_X1_isFix_16 {G : am_G} {bc bs : Nat} (X : am_Cx G cX1_isFix RX1 "isFix" rm_X1_isFix (some .boolean) 2 bc bs true) : am_S G 16 (t_X1_isFix_16) := by
  unfold t_X1_isFix_16
  refine as_iconst (pc := 16) X dX1_isFix_16 (by decide) ?_
  exact s_X1_isFix_17 X
theorem s_X1_isFix_0 {G : am_G} {bc bs : Nat} (X : am_Cx G cX1_isFix RX1 "isFix" rm_X1_isFix (some .boolean) 2 bc bs true) : am_S G 0 (t_X1_isFix_0) := by
  unfold t_X1_isFix_0
  refine as_iload_n (pc := 0) X dX1_isFix_0 rfl ?_
  refine as_if_lt (pc := 1) X 16 dX1_isFix_1 (by decide) (s_X1_isFix_16 X) ?_
  refine as_iload_n (pc := 4) X dX1_isFix_4 rfl ?_
  refine as_aload_n (pc := 5) X dX1_isFix_5 rfl ?_
  refine as_getI (ci := 1) (j := 9) (pc := 6) X (Cn := RX1) (Tf := TX1) (N := 14) rfl rfl (by decide) iw_X1 aw_69 rfl dX1_isFix_6 ?_
  refine as_ic_ge (pc := 9) X 16 dX1_isFix_9 (by decide) (s_X1_isFix_16 X) ?_
  refine as_iconst (pc := 12) X dX1_isFix_12 (by decide) ?_
  exact as_goto (pc := 13) X 17 dX1_isFix_13 (by decide) (s_X1_isFix_17 X)
theorem s_X1_isFix {G : am_G} {bc bs : Nat} (X : am_Cx G cX1_isFix RX1 "isFix" rm_X1_isFix (some .boolean) 2 bc bs true) (h : Nat) : am_S G h (h_X1_isFix h) := by
  unfold h_X1_isFix
  split
  · next e => rw [e]; exact s_X1_isFix_0 X
  exact as_bad
theorem ct_X1_isFix : am_Ct yX1_isFix cX1_isFix 2 (some .boolean) rm_X1_isFix sp_X1_isFix := am_met (own := RX1) (nm := "isFix") (by decide) rfl rfl (Or.inr (Or.inr (Or.inl rfl))) (fun _ _ => h_X1_isFix) (fun _ _ _ X => s_X1_isFix X) (fun _ _ _ _ h => h)
-- X3_fixMatters
theorem dX3_fixMatters_0 : decode cX3_fixMatters 0 = .ok (.aload_n 0, 1) := by decide +kernel
theorem dX3_fixMatters_1 : decode cX3_fixMatters 1 = .ok (.getfield 12, 3) := by decide +kernel
theorem dX3_fixMatters_4 : decode cX3_fixMatters 4 = .ok (.getfield 131, 3) := by decide +kernel
theorem dX3_fixMatters_7 : decode cX3_fixMatters 7 = .ok (.iload_n 1, 1) := by decide +kernel
theorem dX3_fixMatters_8 : decode cX3_fixMatters 8 = .ok (.iaload, 1) := by decide +kernel
theorem dX3_fixMatters_9 : decode cX3_fixMatters 9 = .ok (.istore_n 2, 1) := by decide +kernel
theorem dX3_fixMatters_10 : decode cX3_fixMatters 10 = .ok (.aload_n 0, 1) := by decide +kernel
theorem dX3_fixMatters_11 : decode cX3_fixMatters 11 = .ok (.getfield 12, 3) := by decide +kernel
theorem dX3_fixMatters_14 : decode cX3_fixMatters 14 = .ok (.getfield 128, 3) := by decide +kernel
theorem dX3_fixMatters_17 : decode cX3_fixMatters 17 = .ok (.iload_n 1, 1) := by decide +kernel
theorem dX3_fixMatters_18 : decode cX3_fixMatters 18 = .ok (.iaload, 1) := by decide +kernel
theorem dX3_fixMatters_19 : decode cX3_fixMatters 19 = .ok (.iconst 2, 1) := by decide +kernel
theorem dX3_fixMatters_20 : decode cX3_fixMatters 20 = .ok (.if_icmp .eq 19, 3) := by decide +kernel
theorem dX3_fixMatters_23 : decode cX3_fixMatters 23 = .ok (.aload_n 0, 1) := by decide +kernel
theorem dX3_fixMatters_24 : decode cX3_fixMatters 24 = .ok (.getfield 31, 3) := by decide +kernel
theorem dX3_fixMatters_27 : decode cX3_fixMatters 27 = .ok (.iload_n 2, 1) := by decide +kernel
theorem dX3_fixMatters_28 : decode cX3_fixMatters 28 = .ok (.iaload, 1) := by decide +kernel
theorem dX3_fixMatters_29 : decode cX3_fixMatters 29 = .ok (.iload_n 1, 1) := by decide +kernel
theorem dX3_fixMatters_30 : decode cX3_fixMatters 30 = .ok (.if_icmp .ne 7, 3) := by decide +kernel
theorem dX3_fixMatters_33 : decode cX3_fixMatters 33 = .ok (.iconst 1, 1) := by decide +kernel
theorem dX3_fixMatters_34 : decode cX3_fixMatters 34 = .ok (.goto 4, 3) := by decide +kernel
theorem dX3_fixMatters_37 : decode cX3_fixMatters 37 = .ok (.iconst 0, 1) := by decide +kernel
theorem dX3_fixMatters_38 : decode cX3_fixMatters 38 = .ok (.ireturn, 1) := by decide +kernel
theorem dX3_fixMatters_39 : decode cX3_fixMatters 39 = .ok (.aload_n 0, 1) := by decide +kernel
theorem dX3_fixMatters_40 : decode cX3_fixMatters 40 = .ok (.getfield 12, 3) := by decide +kernel
theorem dX3_fixMatters_43 : decode cX3_fixMatters 43 = .ok (.getfield 134, 3) := by decide +kernel
theorem dX3_fixMatters_46 : decode cX3_fixMatters 46 = .ok (.iload_n 1, 1) := by decide +kernel
theorem dX3_fixMatters_47 : decode cX3_fixMatters 47 = .ok (.iaload, 1) := by decide +kernel
theorem dX3_fixMatters_48 : decode cX3_fixMatters 48 = .ok (.istore_n 3, 1) := by decide +kernel
theorem dX3_fixMatters_49 : decode cX3_fixMatters 49 = .ok (.aload_n 0, 1) := by decide +kernel
theorem dX3_fixMatters_50 : decode cX3_fixMatters 50 = .ok (.getfield 31, 3) := by decide +kernel
theorem dX3_fixMatters_53 : decode cX3_fixMatters 53 = .ok (.iload_n 2, 1) := by decide +kernel
theorem dX3_fixMatters_54 : decode cX3_fixMatters 54 = .ok (.iaload, 1) := by decide +kernel
theorem dX3_fixMatters_55 : decode cX3_fixMatters 55 = .ok (.iconst (-1), 1) := by decide +kernel
theorem dX3_fixMatters_56 : decode cX3_fixMatters 56 = .ok (.if_icmp .ne 44, 3) := by decide +kernel
theorem dX3_fixMatters_59 : decode cX3_fixMatters 59 = .ok (.aload_n 0, 1) := by decide +kernel
theorem dX3_fixMatters_60 : decode cX3_fixMatters 60 = .ok (.iload_n 2, 1) := by decide +kernel
theorem dX3_fixMatters_61 : decode cX3_fixMatters 61 = .ok (.iload_n 3, 1) := by decide +kernel
theorem dX3_fixMatters_62 : decode cX3_fixMatters 62 = .ok (.invokevirtual 122, 3) := by decide +kernel
theorem dX3_fixMatters_65 : decode cX3_fixMatters 65 = .ok (.ifCond .eq 35, 3) := by decide +kernel
theorem dX3_fixMatters_68 : decode cX3_fixMatters 68 = .ok (.aload_n 0, 1) := by decide +kernel
theorem dX3_fixMatters_69 : decode cX3_fixMatters 69 = .ok (.iload_n 2, 1) := by decide +kernel
theorem dX3_fixMatters_70 : decode cX3_fixMatters 70 = .ok (.iload_n 3, 1) := by decide +kernel
theorem dX3_fixMatters_71 : decode cX3_fixMatters 71 = .ok (.invokevirtual 153, 3) := by decide +kernel
theorem dX3_fixMatters_74 : decode cX3_fixMatters 74 = .ok (.ifCond .eq 26, 3) := by decide +kernel
theorem dX3_fixMatters_77 : decode cX3_fixMatters 77 = .ok (.aload_n 0, 1) := by decide +kernel
theorem dX3_fixMatters_78 : decode cX3_fixMatters 78 = .ok (.aload_n 0, 1) := by decide +kernel
theorem dX3_fixMatters_79 : decode cX3_fixMatters 79 = .ok (.getfield 34, 3) := by decide +kernel
theorem dX3_fixMatters_82 : decode cX3_fixMatters 82 = .ok (.iload_n 2, 1) := by decide +kernel
theorem dX3_fixMatters_83 : decode cX3_fixMatters 83 = .ok (.iaload, 1) := by decide +kernel
theorem dX3_fixMatters_84 : decode cX3_fixMatters 84 = .ok (.iconst 1, 1) := by decide +kernel
theorem dX3_fixMatters_85 : decode cX3_fixMatters 85 = .ok (.iload_n 3, 1) := by decide +kernel
theorem dX3_fixMatters_86 : decode cX3_fixMatters 86 = .ok (.ishl, 1) := by decide +kernel
theorem dX3_fixMatters_87 : decode cX3_fixMatters 87 = .ok (.ior, 1) := by decide +kernel
theorem dX3_fixMatters_88 : decode cX3_fixMatters 88 = .ok (.iload_n 2, 1) := by decide +kernel
theorem dX3_fixMatters_89 : decode cX3_fixMatters 89 = .ok (.invokevirtual 88, 3) := by decide +kernel
theorem dX3_fixMatters_92 : decode cX3_fixMatters 92 = .ok (.iload_n 3, 1) := by decide +kernel
theorem dX3_fixMatters_93 : decode cX3_fixMatters 93 = .ok (.if_icmp .ne 7, 3) := by decide +kernel
theorem dX3_fixMatters_96 : decode cX3_fixMatters 96 = .ok (.iconst 1, 1) := by decide +kernel
theorem dX3_fixMatters_97 : decode cX3_fixMatters 97 = .ok (.goto 4, 3) := by decide +kernel
theorem dX3_fixMatters_100 : decode cX3_fixMatters 100 = .ok (.iconst 0, 1) := by decide +kernel
theorem dX3_fixMatters_101 : decode cX3_fixMatters 101 = .ok (.ireturn, 1) := by decide +kernel
def t_X3_fixMatters_101 : am_T := tb_zret
def t_X3_fixMatters_100 : am_T := tb_const 0 <|
  t_X3_fixMatters_101
def t_X3_fixMatters_39 : am_T := tb_aload 0 <|
  tb_getR 3 0 <|
  tb_getR 1 12 <|
  tb_iload 1 <|
  tb_iald <|
  tb_istore 3 <|
  tb_aload 0 <|
  tb_getR 3 5 <|
  tb_iload 2 <|
  tb_iald <|
  tb_const (-1) <|
  tb_ic (fun x y => x ≠ y) (t_X3_fixMatters_100) <|
  tb_aload 0 <|
  tb_iload 2 <|
  tb_iload 3 <|
  tb_callV 3 sp_X3_isInWindow 3 <|
  tb_if (fun x => x = 0) (t_X3_fixMatters_100) <|
  tb_aload 0 <|
  tb_iload 2 <|
  tb_iload 3 <|
  tb_callV 3 sp_X3_isPassed 3 <|
  tb_if (fun x => x = 0) (t_X3_fixMatters_100) <|
  tb_aload 0 <|
  tb_aload 0 <|
  tb_getR 3 6 <|
  tb_iload 2 <|
  tb_iald <|
  tb_const 1 <|
  tb_iload 3 <|
  tb_bin (fun x y => x <<< (y &&& 31)) <|
  tb_bin (fun x y => x ||| y) <|
  tb_iload 2 <|
  tb_callV 3 sp_X3_bestOf 3 <|
  tb_iload 3 <|
  tb_ic (fun x y => x ≠ y) (t_X3_fixMatters_100) <|
  tb_const 1 <|
  t_X3_fixMatters_101
def t_X3_fixMatters_38 : am_T := tb_zret
def t_X3_fixMatters_37 : am_T := tb_const 0 <|
  t_X3_fixMatters_38
def t_X3_fixMatters_0 : am_T := tb_aload 0 <|
  tb_getR 3 0 <|
  tb_getR 1 11 <|
  tb_iload 1 <|
  tb_iald <|
  tb_istore 2 <|
  tb_aload 0 <|
  tb_getR 3 0 <|
  tb_getR 1 10 <|
  tb_iload 1 <|
  tb_iald <|
  tb_const 2 <|
  tb_ic (fun x y => x = y) (t_X3_fixMatters_39) <|
  tb_aload 0 <|
  tb_getR 3 5 <|
  tb_iload 2 <|
  tb_iald <|
  tb_iload 1 <|
  tb_ic (fun x y => x ≠ y) (t_X3_fixMatters_37) <|
  tb_const 1 <|
  t_X3_fixMatters_38
def h_X3_fixMatters : am_Hd := fun h => if h = 0 then t_X3_fixMatters_0 else tb_bad
theorem h_X3_fixMatters_0 : h_X3_fixMatters 0 = t_X3_fixMatters_0 := rfl
def rm_X3_fixMatters : Room := { frames := 2, cells := 0, slots := 0, locals := 47 }
def sp_X3_fixMatters : am_sp := fun as M Q => as.length ≤ 4 ∧ am_OK h_X3_fixMatters Q 0 (am_in 4 as) M
theorem s_X3_fixMatters_101 {G : am_G} {bc bs : Nat} (X : am_Cx G cX3_fixMatters RX3 "fixMatters" rm_X3_fixMatters (some .boolean) 4 bc bs true) : am_S G 101 (t_X3_fixMatters_101) := by
  unfold t_X3_fixMatters_101
  exact as_zret (pc := 101) X ⟨rfl, rfl⟩ rfl dX3_fixMatters_101
theorem s_X3_fixMatters_100 {G : am_G} {bc bs : Nat} (X : am_Cx G cX3_fixMatters RX3 "fixMatters" rm_X3_fixMatters (some .boolean) 4 bc bs true) : am_S G 100 (t_X3_fixMatters_100) := by
  unfold t_X3_fixMatters_100
  refine as_iconst (pc := 100) X dX3_fixMatters_100 (by decide) ?_
  exact s_X3_fixMatters_101 X
theorem s_X3_fixMatters_39 {G : am_G} {bc bs : Nat} (X : am_Cx G cX3_fixMatters RX3 "fixMatters" rm_X3_fixMatters (some .boolean) 4 bc bs true) : am_S G 39 (t_X3_fixMatters_39) := by
  unfold t_X3_fixMatters_39
  refine as_aload_n (pc := 39) X dX3_fixMatters_39 rfl ?_
  refine as_getR (ci := 3) (j := 0) (pc := 40) X (Cn := RX3) (Tf := TX3) (N := 17) rfl rfl (by decide) iw_X3 aw_114 rfl dX3_fixMatters_40 ?_
  refine as_getR (ci := 1) (j := 12) (pc := 43) X (Cn := RX1) (Tf := TX1) (N := 14) rfl rfl (by decide) iw_X1 aw_79 rfl dX3_fixMatters_43 ?_
  refine as_iload_n (pc := 46) X dX3_fixMatters_46 rfl ?_
  refine as_iald (pc := 47) X dX3_fixMatters_47 ?_
  refine as_istore_n (pc := 48) X dX3_fixMatters_48 rfl ?_ (by decide)
  refine as_aload_n (pc := 49) X dX3_fixMatters_49 rfl ?_
  refine as_getR (ci := 3) (j := 5) (pc := 50) X (Cn := RX3) (Tf := TX3) (N := 17) rfl rfl (by decide) iw_X3 aw_123 rfl dX3_fixMatters_50 ?_
  refine as_iload_n (pc := 53) X dX3_fixMatters_53 rfl ?_
  refine as_iald (pc := 54) X dX3_fixMatters_54 ?_
  refine as_iconst (pc := 55) X dX3_fixMatters_55 (by decide) ?_
  refine as_ic_ne (pc := 56) X 100 dX3_fixMatters_56 (by decide) (s_X3_fixMatters_100 X) ?_
  refine as_aload_n (pc := 59) X dX3_fixMatters_59 rfl ?_
  refine as_iload_n (pc := 60) X dX3_fixMatters_60 rfl ?_
  refine as_iload_n (pc := 61) X dX3_fixMatters_61 rfl ?_
  refine as_callV (ci := 3) (np := 2) (ix := 122) (pc := 62) X ct_X3_isInWindow (Cn := (RX3, TX3, 17)) rfl ⟨rfl, rfl⟩ aw_326 aw_328 aw_5 aw_329 aw_18 (by decide +kernel) (by decide) dX3_fixMatters_62 ?_
  refine as_if_eq (pc := 65) X 100 dX3_fixMatters_65 (by decide) (s_X3_fixMatters_100 X) ?_
  refine as_aload_n (pc := 68) X dX3_fixMatters_68 rfl ?_
  refine as_iload_n (pc := 69) X dX3_fixMatters_69 rfl ?_
  refine as_iload_n (pc := 70) X dX3_fixMatters_70 rfl ?_
  refine as_callV (ci := 3) (np := 2) (ix := 153) (pc := 71) X ct_X3_isPassed (Cn := (RX3, TX3, 17)) rfl ⟨rfl, rfl⟩ aw_354 aw_356 aw_10 aw_357 aw_18 (by decide +kernel) (by decide) dX3_fixMatters_71 ?_
  refine as_if_eq (pc := 74) X 100 dX3_fixMatters_74 (by decide) (s_X3_fixMatters_100 X) ?_
  refine as_aload_n (pc := 77) X dX3_fixMatters_77 rfl ?_
  refine as_aload_n (pc := 78) X dX3_fixMatters_78 rfl ?_
  refine as_getR (ci := 3) (j := 6) (pc := 79) X (Cn := RX3) (Tf := TX3) (N := 17) rfl rfl (by decide) iw_X3 aw_124 rfl dX3_fixMatters_79 ?_
  refine as_iload_n (pc := 82) X dX3_fixMatters_82 rfl ?_
  refine as_iald (pc := 83) X dX3_fixMatters_83 ?_
  refine as_iconst (pc := 84) X dX3_fixMatters_84 (by decide) ?_
  refine as_iload_n (pc := 85) X dX3_fixMatters_85 rfl ?_
  refine as_ishl (pc := 86) X dX3_fixMatters_86 ?_
  refine as_ior (pc := 87) X dX3_fixMatters_87 ?_
  refine as_iload_n (pc := 88) X dX3_fixMatters_88 rfl ?_
  refine as_callV (ci := 3) (np := 2) (ix := 88) (pc := 89) X ct_X3_bestOf (Cn := (RX3, TX3, 17)) rfl ⟨rfl, rfl⟩ aw_330 aw_332 aw_6 aw_333 aw_18 (by decide +kernel) (by decide) dX3_fixMatters_89 ?_
  refine as_iload_n (pc := 92) X dX3_fixMatters_92 rfl ?_
  refine as_ic_ne (pc := 93) X 100 dX3_fixMatters_93 (by decide) (s_X3_fixMatters_100 X) ?_
  refine as_iconst (pc := 96) X dX3_fixMatters_96 (by decide) ?_
  exact as_goto (pc := 97) X 101 dX3_fixMatters_97 (by decide) (s_X3_fixMatters_101 X)
theorem s_X3_fixMatters_38 {G : am_G} {bc bs : Nat} (X : am_Cx G cX3_fixMatters RX3 "fixMatters" rm_X3_fixMatters (some .boolean) 4 bc bs true) : am_S G 38 (t_X3_fixMatters_38) := by
  unfold t_X3_fixMatters_38
  exact as_zret (pc := 38) X ⟨rfl, rfl⟩ rfl dX3_fixMatters_38
theorem s_X3_fixMatters_37 {G : am_G} {bc bs : Nat} (X : am_Cx G cX3_fixMatters RX3 "fixMatters" rm_X3_fixMatters (some .boolean) 4 bc bs true) : am_S G 37 (t_X3_fixMatters_37) := by
  unfold t_X3_fixMatters_37
  refine as_iconst (pc := 37) X dX3_fixMatters_37 (by decide) ?_
  exact s_X3_fixMatters_38 X
theorem s_X3_fixMatters_0 {G : am_G} {bc bs : Nat} (X : am_Cx G cX3_fixMatters RX3 "fixMatters" rm_X3_fixMatters (some .boolean) 4 bc bs true) : am_S G 0 (t_X3_fixMatters_0) := by
  unfold t_X3_fixMatters_0
  refine as_aload_n (pc := 0) X dX3_fixMatters_0 rfl ?_
  refine as_getR (ci := 3) (j := 0) (pc := 1) X (Cn := RX3) (Tf := TX3) (N := 17) rfl rfl (by decide) iw_X3 aw_114 rfl dX3_fixMatters_1 ?_
  refine as_getR (ci := 1) (j := 11) (pc := 4) X (Cn := RX1) (Tf := TX1) (N := 14) rfl rfl (by decide) iw_X1 aw_76 rfl dX3_fixMatters_4 ?_
  refine as_iload_n (pc := 7) X dX3_fixMatters_7 rfl ?_
  refine as_iald (pc := 8) X dX3_fixMatters_8 ?_
  refine as_istore_n (pc := 9) X dX3_fixMatters_9 rfl ?_ (by decide)
  refine as_aload_n (pc := 10) X dX3_fixMatters_10 rfl ?_
  refine as_getR (ci := 3) (j := 0) (pc := 11) X (Cn := RX3) (Tf := TX3) (N := 17) rfl rfl (by decide) iw_X3 aw_114 rfl dX3_fixMatters_11 ?_
  refine as_getR (ci := 1) (j := 10) (pc := 14) X (Cn := RX1) (Tf := TX1) (N := 14) rfl rfl (by decide) iw_X1 aw_73 rfl dX3_fixMatters_14 ?_
  refine as_iload_n (pc := 17) X dX3_fixMatters_17 rfl ?_
  refine as_iald (pc := 18) X dX3_fixMatters_18 ?_
  refine as_iconst (pc := 19) X dX3_fixMatters_19 (by decide) ?_
  refine as_ic_eq (pc := 20) X 39 dX3_fixMatters_20 (by decide) (s_X3_fixMatters_39 X) ?_
  refine as_aload_n (pc := 23) X dX3_fixMatters_23 rfl ?_
  refine as_getR (ci := 3) (j := 5) (pc := 24) X (Cn := RX3) (Tf := TX3) (N := 17) rfl rfl (by decide) iw_X3 aw_123 rfl dX3_fixMatters_24 ?_
  refine as_iload_n (pc := 27) X dX3_fixMatters_27 rfl ?_
  refine as_iald (pc := 28) X dX3_fixMatters_28 ?_
  refine as_iload_n (pc := 29) X dX3_fixMatters_29 rfl ?_
  refine as_ic_ne (pc := 30) X 37 dX3_fixMatters_30 (by decide) (s_X3_fixMatters_37 X) ?_
  refine as_iconst (pc := 33) X dX3_fixMatters_33 (by decide) ?_
  exact as_goto (pc := 34) X 38 dX3_fixMatters_34 (by decide) (s_X3_fixMatters_38 X)
theorem s_X3_fixMatters {G : am_G} {bc bs : Nat} (X : am_Cx G cX3_fixMatters RX3 "fixMatters" rm_X3_fixMatters (some .boolean) 4 bc bs true) (h : Nat) : am_S G h (h_X3_fixMatters h) := by
  unfold h_X3_fixMatters
  split
  · next e => rw [e]; exact s_X3_fixMatters_0 X
  exact as_bad
theorem ct_X3_fixMatters : am_Ct yX3_fixMatters cX3_fixMatters 4 (some .boolean) rm_X3_fixMatters sp_X3_fixMatters := am_met (own := RX3) (nm := "fixMatters") (by decide) rfl rfl (Or.inr (Or.inr (Or.inl rfl))) (fun _ _ => h_X3_fixMatters) (fun _ _ _ X => s_X3_fixMatters X) (fun _ _ _ _ h => h)
-- X4_correction
theorem dX4_correction_0 : decode cX4_correction 0 = .ok (.aload_n 0, 1) := by decide +kernel
theorem dX4_correction_1 : decode cX4_correction 1 = .ok (.getfield 20, 3) := by decide +kernel
theorem dX4_correction_4 : decode cX4_correction 4 = .ok (.iload_n 1, 1) := by decide +kernel
theorem dX4_correction_5 : decode cX4_correction 5 = .ok (.invokevirtual 187, 3) := by decide +kernel
theorem dX4_correction_8 : decode cX4_correction 8 = .ok (.ifCond .ne 5, 3) := by decide +kernel
theorem dX4_correction_11 : decode cX4_correction 11 = .ok (.iconst (-1), 1) := by decide +kernel
theorem dX4_correction_12 : decode cX4_correction 12 = .ok (.ireturn, 1) := by decide +kernel
theorem dX4_correction_13 : decode cX4_correction 13 = .ok (.iload_n 2, 1) := by decide +kernel
theorem dX4_correction_14 : decode cX4_correction 14 = .ok (.tableswitch 80 0 3 #[30, 40, 50, 63], 30) := by decide +kernel
theorem dX4_correction_44 : decode cX4_correction 44 = .ok (.aload_n 0, 1) := by decide +kernel
theorem dX4_correction_45 : decode cX4_correction 45 = .ok (.getfield 20, 3) := by decide +kernel
theorem dX4_correction_48 : decode cX4_correction 48 = .ok (.getfield 193, 3) := by decide +kernel
theorem dX4_correction_51 : decode cX4_correction 51 = .ok (.iload_n 1, 1) := by decide +kernel
theorem dX4_correction_52 : decode cX4_correction 52 = .ok (.iaload, 1) := by decide +kernel
theorem dX4_correction_53 : decode cX4_correction 53 = .ok (.ireturn, 1) := by decide +kernel
theorem dX4_correction_54 : decode cX4_correction 54 = .ok (.aload_n 0, 1) := by decide +kernel
theorem dX4_correction_55 : decode cX4_correction 55 = .ok (.getfield 20, 3) := by decide +kernel
theorem dX4_correction_58 : decode cX4_correction 58 = .ok (.getfield 196, 3) := by decide +kernel
theorem dX4_correction_61 : decode cX4_correction 61 = .ok (.iload_n 1, 1) := by decide +kernel
theorem dX4_correction_62 : decode cX4_correction 62 = .ok (.iaload, 1) := by decide +kernel
theorem dX4_correction_63 : decode cX4_correction 63 = .ok (.ireturn, 1) := by decide +kernel
theorem dX4_correction_64 : decode cX4_correction 64 = .ok (.aload_n 0, 1) := by decide +kernel
theorem dX4_correction_65 : decode cX4_correction 65 = .ok (.getfield 20, 3) := by decide +kernel
theorem dX4_correction_68 : decode cX4_correction 68 = .ok (.getfield 199, 3) := by decide +kernel
theorem dX4_correction_71 : decode cX4_correction 71 = .ok (.iload_n 1, 1) := by decide +kernel
theorem dX4_correction_72 : decode cX4_correction 72 = .ok (.iaload, 1) := by decide +kernel
theorem dX4_correction_73 : decode cX4_correction 73 = .ok (.invokestatic 79, 3) := by decide +kernel
theorem dX4_correction_76 : decode cX4_correction 76 = .ok (.ireturn, 1) := by decide +kernel
theorem dX4_correction_77 : decode cX4_correction 77 = .ok (.aload_n 0, 1) := by decide +kernel
theorem dX4_correction_78 : decode cX4_correction 78 = .ok (.invokevirtual 116, 3) := by decide +kernel
theorem dX4_correction_81 : decode cX4_correction 81 = .ok (.iload_n 1, 1) := by decide +kernel
theorem dX4_correction_82 : decode cX4_correction 82 = .ok (.invokevirtual 202, 3) := by decide +kernel
theorem dX4_correction_85 : decode cX4_correction 85 = .ok (.ifCond .eq 7, 3) := by decide +kernel
theorem dX4_correction_88 : decode cX4_correction 88 = .ok (.iconst 1, 1) := by decide +kernel
theorem dX4_correction_89 : decode cX4_correction 89 = .ok (.goto 4, 3) := by decide +kernel
theorem dX4_correction_92 : decode cX4_correction 92 = .ok (.iconst 0, 1) := by decide +kernel
theorem dX4_correction_93 : decode cX4_correction 93 = .ok (.ireturn, 1) := by decide +kernel
theorem dX4_correction_94 : decode cX4_correction 94 = .ok (.iconst (-1), 1) := by decide +kernel
theorem dX4_correction_95 : decode cX4_correction 95 = .ok (.ireturn, 1) := by decide +kernel
def t_X4_correction_94 : am_T := tb_const (-1) <|
  tb_iret
def t_X4_correction_93 : am_T := tb_iret
def t_X4_correction_92 : am_T := tb_const 0 <|
  t_X4_correction_93
def t_X4_correction_77 : am_T := tb_aload 0 <|
  tb_callV 4 sp_X4_currentThreads 1 <|
  tb_iload 1 <|
  tb_callV 3 sp_X3_fixMatters 2 <|
  tb_if (fun x => x = 0) (t_X4_correction_92) <|
  tb_const 1 <|
  t_X4_correction_93
def t_X4_correction_64 : am_T := tb_aload 0 <|
  tb_getR 4 1 <|
  tb_getR 1 12 <|
  tb_iload 1 <|
  tb_iald <|
  tb_callS sp_X4_orNotFound 1 <|
  tb_iret
def t_X4_correction_54 : am_T := tb_aload 0 <|
  tb_getR 4 1 <|
  tb_getR 1 11 <|
  tb_iload 1 <|
  tb_iald <|
  tb_iret
def t_X4_correction_44 : am_T := tb_aload 0 <|
  tb_getR 4 1 <|
  tb_getR 1 10 <|
  tb_iload 1 <|
  tb_iald <|
  tb_iret
def w_X4_correction_14 : Nat → am_T := fun j => match j with
    | 0 => t_X4_correction_44
    | 1 => t_X4_correction_54
    | 2 => t_X4_correction_64
    | 3 => t_X4_correction_77
    | _ => tb_bad
def v_X4_correction_14 : Nat → Nat := fun j => match j with
    | 0 => 44
    | 1 => 54
    | 2 => 64
    | 3 => 77
    | _ => 0
def t_X4_correction_13 : am_T := tb_iload 2 <|
  tb_sw 0 3 w_X4_correction_14 (t_X4_correction_94)
def t_X4_correction_0 : am_T := tb_aload 0 <|
  tb_getR 4 1 <|
  tb_iload 1 <|
  tb_callV 1 sp_X1_isFix 2 <|
  tb_if (fun x => x ≠ 0) (t_X4_correction_13) <|
  tb_const (-1) <|
  tb_iret
def h_X4_correction : am_Hd := fun h => if h = 0 then t_X4_correction_0 else tb_bad
theorem h_X4_correction_0 : h_X4_correction 0 = t_X4_correction_0 := rfl
def rm_X4_correction : Room := { frames := 6, cells := 0, slots := 0, locals := 133 }
def sp_X4_correction : am_sp := fun as M Q => as.length ≤ 3 ∧ am_OK h_X4_correction Q 0 (am_in 3 as) M
theorem s_X4_correction_94 {G : am_G} {bc bs : Nat} (X : am_Cx G cX4_correction RX4 "correction" rm_X4_correction (some .int) 3 bc bs true) : am_S G 94 (t_X4_correction_94) := by
  unfold t_X4_correction_94
  refine as_iconst (pc := 94) X dX4_correction_94 (by decide) ?_
  exact as_iret (pc := 95) X ⟨rfl, rfl⟩ rfl dX4_correction_95
theorem s_X4_correction_93 {G : am_G} {bc bs : Nat} (X : am_Cx G cX4_correction RX4 "correction" rm_X4_correction (some .int) 3 bc bs true) : am_S G 93 (t_X4_correction_93) := by
  unfold t_X4_correction_93
  exact as_iret (pc := 93) X ⟨rfl, rfl⟩ rfl dX4_correction_93
theorem s_X4_correction_92 {G : am_G} {bc bs : Nat} (X : am_Cx G cX4_correction RX4 "correction" rm_X4_correction (some .int) 3 bc bs true) : am_S G 92 (t_X4_correction_92) := by
  unfold t_X4_correction_92
  refine as_iconst (pc := 92) X dX4_correction_92 (by decide) ?_
  exact s_X4_correction_93 X
theorem s_X4_correction_77 {G : am_G} {bc bs : Nat} (X : am_Cx G cX4_correction RX4 "correction" rm_X4_correction (some .int) 3 bc bs true) : am_S G 77 (t_X4_correction_77) := by
  unfold t_X4_correction_77
  refine as_aload_n (pc := 77) X dX4_correction_77 rfl ?_
  refine as_callV (ci := 4) (np := 0) (ix := 116) (pc := 78) X ct_X4_currentThreads (Cn := (RX4, TX4, 7)) rfl ⟨rfl, rfl⟩ aw_280 aw_282 aw_0 aw_283 aw_17 (by decide +kernel) (by decide) dX4_correction_78 ?_
  refine as_iload_n (pc := 81) X dX4_correction_81 rfl ?_
  refine as_callV (ci := 3) (np := 1) (ix := 202) (pc := 82) X ct_X3_fixMatters (Cn := (RX3, TX3, 17)) rfl ⟨rfl, rfl⟩ aw_565 aw_566 aw_567 aw_568 aw_18 (by decide +kernel) (by decide) dX4_correction_82 ?_
  refine as_if_eq (pc := 85) X 92 dX4_correction_85 (by decide) (s_X4_correction_92 X) ?_
  refine as_iconst (pc := 88) X dX4_correction_88 (by decide) ?_
  exact as_goto (pc := 89) X 93 dX4_correction_89 (by decide) (s_X4_correction_93 X)
theorem s_X4_correction_64 {G : am_G} {bc bs : Nat} (X : am_Cx G cX4_correction RX4 "correction" rm_X4_correction (some .int) 3 bc bs true) : am_S G 64 (t_X4_correction_64) := by
  unfold t_X4_correction_64
  refine as_aload_n (pc := 64) X dX4_correction_64 rfl ?_
  refine as_getR (ci := 4) (j := 1) (pc := 65) X (Cn := RX4) (Tf := TX4) (N := 7) rfl rfl (by decide) iw_X4 aw_225 rfl dX4_correction_65 ?_
  refine as_getR (ci := 1) (j := 12) (pc := 68) X (Cn := RX1) (Tf := TX1) (N := 14) rfl rfl (by decide) iw_X1 aw_80 rfl dX4_correction_68 ?_
  refine as_iload_n (pc := 71) X dX4_correction_71 rfl ?_
  refine as_iald (pc := 72) X dX4_correction_72 ?_
  refine as_callS (np := 1) (ix := 79) (pc := 73) X ct_X4_orNotFound ⟨rfl, rfl⟩ aw_261 aw_262 aw_263 aw_17 (by decide +kernel) (by decide) dX4_correction_73 ?_
  exact as_iret (pc := 76) X ⟨rfl, rfl⟩ rfl dX4_correction_76
theorem s_X4_correction_54 {G : am_G} {bc bs : Nat} (X : am_Cx G cX4_correction RX4 "correction" rm_X4_correction (some .int) 3 bc bs true) : am_S G 54 (t_X4_correction_54) := by
  unfold t_X4_correction_54
  refine as_aload_n (pc := 54) X dX4_correction_54 rfl ?_
  refine as_getR (ci := 4) (j := 1) (pc := 55) X (Cn := RX4) (Tf := TX4) (N := 7) rfl rfl (by decide) iw_X4 aw_225 rfl dX4_correction_55 ?_
  refine as_getR (ci := 1) (j := 11) (pc := 58) X (Cn := RX1) (Tf := TX1) (N := 14) rfl rfl (by decide) iw_X1 aw_77 rfl dX4_correction_58 ?_
  refine as_iload_n (pc := 61) X dX4_correction_61 rfl ?_
  refine as_iald (pc := 62) X dX4_correction_62 ?_
  exact as_iret (pc := 63) X ⟨rfl, rfl⟩ rfl dX4_correction_63
theorem s_X4_correction_44 {G : am_G} {bc bs : Nat} (X : am_Cx G cX4_correction RX4 "correction" rm_X4_correction (some .int) 3 bc bs true) : am_S G 44 (t_X4_correction_44) := by
  unfold t_X4_correction_44
  refine as_aload_n (pc := 44) X dX4_correction_44 rfl ?_
  refine as_getR (ci := 4) (j := 1) (pc := 45) X (Cn := RX4) (Tf := TX4) (N := 7) rfl rfl (by decide) iw_X4 aw_225 rfl dX4_correction_45 ?_
  refine as_getR (ci := 1) (j := 10) (pc := 48) X (Cn := RX1) (Tf := TX1) (N := 14) rfl rfl (by decide) iw_X1 aw_74 rfl dX4_correction_48 ?_
  refine as_iload_n (pc := 51) X dX4_correction_51 rfl ?_
  refine as_iald (pc := 52) X dX4_correction_52 ?_
  exact as_iret (pc := 53) X ⟨rfl, rfl⟩ rfl dX4_correction_53
theorem s_X4_correction_13 {G : am_G} {bc bs : Nat} (X : am_Cx G cX4_correction RX4 "correction" rm_X4_correction (some .int) 3 bc bs true) : am_S G 13 (t_X4_correction_13) := by
  unfold t_X4_correction_13
  refine as_iload_n (pc := 13) X dX4_correction_13 rfl ?_
  refine as_sw (pc := 14) X dX4_correction_14 v_X4_correction_14 94 (by decide) (fun j hj => ?_) (s_X4_correction_94 X)
  match j, hj with
  | 0, _ => exact ⟨30, rfl, by decide, s_X4_correction_44 X⟩
  | 1, _ => exact ⟨40, rfl, by decide, s_X4_correction_54 X⟩
  | 2, _ => exact ⟨50, rfl, by decide, s_X4_correction_64 X⟩
  | 3, _ => exact ⟨63, rfl, by decide, s_X4_correction_77 X⟩
  | j + 4, hj => exact absurd hj (by omega)
theorem s_X4_correction_0 {G : am_G} {bc bs : Nat} (X : am_Cx G cX4_correction RX4 "correction" rm_X4_correction (some .int) 3 bc bs true) : am_S G 0 (t_X4_correction_0) := by
  unfold t_X4_correction_0
  refine as_aload_n (pc := 0) X dX4_correction_0 rfl ?_
  refine as_getR (ci := 4) (j := 1) (pc := 1) X (Cn := RX4) (Tf := TX4) (N := 7) rfl rfl (by decide) iw_X4 aw_225 rfl dX4_correction_1 ?_
  refine as_iload_n (pc := 4) X dX4_correction_4 rfl ?_
  refine as_callV (ci := 1) (np := 1) (ix := 187) (pc := 5) X ct_X1_isFix (Cn := (RX1, TX1, 14)) rfl ⟨rfl, rfl⟩ aw_510 aw_511 aw_512 aw_513 aw_19 (by decide +kernel) (by decide) dX4_correction_5 ?_
  refine as_if_ne (pc := 8) X 13 dX4_correction_8 (by decide) (s_X4_correction_13 X) ?_
  refine as_iconst (pc := 11) X dX4_correction_11 (by decide) ?_
  exact as_iret (pc := 12) X ⟨rfl, rfl⟩ rfl dX4_correction_12
theorem s_X4_correction {G : am_G} {bc bs : Nat} (X : am_Cx G cX4_correction RX4 "correction" rm_X4_correction (some .int) 3 bc bs true) (h : Nat) : am_S G h (h_X4_correction h) := by
  unfold h_X4_correction
  split
  · next e => rw [e]; exact s_X4_correction_0 X
  exact as_bad
theorem ct_X4_correction : am_Ct yX4_correction cX4_correction 3 (some .int) rm_X4_correction sp_X4_correction := am_met (own := RX4) (nm := "correction") (by decide) rfl rfl (Or.inr (Or.inl rfl)) (fun _ _ => h_X4_correction) (fun _ _ _ X => s_X4_correction X) (fun _ _ _ _ h => h)
-- X3_beginnings
theorem dX3_beginnings_0 : decode cX3_beginnings 0 = .ok (.aload_n 0, 1) := by decide +kernel
theorem dX3_beginnings_1 : decode cX3_beginnings 1 = .ok (.iconst (-1), 1) := by decide +kernel
theorem dX3_beginnings_2 : decode cX3_beginnings 2 = .ok (.invokevirtual 175, 3) := by decide +kernel
theorem dX3_beginnings_5 : decode cX3_beginnings 5 = .ok (.ireturn, 1) := by decide +kernel
def t_X3_beginnings_0 : am_T := tb_aload 0 <|
  tb_const (-1) <|
  tb_callV 3 sp_X3_answersTo 2 <|
  tb_iret
def h_X3_beginnings : am_Hd := fun h => if h = 0 then t_X3_beginnings_0 else tb_bad
theorem h_X3_beginnings_0 : h_X3_beginnings 0 = t_X3_beginnings_0 := rfl
def rm_X3_beginnings : Room := { frames := 1, cells := 0, slots := 0, locals := 23 }
def sp_X3_beginnings : am_sp := fun as M Q => as.length ≤ 1 ∧ am_OK h_X3_beginnings Q 0 (am_in 1 as) M
theorem s_X3_beginnings_0 {G : am_G} {bc bs : Nat} (X : am_Cx G cX3_beginnings RX3 "beginnings" rm_X3_beginnings (some .int) 1 bc bs true) : am_S G 0 (t_X3_beginnings_0) := by
  unfold t_X3_beginnings_0
  refine as_aload_n (pc := 0) X dX3_beginnings_0 rfl ?_
  refine as_iconst (pc := 1) X dX3_beginnings_1 (by decide) ?_
  refine as_callV (ci := 3) (np := 1) (ix := 175) (pc := 2) X ct_X3_answersTo (Cn := (RX3, TX3, 17)) rfl ⟨rfl, rfl⟩ aw_384 aw_385 aw_386 aw_387 aw_18 (by decide +kernel) (by decide) dX3_beginnings_2 ?_
  exact as_iret (pc := 5) X ⟨rfl, rfl⟩ rfl dX3_beginnings_5
theorem s_X3_beginnings {G : am_G} {bc bs : Nat} (X : am_Cx G cX3_beginnings RX3 "beginnings" rm_X3_beginnings (some .int) 1 bc bs true) (h : Nat) : am_S G h (h_X3_beginnings h) := by
  unfold h_X3_beginnings
  split
  · next e => rw [e]; exact s_X3_beginnings_0 X
  exact as_bad
theorem ct_X3_beginnings : am_Ct yX3_beginnings cX3_beginnings 1 (some .int) rm_X3_beginnings sp_X3_beginnings := am_met (own := RX3) (nm := "beginnings") (by decide) rfl rfl (Or.inr (Or.inl rfl)) (fun _ _ => h_X3_beginnings) (fun _ _ _ X => s_X3_beginnings X) (fun _ _ _ _ h => h)
-- X3_allJoins
theorem dX3_allJoins_0 : decode cX3_allJoins 0 = .ok (.iconst 0, 1) := by decide +kernel
theorem dX3_allJoins_1 : decode cX3_allJoins 1 = .ok (.istore_n 1, 1) := by decide +kernel
theorem dX3_allJoins_2 : decode cX3_allJoins 2 = .ok (.iconst 0, 1) := by decide +kernel
theorem dX3_allJoins_3 : decode cX3_allJoins 3 = .ok (.istore_n 2, 1) := by decide +kernel
theorem dX3_allJoins_4 : decode cX3_allJoins 4 = .ok (.iload_n 2, 1) := by decide +kernel
theorem dX3_allJoins_5 : decode cX3_allJoins 5 = .ok (.aload_n 0, 1) := by decide +kernel
theorem dX3_allJoins_6 : decode cX3_allJoins 6 = .ok (.getfield 12, 3) := by decide +kernel
theorem dX3_allJoins_9 : decode cX3_allJoins 9 = .ok (.getfield 71, 3) := by decide +kernel
theorem dX3_allJoins_12 : decode cX3_allJoins 12 = .ok (.if_icmp .ge 18, 3) := by decide +kernel
theorem dX3_allJoins_15 : decode cX3_allJoins 15 = .ok (.iload_n 1, 1) := by decide +kernel
theorem dX3_allJoins_16 : decode cX3_allJoins 16 = .ok (.aload_n 0, 1) := by decide +kernel
theorem dX3_allJoins_17 : decode cX3_allJoins 17 = .ok (.getfield 46, 3) := by decide +kernel
theorem dX3_allJoins_20 : decode cX3_allJoins 20 = .ok (.iload_n 2, 1) := by decide +kernel
theorem dX3_allJoins_21 : decode cX3_allJoins 21 = .ok (.iaload, 1) := by decide +kernel
theorem dX3_allJoins_22 : decode cX3_allJoins 22 = .ok (.iadd, 1) := by decide +kernel
theorem dX3_allJoins_23 : decode cX3_allJoins 23 = .ok (.istore_n 1, 1) := by decide +kernel
theorem dX3_allJoins_24 : decode cX3_allJoins 24 = .ok (.iinc 2 1, 3) := by decide +kernel
theorem dX3_allJoins_27 : decode cX3_allJoins 27 = .ok (.goto (-23), 3) := by decide +kernel
theorem dX3_allJoins_30 : decode cX3_allJoins 30 = .ok (.iload_n 1, 1) := by decide +kernel
theorem dX3_allJoins_31 : decode cX3_allJoins 31 = .ok (.ireturn, 1) := by decide +kernel
def t_X3_allJoins_30 : am_T := tb_iload 1 <|
  tb_iret
def t_X3_allJoins_4 : am_T := tb_iload 2 <|
  tb_aload 0 <|
  tb_getR 3 0 <|
  tb_getI 1 4 <|
  tb_ic (fun x y => y ≤ x) (t_X3_allJoins_30) <|
  tb_iload 1 <|
  tb_aload 0 <|
  tb_getR 3 10 <|
  tb_iload 2 <|
  tb_iald <|
  tb_bin (fun x y => x + y) <|
  tb_istore 1 <|
  tb_iinc 2 1 <|
  tb_head 4
def t_X3_allJoins_0 : am_T := tb_const 0 <|
  tb_istore 1 <|
  tb_const 0 <|
  tb_istore 2 <|
  tb_head 4
def h_X3_allJoins : am_Hd := fun h => if h = 0 then t_X3_allJoins_0 else if h = 4 then t_X3_allJoins_4 else tb_bad
theorem h_X3_allJoins_0 : h_X3_allJoins 0 = t_X3_allJoins_0 := rfl
theorem h_X3_allJoins_4 : h_X3_allJoins 4 = t_X3_allJoins_4 := rfl
def rm_X3_allJoins : Room := { frames := 0, cells := 0, slots := 0, locals := 0 }
def sp_X3_allJoins : am_sp := fun as M Q => as.length ≤ 3 ∧ am_OK h_X3_allJoins Q 0 (am_in 3 as) M
theorem s_X3_allJoins_30 {G : am_G} {bc bs : Nat} (X : am_Cx G cX3_allJoins RX3 "allJoins" rm_X3_allJoins (some .int) 3 bc bs true) : am_S G 30 (t_X3_allJoins_30) := by
  unfold t_X3_allJoins_30
  refine as_iload_n (pc := 30) X dX3_allJoins_30 rfl ?_
  exact as_iret (pc := 31) X ⟨rfl, rfl⟩ rfl dX3_allJoins_31
theorem s_X3_allJoins_4 {G : am_G} {bc bs : Nat} (X : am_Cx G cX3_allJoins RX3 "allJoins" rm_X3_allJoins (some .int) 3 bc bs true) : am_S G 4 (t_X3_allJoins_4) := by
  unfold t_X3_allJoins_4
  refine as_iload_n (pc := 4) X dX3_allJoins_4 rfl ?_
  refine as_aload_n (pc := 5) X dX3_allJoins_5 rfl ?_
  refine as_getR (ci := 3) (j := 0) (pc := 6) X (Cn := RX3) (Tf := TX3) (N := 17) rfl rfl (by decide) iw_X3 aw_114 rfl dX3_allJoins_6 ?_
  refine as_getI (ci := 1) (j := 4) (pc := 9) X (Cn := RX1) (Tf := TX1) (N := 14) rfl rfl (by decide) iw_X1 aw_56 rfl dX3_allJoins_9 ?_
  refine as_ic_ge (pc := 12) X 30 dX3_allJoins_12 (by decide) (s_X3_allJoins_30 X) ?_
  refine as_iload_n (pc := 15) X dX3_allJoins_15 rfl ?_
  refine as_aload_n (pc := 16) X dX3_allJoins_16 rfl ?_
  refine as_getR (ci := 3) (j := 10) (pc := 17) X (Cn := RX3) (Tf := TX3) (N := 17) rfl rfl (by decide) iw_X3 aw_129 rfl dX3_allJoins_17 ?_
  refine as_iload_n (pc := 20) X dX3_allJoins_20 rfl ?_
  refine as_iald (pc := 21) X dX3_allJoins_21 ?_
  refine as_iadd (pc := 22) X dX3_allJoins_22 ?_
  refine as_istore_n (pc := 23) X dX3_allJoins_23 rfl ?_ (by decide)
  refine as_iinc (pc := 24) X dX3_allJoins_24 (by decide) (by decide) ?_
  exact as_goto (pc := 27) X 4 dX3_allJoins_27 (by decide) (as_head)
theorem s_X3_allJoins_0 {G : am_G} {bc bs : Nat} (X : am_Cx G cX3_allJoins RX3 "allJoins" rm_X3_allJoins (some .int) 3 bc bs true) : am_S G 0 (t_X3_allJoins_0) := by
  unfold t_X3_allJoins_0
  refine as_iconst (pc := 0) X dX3_allJoins_0 (by decide) ?_
  refine as_istore_n (pc := 1) X dX3_allJoins_1 rfl ?_ (by decide)
  refine as_iconst (pc := 2) X dX3_allJoins_2 (by decide) ?_
  refine as_istore_n (pc := 3) X dX3_allJoins_3 rfl ?_ (by decide)
  exact as_head
theorem s_X3_allJoins {G : am_G} {bc bs : Nat} (X : am_Cx G cX3_allJoins RX3 "allJoins" rm_X3_allJoins (some .int) 3 bc bs true) (h : Nat) : am_S G h (h_X3_allJoins h) := by
  unfold h_X3_allJoins
  split
  · next e => rw [e]; exact s_X3_allJoins_0 X
  split
  · next e => rw [e]; exact s_X3_allJoins_4 X
  exact as_bad
theorem ct_X3_allJoins : am_Ct yX3_allJoins cX3_allJoins 3 (some .int) rm_X3_allJoins sp_X3_allJoins := am_met (own := RX3) (nm := "allJoins") (by decide) rfl rfl (Or.inr (Or.inl rfl)) (fun _ _ => h_X3_allJoins) (fun _ _ _ X => s_X3_allJoins X) (fun _ _ _ _ h => h)
-- X1_fixedLines
theorem dX1_fixedLines_0 : decode cX1_fixedLines 0 = .ok (.iconst 0, 1) := by decide +kernel
theorem dX1_fixedLines_1 : decode cX1_fixedLines 1 = .ok (.istore_n 1, 1) := by decide +kernel
theorem dX1_fixedLines_2 : decode cX1_fixedLines 2 = .ok (.iconst 0, 1) := by decide +kernel
theorem dX1_fixedLines_3 : decode cX1_fixedLines 3 = .ok (.istore_n 2, 1) := by decide +kernel
theorem dX1_fixedLines_4 : decode cX1_fixedLines 4 = .ok (.iload_n 2, 1) := by decide +kernel
theorem dX1_fixedLines_5 : decode cX1_fixedLines 5 = .ok (.aload_n 0, 1) := by decide +kernel
theorem dX1_fixedLines_6 : decode cX1_fixedLines 6 = .ok (.getfield 25, 3) := by decide +kernel
theorem dX1_fixedLines_9 : decode cX1_fixedLines 9 = .ok (.if_icmp .ge 21, 3) := by decide +kernel
theorem dX1_fixedLines_12 : decode cX1_fixedLines 12 = .ok (.aload_n 0, 1) := by decide +kernel
theorem dX1_fixedLines_13 : decode cX1_fixedLines 13 = .ok (.iload_n 2, 1) := by decide +kernel
theorem dX1_fixedLines_14 : decode cX1_fixedLines 14 = .ok (.invokevirtual 86, 3) := by decide +kernel
theorem dX1_fixedLines_17 : decode cX1_fixedLines 17 = .ok (.iconst (-1), 1) := by decide +kernel
theorem dX1_fixedLines_18 : decode cX1_fixedLines 18 = .ok (.if_icmp .eq 6, 3) := by decide +kernel
theorem dX1_fixedLines_21 : decode cX1_fixedLines 21 = .ok (.iinc 1 1, 3) := by decide +kernel
theorem dX1_fixedLines_24 : decode cX1_fixedLines 24 = .ok (.iinc 2 1, 3) := by decide +kernel
theorem dX1_fixedLines_27 : decode cX1_fixedLines 27 = .ok (.goto (-23), 3) := by decide +kernel
theorem dX1_fixedLines_30 : decode cX1_fixedLines 30 = .ok (.iload_n 1, 1) := by decide +kernel
theorem dX1_fixedLines_31 : decode cX1_fixedLines 31 = .ok (.ireturn, 1) := by decide +kernel
def t_X1_fixedLines_30 : am_T := tb_iload 1 <|
  tb_iret
def t_X1_fixedLines_24 : am_T := tb_iinc 2 1 <|
  tb_head 4
def t_X1_fixedLines_4 : am_T := tb_iload 2 <|
  tb_aload 0 <|
  tb_getI 1 4 <|
  tb_ic (fun x y => y ≤ x) (t_X1_fixedLines_30) <|
  tb_aload 0 <|
  tb_iload 2 <|
  tb_callV 1 sp_X1_countingFix 2 <|
  tb_const (-1) <|
  tb_ic (fun x y => x = y) (t_X1_fixedLines_24) <|
  tb_iinc 1 1 <|
  t_X1_fixedLines_24
def t_X1_fixedLines_0 : am_T := tb_const 0 <|
  tb_istore 1 <|
  tb_const 0 <|
  tb_istore 2 <|
  tb_head 4
def h_X1_fixedLines : am_Hd := fun h => if h = 0 then t_X1_fixedLines_0 else if h = 4 then t_X1_fixedLines_4 else tb_bad
theorem h_X1_fixedLines_0 : h_X1_fixedLines 0 = t_X1_fixedLines_0 := rfl
theorem h_X1_fixedLines_4 : h_X1_fixedLines 4 = t_X1_fixedLines_4 := rfl
def rm_X1_fixedLines : Room := { frames := 1, cells := 0, slots := 0, locals := 22 }
def sp_X1_fixedLines : am_sp := fun as M Q => as.length ≤ 3 ∧ am_OK h_X1_fixedLines Q 0 (am_in 3 as) M
theorem s_X1_fixedLines_30 {G : am_G} {bc bs : Nat} (X : am_Cx G cX1_fixedLines RX1 "fixedLines" rm_X1_fixedLines (some .int) 3 bc bs true) : am_S G 30 (t_X1_fixedLines_30) := by
  unfold t_X1_fixedLines_30
  refine as_iload_n (pc := 30) X dX1_fixedLines_30 rfl ?_
  exact as_iret (pc := 31) X ⟨rfl, rfl⟩ rfl dX1_fixedLines_31
theorem s_X1_fixedLines_24 {G : am_G} {bc bs : Nat} (X : am_Cx G cX1_fixedLines RX1 "fixedLines" rm_X1_fixedLines (some .int) 3 bc bs true) : am_S G 24 (t_X1_fixedLines_24) := by
  unfold t_X1_fixedLines_24
  refine as_iinc (pc := 24) X dX1_fixedLines_24 (by decide) (by decide) ?_
  exact as_goto (pc := 27) X 4 dX1_fixedLines_27 (by decide) (as_head)
theorem s_X1_fixedLines_4 {G : am_G} {bc bs : Nat} (X : am_Cx G cX1_fixedLines RX1 "fixedLines" rm_X1_fixedLines (some .int) 3 bc bs true) : am_S G 4 (t_X1_fixedLines_4) := by
  unfold t_X1_fixedLines_4
  refine as_iload_n (pc := 4) X dX1_fixedLines_4 rfl ?_
  refine as_aload_n (pc := 5) X dX1_fixedLines_5 rfl ?_
  refine as_getI (ci := 1) (j := 4) (pc := 6) X (Cn := RX1) (Tf := TX1) (N := 14) rfl rfl (by decide) iw_X1 aw_55 rfl dX1_fixedLines_6 ?_
  refine as_ic_ge (pc := 9) X 30 dX1_fixedLines_9 (by decide) (s_X1_fixedLines_30 X) ?_
  refine as_aload_n (pc := 12) X dX1_fixedLines_12 rfl ?_
  refine as_iload_n (pc := 13) X dX1_fixedLines_13 rfl ?_
  refine as_callV (ci := 1) (np := 1) (ix := 86) (pc := 14) X ct_X1_countingFix (Cn := (RX1, TX1, 14)) rfl ⟨rfl, rfl⟩ aw_396 aw_319 aw_320 aw_321 aw_19 (by decide +kernel) (by decide) dX1_fixedLines_14 ?_
  refine as_iconst (pc := 17) X dX1_fixedLines_17 (by decide) ?_
  refine as_ic_eq (pc := 18) X 24 dX1_fixedLines_18 (by decide) (s_X1_fixedLines_24 X) ?_
  refine as_iinc (pc := 21) X dX1_fixedLines_21 (by decide) (by decide) ?_
  exact s_X1_fixedLines_24 X
theorem s_X1_fixedLines_0 {G : am_G} {bc bs : Nat} (X : am_Cx G cX1_fixedLines RX1 "fixedLines" rm_X1_fixedLines (some .int) 3 bc bs true) : am_S G 0 (t_X1_fixedLines_0) := by
  unfold t_X1_fixedLines_0
  refine as_iconst (pc := 0) X dX1_fixedLines_0 (by decide) ?_
  refine as_istore_n (pc := 1) X dX1_fixedLines_1 rfl ?_ (by decide)
  refine as_iconst (pc := 2) X dX1_fixedLines_2 (by decide) ?_
  refine as_istore_n (pc := 3) X dX1_fixedLines_3 rfl ?_ (by decide)
  exact as_head
theorem s_X1_fixedLines {G : am_G} {bc bs : Nat} (X : am_Cx G cX1_fixedLines RX1 "fixedLines" rm_X1_fixedLines (some .int) 3 bc bs true) (h : Nat) : am_S G h (h_X1_fixedLines h) := by
  unfold h_X1_fixedLines
  split
  · next e => rw [e]; exact s_X1_fixedLines_0 X
  split
  · next e => rw [e]; exact s_X1_fixedLines_4 X
  exact as_bad
theorem ct_X1_fixedLines : am_Ct yX1_fixedLines cX1_fixedLines 3 (some .int) rm_X1_fixedLines sp_X1_fixedLines := am_met (own := RX1) (nm := "fixedLines") (by decide) rfl rfl (Or.inr (Or.inl rfl)) (fun _ _ => h_X1_fixedLines) (fun _ _ _ X => s_X1_fixedLines X) (fun _ _ _ _ h => h)
-- X4_count
theorem dX4_count_0 : decode cX4_count 0 = .ok (.iload_n 1, 1) := by decide +kernel
theorem dX4_count_1 : decode cX4_count 1 = .ok (.bipush 10, 2) := by decide +kernel
theorem dX4_count_3 : decode cX4_count 3 = .ok (.if_icmp .lt 22, 3) := by decide +kernel
theorem dX4_count_6 : decode cX4_count 6 = .ok (.iload_n 1, 1) := by decide +kernel
theorem dX4_count_7 : decode cX4_count 7 = .ok (.bipush 18, 2) := by decide +kernel
theorem dX4_count_9 : decode cX4_count 9 = .ok (.if_icmp .ge 16, 3) := by decide +kernel
theorem dX4_count_12 : decode cX4_count 12 = .ok (.aload_n 0, 1) := by decide +kernel
theorem dX4_count_13 : decode cX4_count 13 = .ok (.getfield 20, 3) := by decide +kernel
theorem dX4_count_16 : decode cX4_count 16 = .ok (.getfield 155, 3) := by decide +kernel
theorem dX4_count_19 : decode cX4_count 19 = .ok (.iload_n 1, 1) := by decide +kernel
theorem dX4_count_20 : decode cX4_count 20 = .ok (.bipush 10, 2) := by decide +kernel
theorem dX4_count_22 : decode cX4_count 22 = .ok (.isub, 1) := by decide +kernel
theorem dX4_count_23 : decode cX4_count 23 = .ok (.iaload, 1) := by decide +kernel
theorem dX4_count_24 : decode cX4_count 24 = .ok (.ireturn, 1) := by decide +kernel
theorem dX4_count_25 : decode cX4_count 25 = .ok (.iload_n 1, 1) := by decide +kernel
theorem dX4_count_26 : decode cX4_count 26 = .ok (.tableswitch 122 0 8 #[50, 58, 66, 74, 82, 90, 98, 106, 114], 50) := by decide +kernel
theorem dX4_count_76 : decode cX4_count 76 = .ok (.aload_n 0, 1) := by decide +kernel
theorem dX4_count_77 : decode cX4_count 77 = .ok (.getfield 20, 3) := by decide +kernel
theorem dX4_count_80 : decode cX4_count 80 = .ok (.getfield 86, 3) := by decide +kernel
theorem dX4_count_83 : decode cX4_count 83 = .ok (.ireturn, 1) := by decide +kernel
theorem dX4_count_84 : decode cX4_count 84 = .ok (.aload_n 0, 1) := by decide +kernel
theorem dX4_count_85 : decode cX4_count 85 = .ok (.getfield 20, 3) := by decide +kernel
theorem dX4_count_88 : decode cX4_count 88 = .ok (.getfield 100, 3) := by decide +kernel
theorem dX4_count_91 : decode cX4_count 91 = .ok (.ireturn, 1) := by decide +kernel
theorem dX4_count_92 : decode cX4_count 92 = .ok (.aload_n 0, 1) := by decide +kernel
theorem dX4_count_93 : decode cX4_count 93 = .ok (.invokevirtual 116, 3) := by decide +kernel
theorem dX4_count_96 : decode cX4_count 96 = .ok (.getfield 158, 3) := by decide +kernel
theorem dX4_count_99 : decode cX4_count 99 = .ok (.ireturn, 1) := by decide +kernel
theorem dX4_count_100 : decode cX4_count 100 = .ok (.aload_n 0, 1) := by decide +kernel
theorem dX4_count_101 : decode cX4_count 101 = .ok (.invokevirtual 116, 3) := by decide +kernel
theorem dX4_count_104 : decode cX4_count 104 = .ok (.invokevirtual 161, 3) := by decide +kernel
theorem dX4_count_107 : decode cX4_count 107 = .ok (.ireturn, 1) := by decide +kernel
theorem dX4_count_108 : decode cX4_count 108 = .ok (.aload_n 0, 1) := by decide +kernel
theorem dX4_count_109 : decode cX4_count 109 = .ok (.invokevirtual 116, 3) := by decide +kernel
theorem dX4_count_112 : decode cX4_count 112 = .ok (.invokevirtual 164, 3) := by decide +kernel
theorem dX4_count_115 : decode cX4_count 115 = .ok (.ireturn, 1) := by decide +kernel
theorem dX4_count_116 : decode cX4_count 116 = .ok (.aload_n 0, 1) := by decide +kernel
theorem dX4_count_117 : decode cX4_count 117 = .ok (.getfield 20, 3) := by decide +kernel
theorem dX4_count_120 : decode cX4_count 120 = .ok (.invokevirtual 167, 3) := by decide +kernel
theorem dX4_count_123 : decode cX4_count 123 = .ok (.ireturn, 1) := by decide +kernel
theorem dX4_count_124 : decode cX4_count 124 = .ok (.aload_n 0, 1) := by decide +kernel
theorem dX4_count_125 : decode cX4_count 125 = .ok (.getfield 20, 3) := by decide +kernel
theorem dX4_count_128 : decode cX4_count 128 = .ok (.getfield 65, 3) := by decide +kernel
theorem dX4_count_131 : decode cX4_count 131 = .ok (.ireturn, 1) := by decide +kernel
theorem dX4_count_132 : decode cX4_count 132 = .ok (.aload_n 0, 1) := by decide +kernel
theorem dX4_count_133 : decode cX4_count 133 = .ok (.getfield 28, 3) := by decide +kernel
theorem dX4_count_136 : decode cX4_count 136 = .ok (.getfield 170, 3) := by decide +kernel
theorem dX4_count_139 : decode cX4_count 139 = .ok (.ireturn, 1) := by decide +kernel
theorem dX4_count_140 : decode cX4_count 140 = .ok (.aload_n 0, 1) := by decide +kernel
theorem dX4_count_141 : decode cX4_count 141 = .ok (.getfield 35, 3) := by decide +kernel
theorem dX4_count_144 : decode cX4_count 144 = .ok (.getfield 173, 3) := by decide +kernel
theorem dX4_count_147 : decode cX4_count 147 = .ok (.ireturn, 1) := by decide +kernel
theorem dX4_count_148 : decode cX4_count 148 = .ok (.iconst (-1), 1) := by decide +kernel
theorem dX4_count_149 : decode cX4_count 149 = .ok (.ireturn, 1) := by decide +kernel
def t_X4_count_148 : am_T := tb_const (-1) <|
  tb_iret
def t_X4_count_140 : am_T := tb_aload 0 <|
  tb_getR 4 4 <|
  tb_getI 2 0 <|
  tb_iret
def t_X4_count_132 : am_T := tb_aload 0 <|
  tb_getR 4 3 <|
  tb_getI 0 0 <|
  tb_iret
def t_X4_count_124 : am_T := tb_aload 0 <|
  tb_getR 4 1 <|
  tb_getI 1 0 <|
  tb_iret
def t_X4_count_116 : am_T := tb_aload 0 <|
  tb_getR 4 1 <|
  tb_callV 1 sp_X1_fixedLines 1 <|
  tb_iret
def t_X4_count_108 : am_T := tb_aload 0 <|
  tb_callV 4 sp_X4_currentThreads 1 <|
  tb_callV 3 sp_X3_allJoins 1 <|
  tb_iret
def t_X4_count_100 : am_T := tb_aload 0 <|
  tb_callV 4 sp_X4_currentThreads 1 <|
  tb_callV 3 sp_X3_beginnings 1 <|
  tb_iret
def t_X4_count_92 : am_T := tb_aload 0 <|
  tb_callV 4 sp_X4_currentThreads 1 <|
  tb_getI 3 14 <|
  tb_iret
def t_X4_count_84 : am_T := tb_aload 0 <|
  tb_getR 4 1 <|
  tb_getI 1 9 <|
  tb_iret
def t_X4_count_76 : am_T := tb_aload 0 <|
  tb_getR 4 1 <|
  tb_getI 1 4 <|
  tb_iret
def w_X4_count_26 : Nat → am_T := fun j => match j with
    | 0 => t_X4_count_76
    | 1 => t_X4_count_84
    | 2 => t_X4_count_92
    | 3 => t_X4_count_100
    | 4 => t_X4_count_108
    | 5 => t_X4_count_116
    | 6 => t_X4_count_124
    | 7 => t_X4_count_132
    | 8 => t_X4_count_140
    | _ => tb_bad
def v_X4_count_26 : Nat → Nat := fun j => match j with
    | 0 => 76
    | 1 => 84
    | 2 => 92
    | 3 => 100
    | 4 => 108
    | 5 => 116
    | 6 => 124
    | 7 => 132
    | 8 => 140
    | _ => 0
def t_X4_count_25 : am_T := tb_iload 1 <|
  tb_sw 0 8 w_X4_count_26 (t_X4_count_148)
def t_X4_count_0 : am_T := tb_iload 1 <|
  tb_const 10 <|
  tb_ic (fun x y => x < y) (t_X4_count_25) <|
  tb_iload 1 <|
  tb_const 18 <|
  tb_ic (fun x y => y ≤ x) (t_X4_count_25) <|
  tb_aload 0 <|
  tb_getR 4 1 <|
  tb_getR 1 13 <|
  tb_iload 1 <|
  tb_const 10 <|
  tb_bin (fun x y => x - y) <|
  tb_iald <|
  tb_iret
def h_X4_count : am_Hd := fun h => if h = 0 then t_X4_count_0 else tb_bad
theorem h_X4_count_0 : h_X4_count 0 = t_X4_count_0 := rfl
def rm_X4_count : Room := { frames := 6, cells := 0, slots := 0, locals := 133 }
def sp_X4_count : am_sp := fun as M Q => as.length ≤ 2 ∧ am_OK h_X4_count Q 0 (am_in 2 as) M
theorem s_X4_count_148 {G : am_G} {bc bs : Nat} (X : am_Cx G cX4_count RX4 "count" rm_X4_count (some .int) 2 bc bs true) : am_S G 148 (t_X4_count_148) := by
  unfold t_X4_count_148
  refine as_iconst (pc := 148) X dX4_count_148 (by decide) ?_
  exact as_iret (pc := 149) X ⟨rfl, rfl⟩ rfl dX4_count_149
theorem s_X4_count_140 {G : am_G} {bc bs : Nat} (X : am_Cx G cX4_count RX4 "count" rm_X4_count (some .int) 2 bc bs true) : am_S G 140 (t_X4_count_140) := by
  unfold t_X4_count_140
  refine as_aload_n (pc := 140) X dX4_count_140 rfl ?_
  refine as_getR (ci := 4) (j := 4) (pc := 141) X (Cn := RX4) (Tf := TX4) (N := 7) rfl rfl (by decide) iw_X4 aw_228 rfl dX4_count_141 ?_
  refine as_getI (ci := 2) (j := 0) (pc := 144) X (Cn := RX2) (Tf := TX2) (N := 8) rfl rfl (by decide) iw_X2 aw_198 rfl dX4_count_144 ?_
  exact as_iret (pc := 147) X ⟨rfl, rfl⟩ rfl dX4_count_147
theorem s_X4_count_132 {G : am_G} {bc bs : Nat} (X : am_Cx G cX4_count RX4 "count" rm_X4_count (some .int) 2 bc bs true) : am_S G 132 (t_X4_count_132) := by
  unfold t_X4_count_132
  refine as_aload_n (pc := 132) X dX4_count_132 rfl ?_
  refine as_getR (ci := 4) (j := 3) (pc := 133) X (Cn := RX4) (Tf := TX4) (N := 7) rfl rfl (by decide) iw_X4 aw_227 rfl dX4_count_133 ?_
  refine as_getI (ci := 0) (j := 0) (pc := 136) X (Cn := RX0) (Tf := TX0) (N := 2) rfl rfl (by decide) iw_X0 aw_184 rfl dX4_count_136 ?_
  exact as_iret (pc := 139) X ⟨rfl, rfl⟩ rfl dX4_count_139
theorem s_X4_count_124 {G : am_G} {bc bs : Nat} (X : am_Cx G cX4_count RX4 "count" rm_X4_count (some .int) 2 bc bs true) : am_S G 124 (t_X4_count_124) := by
  unfold t_X4_count_124
  refine as_aload_n (pc := 124) X dX4_count_124 rfl ?_
  refine as_getR (ci := 4) (j := 1) (pc := 125) X (Cn := RX4) (Tf := TX4) (N := 7) rfl rfl (by decide) iw_X4 aw_225 rfl dX4_count_125 ?_
  refine as_getI (ci := 1) (j := 0) (pc := 128) X (Cn := RX1) (Tf := TX1) (N := 14) rfl rfl (by decide) iw_X1 aw_51 rfl dX4_count_128 ?_
  exact as_iret (pc := 131) X ⟨rfl, rfl⟩ rfl dX4_count_131
theorem s_X4_count_116 {G : am_G} {bc bs : Nat} (X : am_Cx G cX4_count RX4 "count" rm_X4_count (some .int) 2 bc bs true) : am_S G 116 (t_X4_count_116) := by
  unfold t_X4_count_116
  refine as_aload_n (pc := 116) X dX4_count_116 rfl ?_
  refine as_getR (ci := 4) (j := 1) (pc := 117) X (Cn := RX4) (Tf := TX4) (N := 7) rfl rfl (by decide) iw_X4 aw_225 rfl dX4_count_117 ?_
  refine as_callV (ci := 1) (np := 0) (ix := 167) (pc := 120) X ct_X1_fixedLines (Cn := (RX1, TX1, 14)) rfl ⟨rfl, rfl⟩ aw_392 aw_393 aw_394 aw_395 aw_19 (by decide +kernel) (by decide) dX4_count_120 ?_
  exact as_iret (pc := 123) X ⟨rfl, rfl⟩ rfl dX4_count_123
theorem s_X4_count_108 {G : am_G} {bc bs : Nat} (X : am_Cx G cX4_count RX4 "count" rm_X4_count (some .int) 2 bc bs true) : am_S G 108 (t_X4_count_108) := by
  unfold t_X4_count_108
  refine as_aload_n (pc := 108) X dX4_count_108 rfl ?_
  refine as_callV (ci := 4) (np := 0) (ix := 116) (pc := 109) X ct_X4_currentThreads (Cn := (RX4, TX4, 7)) rfl ⟨rfl, rfl⟩ aw_280 aw_282 aw_0 aw_283 aw_17 (by decide +kernel) (by decide) dX4_count_109 ?_
  refine as_callV (ci := 3) (np := 0) (ix := 164) (pc := 112) X ct_X3_allJoins (Cn := (RX3, TX3, 17)) rfl ⟨rfl, rfl⟩ aw_388 aw_389 aw_390 aw_391 aw_18 (by decide +kernel) (by decide) dX4_count_112 ?_
  exact as_iret (pc := 115) X ⟨rfl, rfl⟩ rfl dX4_count_115
theorem s_X4_count_100 {G : am_G} {bc bs : Nat} (X : am_Cx G cX4_count RX4 "count" rm_X4_count (some .int) 2 bc bs true) : am_S G 100 (t_X4_count_100) := by
  unfold t_X4_count_100
  refine as_aload_n (pc := 100) X dX4_count_100 rfl ?_
  refine as_callV (ci := 4) (np := 0) (ix := 116) (pc := 101) X ct_X4_currentThreads (Cn := (RX4, TX4, 7)) rfl ⟨rfl, rfl⟩ aw_280 aw_282 aw_0 aw_283 aw_17 (by decide +kernel) (by decide) dX4_count_101 ?_
  refine as_callV (ci := 3) (np := 0) (ix := 161) (pc := 104) X ct_X3_beginnings (Cn := (RX3, TX3, 17)) rfl ⟨rfl, rfl⟩ aw_380 aw_381 aw_382 aw_383 aw_18 (by decide +kernel) (by decide) dX4_count_104 ?_
  exact as_iret (pc := 107) X ⟨rfl, rfl⟩ rfl dX4_count_107
theorem s_X4_count_92 {G : am_G} {bc bs : Nat} (X : am_Cx G cX4_count RX4 "count" rm_X4_count (some .int) 2 bc bs true) : am_S G 92 (t_X4_count_92) := by
  unfold t_X4_count_92
  refine as_aload_n (pc := 92) X dX4_count_92 rfl ?_
  refine as_callV (ci := 4) (np := 0) (ix := 116) (pc := 93) X ct_X4_currentThreads (Cn := (RX4, TX4, 7)) rfl ⟨rfl, rfl⟩ aw_280 aw_282 aw_0 aw_283 aw_17 (by decide +kernel) (by decide) dX4_count_93 ?_
  refine as_getI (ci := 3) (j := 14) (pc := 96) X (Cn := RX3) (Tf := TX3) (N := 17) rfl rfl (by decide) iw_X3 aw_136 rfl dX4_count_96 ?_
  exact as_iret (pc := 99) X ⟨rfl, rfl⟩ rfl dX4_count_99
theorem s_X4_count_84 {G : am_G} {bc bs : Nat} (X : am_Cx G cX4_count RX4 "count" rm_X4_count (some .int) 2 bc bs true) : am_S G 84 (t_X4_count_84) := by
  unfold t_X4_count_84
  refine as_aload_n (pc := 84) X dX4_count_84 rfl ?_
  refine as_getR (ci := 4) (j := 1) (pc := 85) X (Cn := RX4) (Tf := TX4) (N := 7) rfl rfl (by decide) iw_X4 aw_225 rfl dX4_count_85 ?_
  refine as_getI (ci := 1) (j := 9) (pc := 88) X (Cn := RX1) (Tf := TX1) (N := 14) rfl rfl (by decide) iw_X1 aw_70 rfl dX4_count_88 ?_
  exact as_iret (pc := 91) X ⟨rfl, rfl⟩ rfl dX4_count_91
theorem s_X4_count_76 {G : am_G} {bc bs : Nat} (X : am_Cx G cX4_count RX4 "count" rm_X4_count (some .int) 2 bc bs true) : am_S G 76 (t_X4_count_76) := by
  unfold t_X4_count_76
  refine as_aload_n (pc := 76) X dX4_count_76 rfl ?_
  refine as_getR (ci := 4) (j := 1) (pc := 77) X (Cn := RX4) (Tf := TX4) (N := 7) rfl rfl (by decide) iw_X4 aw_225 rfl dX4_count_77 ?_
  refine as_getI (ci := 1) (j := 4) (pc := 80) X (Cn := RX1) (Tf := TX1) (N := 14) rfl rfl (by decide) iw_X1 aw_57 rfl dX4_count_80 ?_
  exact as_iret (pc := 83) X ⟨rfl, rfl⟩ rfl dX4_count_83
theorem s_X4_count_25 {G : am_G} {bc bs : Nat} (X : am_Cx G cX4_count RX4 "count" rm_X4_count (some .int) 2 bc bs true) : am_S G 25 (t_X4_count_25) := by
  unfold t_X4_count_25
  refine as_iload_n (pc := 25) X dX4_count_25 rfl ?_
  refine as_sw (pc := 26) X dX4_count_26 v_X4_count_26 148 (by decide) (fun j hj => ?_) (s_X4_count_148 X)
  match j, hj with
  | 0, _ => exact ⟨50, rfl, by decide, s_X4_count_76 X⟩
  | 1, _ => exact ⟨58, rfl, by decide, s_X4_count_84 X⟩
  | 2, _ => exact ⟨66, rfl, by decide, s_X4_count_92 X⟩
  | 3, _ => exact ⟨74, rfl, by decide, s_X4_count_100 X⟩
  | 4, _ => exact ⟨82, rfl, by decide, s_X4_count_108 X⟩
  | 5, _ => exact ⟨90, rfl, by decide, s_X4_count_116 X⟩
  | 6, _ => exact ⟨98, rfl, by decide, s_X4_count_124 X⟩
  | 7, _ => exact ⟨106, rfl, by decide, s_X4_count_132 X⟩
  | 8, _ => exact ⟨114, rfl, by decide, s_X4_count_140 X⟩
  | j + 9, hj => exact absurd hj (by omega)
theorem s_X4_count_0 {G : am_G} {bc bs : Nat} (X : am_Cx G cX4_count RX4 "count" rm_X4_count (some .int) 2 bc bs true) : am_S G 0 (t_X4_count_0) := by
  unfold t_X4_count_0
  refine as_iload_n (pc := 0) X dX4_count_0 rfl ?_
  refine as_bipush (pc := 1) X dX4_count_1 (by decide) ?_
  refine as_ic_lt (pc := 3) X 25 dX4_count_3 (by decide) (s_X4_count_25 X) ?_
  refine as_iload_n (pc := 6) X dX4_count_6 rfl ?_
  refine as_bipush (pc := 7) X dX4_count_7 (by decide) ?_
  refine as_ic_ge (pc := 9) X 25 dX4_count_9 (by decide) (s_X4_count_25 X) ?_
  refine as_aload_n (pc := 12) X dX4_count_12 rfl ?_
  refine as_getR (ci := 4) (j := 1) (pc := 13) X (Cn := RX4) (Tf := TX4) (N := 7) rfl rfl (by decide) iw_X4 aw_225 rfl dX4_count_13 ?_
  refine as_getR (ci := 1) (j := 13) (pc := 16) X (Cn := RX1) (Tf := TX1) (N := 14) rfl rfl (by decide) iw_X1 aw_83 rfl dX4_count_16 ?_
  refine as_iload_n (pc := 19) X dX4_count_19 rfl ?_
  refine as_bipush (pc := 20) X dX4_count_20 (by decide) ?_
  refine as_isub (pc := 22) X dX4_count_22 ?_
  refine as_iald (pc := 23) X dX4_count_23 ?_
  exact as_iret (pc := 24) X ⟨rfl, rfl⟩ rfl dX4_count_24
theorem s_X4_count {G : am_G} {bc bs : Nat} (X : am_Cx G cX4_count RX4 "count" rm_X4_count (some .int) 2 bc bs true) (h : Nat) : am_S G h (h_X4_count h) := by
  unfold h_X4_count
  split
  · next e => rw [e]; exact s_X4_count_0 X
  exact as_bad
theorem ct_X4_count : am_Ct yX4_count cX4_count 2 (some .int) rm_X4_count sp_X4_count := am_met (own := RX4) (nm := "count") (by decide) rfl rfl (Or.inr (Or.inl rfl)) (fun _ _ => h_X4_count) (fun _ _ _ X => s_X4_count X) (fun _ _ _ _ h => h)
