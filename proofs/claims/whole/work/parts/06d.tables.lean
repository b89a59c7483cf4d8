-- X3_rate
theorem dX3_rate_0 : decode cX3_rate 0 = .ok (.iconst 0, 1) := by decide +kernel
theorem dX3_rate_1 : decode cX3_rate 1 = .ok (.istore_n 3, 1) := by decide +kernel
theorem dX3_rate_2 : decode cX3_rate 2 = .ok (.aload_n 0, 1) := by decide +kernel
theorem dX3_rate_3 : decode cX3_rate 3 = .ok (.iload_n 1, 1) := by decide +kernel
theorem dX3_rate_4 : decode cX3_rate 4 = .ok (.aload_n 0, 1) := by decide +kernel
theorem dX3_rate_5 : decode cX3_rate 5 = .ok (.getfield 12, 3) := by decide +kernel
theorem dX3_rate_8 : decode cX3_rate 8 = .ok (.getfield 98, 3) := by decide +kernel
theorem dX3_rate_11 : decode cX3_rate 11 = .ok (.iload_n 2, 1) := by decide +kernel
theorem dX3_rate_12 : decode cX3_rate 12 = .ok (.iaload, 1) := by decide +kernel
theorem dX3_rate_13 : decode cX3_rate 13 = .ok (.invokevirtual 101, 3) := by decide +kernel
theorem dX3_rate_16 : decode cX3_rate 16 = .ok (.ifCond .eq 15, 3) := by decide +kernel
theorem dX3_rate_19 : decode cX3_rate 19 = .ok (.iload_n 3, 1) := by decide +kernel
theorem dX3_rate_20 : decode cX3_rate 20 = .ok (.aload_n 0, 1) := by decide +kernel
theorem dX3_rate_21 : decode cX3_rate 21 = .ok (.getfield 12, 3) := by decide +kernel
theorem dX3_rate_24 : decode cX3_rate 24 = .ok (.getfield 105, 3) := by decide +kernel
theorem dX3_rate_27 : decode cX3_rate 27 = .ok (.iconst 2, 1) := by decide +kernel
theorem dX3_rate_28 : decode cX3_rate 28 = .ok (.iaload, 1) := by decide +kernel
theorem dX3_rate_29 : decode cX3_rate 29 = .ok (.iadd, 1) := by decide +kernel
theorem dX3_rate_30 : decode cX3_rate 30 = .ok (.istore_n 3, 1) := by decide +kernel
theorem dX3_rate_31 : decode cX3_rate 31 = .ok (.aload_n 0, 1) := by decide +kernel
theorem dX3_rate_32 : decode cX3_rate 32 = .ok (.iload_n 2, 1) := by decide +kernel
theorem dX3_rate_33 : decode cX3_rate 33 = .ok (.aload_n 0, 1) := by decide +kernel
theorem dX3_rate_34 : decode cX3_rate 34 = .ok (.getfield 12, 3) := by decide +kernel
theorem dX3_rate_37 : decode cX3_rate 37 = .ok (.getfield 98, 3) := by decide +kernel
theorem dX3_rate_40 : decode cX3_rate 40 = .ok (.iload_n 1, 1) := by decide +kernel
theorem dX3_rate_41 : decode cX3_rate 41 = .ok (.iaload, 1) := by decide +kernel
theorem dX3_rate_42 : decode cX3_rate 42 = .ok (.invokevirtual 101, 3) := by decide +kernel
theorem dX3_rate_45 : decode cX3_rate 45 = .ok (.ifCond .eq 15, 3) := by decide +kernel
theorem dX3_rate_48 : decode cX3_rate 48 = .ok (.iload_n 3, 1) := by decide +kernel
theorem dX3_rate_49 : decode cX3_rate 49 = .ok (.aload_n 0, 1) := by decide +kernel
theorem dX3_rate_50 : decode cX3_rate 50 = .ok (.getfield 12, 3) := by decide +kernel
theorem dX3_rate_53 : decode cX3_rate 53 = .ok (.getfield 105, 3) := by decide +kernel
theorem dX3_rate_56 : decode cX3_rate 56 = .ok (.iconst 3, 1) := by decide +kernel
theorem dX3_rate_57 : decode cX3_rate 57 = .ok (.iaload, 1) := by decide +kernel
theorem dX3_rate_58 : decode cX3_rate 58 = .ok (.iadd, 1) := by decide +kernel
theorem dX3_rate_59 : decode cX3_rate 59 = .ok (.istore_n 3, 1) := by decide +kernel
theorem dX3_rate_60 : decode cX3_rate 60 = .ok (.iload_n 3, 1) := by decide +kernel
theorem dX3_rate_61 : decode cX3_rate 61 = .ok (.aload_n 0, 1) := by decide +kernel
theorem dX3_rate_62 : decode cX3_rate 62 = .ok (.getfield 12, 3) := by decide +kernel
theorem dX3_rate_65 : decode cX3_rate 65 = .ok (.getfield 105, 3) := by decide +kernel
theorem dX3_rate_68 : decode cX3_rate 68 = .ok (.iconst 4, 1) := by decide +kernel
theorem dX3_rate_69 : decode cX3_rate 69 = .ok (.iaload, 1) := by decide +kernel
theorem dX3_rate_70 : decode cX3_rate 70 = .ok (.aload_n 0, 1) := by decide +kernel
theorem dX3_rate_71 : decode cX3_rate 71 = .ok (.getfield 12, 3) := by decide +kernel
theorem dX3_rate_74 : decode cX3_rate 74 = .ok (.getfield 108, 3) := by decide +kernel
theorem dX3_rate_77 : decode cX3_rate 77 = .ok (.iload_n 1, 1) := by decide +kernel
theorem dX3_rate_78 : decode cX3_rate 78 = .ok (.iaload, 1) := by decide +kernel
theorem dX3_rate_79 : decode cX3_rate 79 = .ok (.aload_n 0, 1) := by decide +kernel
theorem dX3_rate_80 : decode cX3_rate 80 = .ok (.getfield 12, 3) := by decide +kernel
theorem dX3_rate_83 : decode cX3_rate 83 = .ok (.getfield 108, 3) := by decide +kernel
theorem dX3_rate_86 : decode cX3_rate 86 = .ok (.iload_n 2, 1) := by decide +kernel
theorem dX3_rate_87 : decode cX3_rate 87 = .ok (.iaload, 1) := by decide +kernel
theorem dX3_rate_88 : decode cX3_rate 88 = .ok (.iand, 1) := by decide +kernel
theorem dX3_rate_89 : decode cX3_rate 89 = .ok (.invokestatic 111, 3) := by decide +kernel
theorem dX3_rate_92 : decode cX3_rate 92 = .ok (.imul, 1) := by decide +kernel
theorem dX3_rate_93 : decode cX3_rate 93 = .ok (.iadd, 1) := by decide +kernel
theorem dX3_rate_94 : decode cX3_rate 94 = .ok (.istore_n 3, 1) := by decide +kernel
theorem dX3_rate_95 : decode cX3_rate 95 = .ok (.aload_n 0, 1) := by decide +kernel
theorem dX3_rate_96 : decode cX3_rate 96 = .ok (.getfield 12, 3) := by decide +kernel
theorem dX3_rate_99 : decode cX3_rate 99 = .ok (.getfield 98, 3) := by decide +kernel
theorem dX3_rate_102 : decode cX3_rate 102 = .ok (.iload_n 1, 1) := by decide +kernel
theorem dX3_rate_103 : decode cX3_rate 103 = .ok (.iaload, 1) := by decide +kernel
theorem dX3_rate_104 : decode cX3_rate 104 = .ok (.aload_n 0, 1) := by decide +kernel
theorem dX3_rate_105 : decode cX3_rate 105 = .ok (.getfield 12, 3) := by decide +kernel
theorem dX3_rate_108 : decode cX3_rate 108 = .ok (.getfield 98, 3) := by decide +kernel
theorem dX3_rate_111 : decode cX3_rate 111 = .ok (.iload_n 2, 1) := by decide +kernel
theorem dX3_rate_112 : decode cX3_rate 112 = .ok (.iaload, 1) := by decide +kernel
theorem dX3_rate_113 : decode cX3_rate 113 = .ok (.if_icmp .ne 15, 3) := by decide +kernel
theorem dX3_rate_116 : decode cX3_rate 116 = .ok (.iload_n 3, 1) := by decide +kernel
theorem dX3_rate_117 : decode cX3_rate 117 = .ok (.aload_n 0, 1) := by decide +kernel
theorem dX3_rate_118 : decode cX3_rate 118 = .ok (.getfield 12, 3) := by decide +kernel
theorem dX3_rate_121 : decode cX3_rate 121 = .ok (.getfield 105, 3) := by decide +kernel
theorem dX3_rate_124 : decode cX3_rate 124 = .ok (.iconst 5, 1) := by decide +kernel
theorem dX3_rate_125 : decode cX3_rate 125 = .ok (.iaload, 1) := by decide +kernel
theorem dX3_rate_126 : decode cX3_rate 126 = .ok (.iadd, 1) := by decide +kernel
theorem dX3_rate_127 : decode cX3_rate 127 = .ok (.istore_n 3, 1) := by decide +kernel
theorem dX3_rate_128 : decode cX3_rate 128 = .ok (.aload_n 0, 1) := by decide +kernel
theorem dX3_rate_129 : decode cX3_rate 129 = .ok (.getfield 12, 3) := by decide +kernel
theorem dX3_rate_132 : decode cX3_rate 132 = .ok (.getfield 105, 3) := by decide +kernel
theorem dX3_rate_135 : decode cX3_rate 135 = .ok (.bipush 6, 2) := by decide +kernel
theorem dX3_rate_137 : decode cX3_rate 137 = .ok (.iaload, 1) := by decide +kernel
theorem dX3_rate_138 : decode cX3_rate 138 = .ok (.istore 4, 2) := by decide +kernel
theorem dX3_rate_140 : decode cX3_rate 140 = .ok (.iload 4, 2) := by decide +kernel
theorem dX3_rate_142 : decode cX3_rate 142 = .ok (.ifCond .le 15, 3) := by decide +kernel
theorem dX3_rate_145 : decode cX3_rate 145 = .ok (.iload_n 3, 1) := by decide +kernel
theorem dX3_rate_146 : decode cX3_rate 146 = .ok (.aload_n 0, 1) := by decide +kernel
theorem dX3_rate_147 : decode cX3_rate 147 = .ok (.iload_n 1, 1) := by decide +kernel
theorem dX3_rate_148 : decode cX3_rate 148 = .ok (.iload_n 2, 1) := by decide +kernel
theorem dX3_rate_149 : decode cX3_rate 149 = .ok (.invokevirtual 116, 3) := by decide +kernel
theorem dX3_rate_152 : decode cX3_rate 152 = .ok (.iload 4, 2) := by decide +kernel
theorem dX3_rate_154 : decode cX3_rate 154 = .ok (.idiv, 1) := by decide +kernel
theorem dX3_rate_155 : decode cX3_rate 155 = .ok (.isub, 1) := by decide +kernel
theorem dX3_rate_156 : decode cX3_rate 156 = .ok (.istore_n 3, 1) := by decide +kernel
theorem dX3_rate_157 : decode cX3_rate 157 = .ok (.aload_n 0, 1) := by decide +kernel
theorem dX3_rate_158 : decode cX3_rate 158 = .ok (.getfield 28, 3) := by decide +kernel
theorem dX3_rate_161 : decode cX3_rate 161 = .ok (.iload_n 1, 1) := by decide +kernel
theorem dX3_rate_162 : decode cX3_rate 162 = .ok (.bipush 30, 2) := by decide +kernel
theorem dX3_rate_164 : decode cX3_rate 164 = .ok (.imul, 1) := by decide +kernel
theorem dX3_rate_165 : decode cX3_rate 165 = .ok (.iload_n 2, 1) := by decide +kernel
theorem dX3_rate_166 : decode cX3_rate 166 = .ok (.iadd, 1) := by decide +kernel
theorem dX3_rate_167 : decode cX3_rate 167 = .ok (.iload_n 3, 1) := by decide +kernel
theorem dX3_rate_168 : decode cX3_rate 168 = .ok (.iastore, 1) := by decide +kernel
theorem dX3_rate_169 : decode cX3_rate 169 = .ok (.return_, 1) := by decide +kernel
def t_X3_rate_157 : am_T := tb_aload 0 <|
  tb_getR 3 4 <|
  tb_iload 1 <|
  tb_const 30 <|
  tb_bin (fun x y => x * y) <|
  tb_iload 2 <|
  tb_bin (fun x y => x + y) <|
  tb_iload 3 <|
  tb_iast <|
  tb_ret
def t_X3_rate_128 : am_T := tb_aload 0 <|
  tb_getR 3 0 <|
  tb_getR 1 13 <|
  tb_const 6 <|
  tb_iald <|
  tb_istore 4 <|
  tb_iload 4 <|
  tb_if (fun x => x ≤ 0) (t_X3_rate_157) <|
  tb_iload 3 <|
  tb_aload 0 <|
  tb_iload 1 <|
  tb_iload 2 <|
  tb_callV 3 sp_X3_gapOf 3 <|
  tb_iload 4 <|
  tb_idiv <|
  tb_bin (fun x y => x - y) <|
  tb_istore 3 <|
  t_X3_rate_157
def t_X3_rate_60 : am_T := tb_iload 3 <|
  tb_aload 0 <|
  tb_getR 3 0 <|
  tb_getR 1 13 <|
  tb_const 4 <|
  tb_iald <|
  tb_aload 0 <|
  tb_getR 3 0 <|
  tb_getR 1 8 <|
  tb_iload 1 <|
  tb_iald <|
  tb_aload 0 <|
  tb_getR 3 0 <|
  tb_getR 1 8 <|
  tb_iload 2 <|
  tb_iald <|
  tb_bin (fun x y => x &&& y) <|
  tb_callS sp_J6_bitCount_0f7a4 1 <|
  tb_bin (fun x y => x * y) <|
  tb_bin (fun x y => x + y) <|
  tb_istore 3 <|
  tb_aload 0 <|
  tb_getR 3 0 <|
  tb_getR 1 6 <|
  tb_iload 1 <|
  tb_iald <|
  tb_aload 0 <|
  tb_getR 3 0 <|
  tb_getR 1 6 <|
  tb_iload 2 <|
  tb_iald <|
  tb_ic (fun x y => x ≠ y) (t_X3_rate_128) <|
  tb_iload 3 <|
  tb_aload 0 <|
  tb_getR 3 0 <|
  tb_getR 1 13 <|
  tb_const 5 <|
  tb_iald <|
  tb_bin (fun x y => x + y) <|
  tb_istore 3 <|
  t_X3_rate_128
def t_X3_rate_31 : am_T := tb_aload 0 <|
  tb_iload 2 <|
  tb_aload 0 <|
  tb_getR 3 0 <|
  tb_getR 1 6 <|
  tb_iload 1 <|
  tb_iald <|
  tb_callV 3 sp_X3_speaksTo 3 <|
  tb_if (fun x => x = 0) (t_X3_rate_60) <|
  tb_iload 3 <|
  tb_aload 0 <|
  tb_getR 3 0 <|
  tb_getR 1 13 <|
  tb_const 3 <|
  tb_iald <|
  tb_bin (fun x y => x + y) <|
  tb_istore 3 <|
  t_X3_rate_60
def t_X3_rate_0 : am_T := tb_const 0 <|
  tb_istore 3 <|
  tb_aload 0 <|
  tb_iload 1 <|
  tb_aload 0 <|
  tb_getR 3 0 <|
  tb_getR 1 6 <|
  tb_iload 2 <|
  tb_iald <|
  tb_callV 3 sp_X3_speaksTo 3 <|
  tb_if (fun x => x = 0) (t_X3_rate_31) <|
  tb_iload 3 <|
  tb_aload 0 <|
  tb_getR 3 0 <|
  tb_getR 1 13 <|
  tb_const 2 <|
  tb_iald <|
  tb_bin (fun x y => x + y) <|
  tb_istore 3 <|
  t_X3_rate_31
def h_X3_rate : am_Hd := fun h => if h = 0 then t_X3_rate_0 else tb_bad
theorem h_X3_rate_0 : h_X3_rate 0 = t_X3_rate_0 := rfl
def rm_X3_rate : Room := { frames := 2, cells := 0, slots := 0, locals := 43 }
def sp_X3_rate : am_sp := fun as M Q => as.length ≤ 5 ∧ am_OK h_X3_rate Q 0 (am_in 5 as) M
theorem s_X3_rate_157 {G : am_G} {bc bs : Nat} (X : am_Cx G cX3_rate RX3 "rate" rm_X3_rate none 5 bc bs true) : am_S G 157 (t_X3_rate_157) := by
  unfold t_X3_rate_157
  refine as_aload_n (pc := 157) X dX3_rate_157 rfl ?_
  refine as_getR (ci := 3) (j := 4) (pc := 158) X (Cn := RX3) (Tf := TX3) (N := 17) rfl rfl (by decide) iw_X3 aw_167 rfl dX3_rate_158 ?_
  refine as_iload_n (pc := 161) X dX3_rate_161 rfl ?_
  refine as_bipush (pc := 162) X dX3_rate_162 (by decide) ?_
  refine as_imul (pc := 164) X dX3_rate_164 ?_
  refine as_iload_n (pc := 165) X dX3_rate_165 rfl ?_
  refine as_iadd (pc := 166) X dX3_rate_166 ?_
  refine as_iload_n (pc := 167) X dX3_rate_167 rfl ?_
  refine as_iast (pc := 168) X dX3_rate_168 ?_
  exact as_ret (pc := 169) X ⟨rfl, rfl⟩ rfl dX3_rate_169
theorem s_X3_rate_128 {G : am_G} {bc bs : Nat} (X : am_Cx G cX3_rate RX3 "rate" rm_X3_rate none 5 bc bs true) : am_S G 128 (t_X3_rate_128) := by
  unfold t_X3_rate_128
  refine as_aload_n (pc := 128) X dX3_rate_128 rfl ?_
  refine as_getR (ci := 3) (j := 0) (pc := 129) X (Cn := RX3) (Tf := TX3) (N := 17) rfl rfl (by decide) iw_X3 aw_159 rfl dX3_rate_129 ?_
  refine as_getR (ci := 1) (j := 13) (pc := 132) X (Cn := RX1) (Tf := TX1) (N := 14) rfl rfl (by decide) iw_X1 aw_127 rfl dX3_rate_132 ?_
  refine as_bipush (pc := 135) X dX3_rate_135 (by decide) ?_
  refine as_iald (pc := 137) X dX3_rate_137 ?_
  refine as_istore (pc := 138) X dX3_rate_138 ?_ (by decide)
  refine as_iload (pc := 140) X dX3_rate_140 ?_
  refine as_if_le (pc := 142) X 157 dX3_rate_142 (by decide) (s_X3_rate_157 X) ?_
  refine as_iload_n (pc := 145) X dX3_rate_145 rfl ?_
  refine as_aload_n (pc := 146) X dX3_rate_146 rfl ?_
  refine as_iload_n (pc := 147) X dX3_rate_147 rfl ?_
  refine as_iload_n (pc := 148) X dX3_rate_148 rfl ?_
  refine as_callV (ci := 3) (np := 2) (ix := 116) (pc := 149) X ct_X3_gapOf (Cn := (RX3, TX3, 17)) rfl ⟨rfl, rfl⟩ aw_423 aw_424 aw_425 aw_426 aw_60 (by decide +kernel) (by decide) dX3_rate_149 ?_
  refine as_iload (pc := 152) X dX3_rate_152 ?_
  refine as_idiv (pc := 154) X dX3_rate_154 ?_
  refine as_isub (pc := 155) X dX3_rate_155 ?_
  refine as_istore_n (pc := 156) X dX3_rate_156 rfl ?_ (by decide)
  exact s_X3_rate_157 X
theorem s_X3_rate_60 {G : am_G} {bc bs : Nat} (X : am_Cx G cX3_rate RX3 "rate" rm_X3_rate none 5 bc bs true) : am_S G 60 (t_X3_rate_60) := by
  unfold t_X3_rate_60
  refine as_iload_n (pc := 60) X dX3_rate_60 rfl ?_
  refine as_aload_n (pc := 61) X dX3_rate_61 rfl ?_
  refine as_getR (ci := 3) (j := 0) (pc := 62) X (Cn := RX3) (Tf := TX3) (N := 17) rfl rfl (by decide) iw_X3 aw_159 rfl dX3_rate_62 ?_
  refine as_getR (ci := 1) (j := 13) (pc := 65) X (Cn := RX1) (Tf := TX1) (N := 14) rfl rfl (by decide) iw_X1 aw_127 rfl dX3_rate_65 ?_
  refine as_iconst (pc := 68) X dX3_rate_68 (by decide) ?_
  refine as_iald (pc := 69) X dX3_rate_69 ?_
  refine as_aload_n (pc := 70) X dX3_rate_70 rfl ?_
  refine as_getR (ci := 3) (j := 0) (pc := 71) X (Cn := RX3) (Tf := TX3) (N := 17) rfl rfl (by decide) iw_X3 aw_159 rfl dX3_rate_71 ?_
  refine as_getR (ci := 1) (j := 8) (pc := 74) X (Cn := RX1) (Tf := TX1) (N := 14) rfl rfl (by decide) iw_X1 aw_111 rfl dX3_rate_74 ?_
  refine as_iload_n (pc := 77) X dX3_rate_77 rfl ?_
  refine as_iald (pc := 78) X dX3_rate_78 ?_
  refine as_aload_n (pc := 79) X dX3_rate_79 rfl ?_
  refine as_getR (ci := 3) (j := 0) (pc := 80) X (Cn := RX3) (Tf := TX3) (N := 17) rfl rfl (by decide) iw_X3 aw_159 rfl dX3_rate_80 ?_
  refine as_getR (ci := 1) (j := 8) (pc := 83) X (Cn := RX1) (Tf := TX1) (N := 14) rfl rfl (by decide) iw_X1 aw_111 rfl dX3_rate_83 ?_
  refine as_iload_n (pc := 86) X dX3_rate_86 rfl ?_
  refine as_iald (pc := 87) X dX3_rate_87 ?_
  refine as_iand (pc := 88) X dX3_rate_88 ?_
  refine as_callS (np := 1) (ix := 111) (pc := 89) X ct_J6_bitCount_0f7a4 ⟨rfl, rfl⟩ aw_417 aw_418 aw_419 aw_66 (by decide +kernel) (by decide) dX3_rate_89 ?_
  refine as_imul (pc := 92) X dX3_rate_92 ?_
  refine as_iadd (pc := 93) X dX3_rate_93 ?_
  refine as_istore_n (pc := 94) X dX3_rate_94 rfl ?_ (by decide)
  refine as_aload_n (pc := 95) X dX3_rate_95 rfl ?_
  refine as_getR (ci := 3) (j := 0) (pc := 96) X (Cn := RX3) (Tf := TX3) (N := 17) rfl rfl (by decide) iw_X3 aw_159 rfl dX3_rate_96 ?_
  refine as_getR (ci := 1) (j := 6) (pc := 99) X (Cn := RX1) (Tf := TX1) (N := 14) rfl rfl (by decide) iw_X1 aw_106 rfl dX3_rate_99 ?_
  refine as_iload_n (pc := 102) X dX3_rate_102 rfl ?_
  refine as_iald (pc := 103) X dX3_rate_103 ?_
  refine as_aload_n (pc := 104) X dX3_rate_104 rfl ?_
  refine as_getR (ci := 3) (j := 0) (pc := 105) X (Cn := RX3) (Tf := TX3) (N := 17) rfl rfl (by decide) iw_X3 aw_159 rfl dX3_rate_105 ?_
  refine as_getR (ci := 1) (j := 6) (pc := 108) X (Cn := RX1) (Tf := TX1) (N := 14) rfl rfl (by decide) iw_X1 aw_106 rfl dX3_rate_108 ?_
  refine as_iload_n (pc := 111) X dX3_rate_111 rfl ?_
  refine as_iald (pc := 112) X dX3_rate_112 ?_
  refine as_ic_ne (pc := 113) X 128 dX3_rate_113 (by decide) (s_X3_rate_128 X) ?_
  refine as_iload_n (pc := 116) X dX3_rate_116 rfl ?_
  refine as_aload_n (pc := 117) X dX3_rate_117 rfl ?_
  refine as_getR (ci := 3) (j := 0) (pc := 118) X (Cn := RX3) (Tf := TX3) (N := 17) rfl rfl (by decide) iw_X3 aw_159 rfl dX3_rate_118 ?_
  refine as_getR (ci := 1) (j := 13) (pc := 121) X (Cn := RX1) (Tf := TX1) (N := 14) rfl rfl (by decide) iw_X1 aw_127 rfl dX3_rate_121 ?_
  refine as_iconst (pc := 124) X dX3_rate_124 (by decide) ?_
  refine as_iald (pc := 125) X dX3_rate_125 ?_
  refine as_iadd (pc := 126) X dX3_rate_126 ?_
  refine as_istore_n (pc := 127) X dX3_rate_127 rfl ?_ (by decide)
  exact s_X3_rate_128 X
theorem s_X3_rate_31 {G : am_G} {bc bs : Nat} (X : am_Cx G cX3_rate RX3 "rate" rm_X3_rate none 5 bc bs true) : am_S G 31 (t_X3_rate_31) := by
  unfold t_X3_rate_31
  refine as_aload_n (pc := 31) X dX3_rate_31 rfl ?_
  refine as_iload_n (pc := 32) X dX3_rate_32 rfl ?_
  refine as_aload_n (pc := 33) X dX3_rate_33 rfl ?_
  refine as_getR (ci := 3) (j := 0) (pc := 34) X (Cn := RX3) (Tf := TX3) (N := 17) rfl rfl (by decide) iw_X3 aw_159 rfl dX3_rate_34 ?_
  refine as_getR (ci := 1) (j := 6) (pc := 37) X (Cn := RX1) (Tf := TX1) (N := 14) rfl rfl (by decide) iw_X1 aw_106 rfl dX3_rate_37 ?_
  refine as_iload_n (pc := 40) X dX3_rate_40 rfl ?_
  refine as_iald (pc := 41) X dX3_rate_41 ?_
  refine as_callV (ci := 3) (np := 2) (ix := 101) (pc := 42) X ct_X3_speaksTo (Cn := (RX3, TX3, 17)) rfl ⟨rfl, rfl⟩ aw_412 aw_414 aw_5 aw_415 aw_60 (by decide +kernel) (by decide) dX3_rate_42 ?_
  refine as_if_eq (pc := 45) X 60 dX3_rate_45 (by decide) (s_X3_rate_60 X) ?_
  refine as_iload_n (pc := 48) X dX3_rate_48 rfl ?_
  refine as_aload_n (pc := 49) X dX3_rate_49 rfl ?_
  refine as_getR (ci := 3) (j := 0) (pc := 50) X (Cn := RX3) (Tf := TX3) (N := 17) rfl rfl (by decide) iw_X3 aw_159 rfl dX3_rate_50 ?_
  refine as_getR (ci := 1) (j := 13) (pc := 53) X (Cn := RX1) (Tf := TX1) (N := 14) rfl rfl (by decide) iw_X1 aw_127 rfl dX3_rate_53 ?_
  refine as_iconst (pc := 56) X dX3_rate_56 (by decide) ?_
  refine as_iald (pc := 57) X dX3_rate_57 ?_
  refine as_iadd (pc := 58) X dX3_rate_58 ?_
  refine as_istore_n (pc := 59) X dX3_rate_59 rfl ?_ (by decide)
  exact s_X3_rate_60 X
theorem s_X3_rate_0 {G : am_G} {bc bs : Nat} (X : am_Cx G cX3_rate RX3 "rate" rm_X3_rate none 5 bc bs true) : am_S G 0 (t_X3_rate_0) := by
  unfold t_X3_rate_0
  refine as_iconst (pc := 0) X dX3_rate_0 (by decide) ?_
  refine as_istore_n (pc := 1) X dX3_rate_1 rfl ?_ (by decide)
  refine as_aload_n (pc := 2) X dX3_rate_2 rfl ?_
  refine as_iload_n (pc := 3) X dX3_rate_3 rfl ?_
  refine as_aload_n (pc := 4) X dX3_rate_4 rfl ?_
  refine as_getR (ci := 3) (j := 0) (pc := 5) X (Cn := RX3) (Tf := TX3) (N := 17) rfl rfl (by decide) iw_X3 aw_159 rfl dX3_rate_5 ?_
  refine as_getR (ci := 1) (j := 6) (pc := 8) X (Cn := RX1) (Tf := TX1) (N := 14) rfl rfl (by decide) iw_X1 aw_106 rfl dX3_rate_8 ?_
  refine as_iload_n (pc := 11) X dX3_rate_11 rfl ?_
  refine as_iald (pc := 12) X dX3_rate_12 ?_
  refine as_callV (ci := 3) (np := 2) (ix := 101) (pc := 13) X ct_X3_speaksTo (Cn := (RX3, TX3, 17)) rfl ⟨rfl, rfl⟩ aw_412 aw_414 aw_5 aw_415 aw_60 (by decide +kernel) (by decide) dX3_rate_13 ?_
  refine as_if_eq (pc := 16) X 31 dX3_rate_16 (by decide) (s_X3_rate_31 X) ?_
  refine as_iload_n (pc := 19) X dX3_rate_19 rfl ?_
  refine as_aload_n (pc := 20) X dX3_rate_20 rfl ?_
  refine as_getR (ci := 3) (j := 0) (pc := 21) X (Cn := RX3) (Tf := TX3) (N := 17) rfl rfl (by decide) iw_X3 aw_159 rfl dX3_rate_21 ?_
  refine as_getR (ci := 1) (j := 13) (pc := 24) X (Cn := RX1) (Tf := TX1) (N := 14) rfl rfl (by decide) iw_X1 aw_127 rfl dX3_rate_24 ?_
  refine as_iconst (pc := 27) X dX3_rate_27 (by decide) ?_
  refine as_iald (pc := 28) X dX3_rate_28 ?_
  refine as_iadd (pc := 29) X dX3_rate_29 ?_
  refine as_istore_n (pc := 30) X dX3_rate_30 rfl ?_ (by decide)
  exact s_X3_rate_31 X
theorem s_X3_rate {G : am_G} {bc bs : Nat} (X : am_Cx G cX3_rate RX3 "rate" rm_X3_rate none 5 bc bs true) (h : Nat) : am_S G h (h_X3_rate h) := by
  unfold h_X3_rate
  split
  · next e => rw [e]; exact s_X3_rate_0 X
  exact as_bad
theorem ct_X3_rate : am_Ct yX3_rate cX3_rate 5 none rm_X3_rate sp_X3_rate := am_met (own := RX3) (nm := "rate") (by decide) rfl rfl (Or.inl rfl) (fun _ _ => h_X3_rate) (fun _ _ _ X => s_X3_rate X) (fun _ _ _ _ h => h)
-- X1_countingFix
theorem dX1_countingFix_0 : decode cX1_countingFix 0 = .ok (.aload_n 0, 1) := by decide +kernel
theorem dX1_countingFix_1 : decode cX1_countingFix 1 = .ok (.getfield 40, 3) := by decide +kernel
theorem dX1_countingFix_4 : decode cX1_countingFix 4 = .ok (.iconst 1, 1) := by decide +kernel
theorem dX1_countingFix_5 : decode cX1_countingFix 5 = .ok (.isub, 1) := by decide +kernel
theorem dX1_countingFix_6 : decode cX1_countingFix 6 = .ok (.istore_n 2, 1) := by decide +kernel
theorem dX1_countingFix_7 : decode cX1_countingFix 7 = .ok (.iload_n 2, 1) := by decide +kernel
theorem dX1_countingFix_8 : decode cX1_countingFix 8 = .ok (.ifCond .lt 31, 3) := by decide +kernel
theorem dX1_countingFix_11 : decode cX1_countingFix 11 = .ok (.aload_n 0, 1) := by decide +kernel
theorem dX1_countingFix_12 : decode cX1_countingFix 12 = .ok (.getfield 46, 3) := by decide +kernel
theorem dX1_countingFix_15 : decode cX1_countingFix 15 = .ok (.iload_n 2, 1) := by decide +kernel
theorem dX1_countingFix_16 : decode cX1_countingFix 16 = .ok (.iaload, 1) := by decide +kernel
theorem dX1_countingFix_17 : decode cX1_countingFix 17 = .ok (.iload_n 1, 1) := by decide +kernel
theorem dX1_countingFix_18 : decode cX1_countingFix 18 = .ok (.if_icmp .ne 15, 3) := by decide +kernel
theorem dX1_countingFix_21 : decode cX1_countingFix 21 = .ok (.aload_n 0, 1) := by decide +kernel
theorem dX1_countingFix_22 : decode cX1_countingFix 22 = .ok (.getfield 43, 3) := by decide +kernel
theorem dX1_countingFix_25 : decode cX1_countingFix 25 = .ok (.iload_n 2, 1) := by decide +kernel
theorem dX1_countingFix_26 : decode cX1_countingFix 26 = .ok (.iaload, 1) := by decide +kernel
theorem dX1_countingFix_27 : decode cX1_countingFix 27 = .ok (.iconst 2, 1) := by decide +kernel
theorem dX1_countingFix_28 : decode cX1_countingFix 28 = .ok (.if_icmp .eq 5, 3) := by decide +kernel
theorem dX1_countingFix_31 : decode cX1_countingFix 31 = .ok (.iload_n 2, 1) := by decide +kernel
theorem dX1_countingFix_32 : decode cX1_countingFix 32 = .ok (.ireturn, 1) := by decide +kernel
theorem dX1_countingFix_33 : decode cX1_countingFix 33 = .ok (.iinc 2 (-1), 3) := by decide +kernel
theorem dX1_countingFix_36 : decode cX1_countingFix 36 = .ok (.goto (-29), 3) := by decide +kernel
theorem dX1_countingFix_39 : decode cX1_countingFix 39 = .ok (.iconst (-1), 1) := by decide +kernel
theorem dX1_countingFix_40 : decode cX1_countingFix 40 = .ok (.ireturn, 1) := by decide +kernel
def t_X1_countingFix_39 : am_T := tb_const (-1) <|
  tb_iret
def t_X1_countingFix_33 : am_T := tb_iinc 2 (-1) <|
  tb_head 7
def t_X1_countingFix_7 : am_T := tb_iload 2 <|
  tb_if (fun x => x < 0) (t_X1_countingFix_39) <|
  tb_aload 0 <|
  tb_getR 1 11 <|
  tb_iload 2 <|
  tb_iald <|
  tb_iload 1 <|
  tb_ic (fun x y => x ≠ y) (t_X1_countingFix_33) <|
  tb_aload 0 <|
  tb_getR 1 10 <|
  tb_iload 2 <|
  tb_iald <|
  tb_const 2 <|
  tb_ic (fun x y => x = y) (t_X1_countingFix_33) <|
  tb_iload 2 <|
  tb_iret
def t_X1_countingFix_0 : am_T := tb_aload 0 <|
  tb_getI 1 9 <|
  tb_const 1 <|
  tb_bin (fun x y => x - y) <|
  tb_istore 2 <|
  tb_head 7
def h_X1_countingFix : am_Hd := fun h => if h = 0 then t_X1_countingFix_0 else if h = 7 then t_X1_countingFix_7 else tb_bad
theorem h_X1_countingFix_0 : h_X1_countingFix 0 = t_X1_countingFix_0 := rfl
theorem h_X1_countingFix_7 : h_X1_countingFix 7 = t_X1_countingFix_7 := rfl
def rm_X1_countingFix : Room := { frames := 0, cells := 0, slots := 0, locals := 0 }
def sp_X1_countingFix : am_sp := fun as M Q => as.length ≤ 3 ∧ am_OK h_X1_countingFix Q 0 (am_in 3 as) M
theorem s_X1_countingFix_39 {G : am_G} {bc bs : Nat} (X : am_Cx G cX1_countingFix RX1 "countingFix" rm_X1_countingFix (some .int) 3 bc bs true) : am_S G 39 (t_X1_countingFix_39) := by
  unfold t_X1_countingFix_39
  refine as_iconst (pc := 39) X dX1_countingFix_39 (by decide) ?_
  exact as_iret (pc := 40) X ⟨rfl, rfl⟩ rfl dX1_countingFix_40
theorem s_X1_countingFix_33 {G : am_G} {bc bs : Nat} (X : am_Cx G cX1_countingFix RX1 "countingFix" rm_X1_countingFix (some .int) 3 bc bs true) : am_S G 33 (t_X1_countingFix_33) := by
  unfold t_X1_countingFix_33
  refine as_iinc (pc := 33) X dX1_countingFix_33 (by decide) (by decide) ?_
  exact as_goto (pc := 36) X 7 dX1_countingFix_36 (by decide) (as_head)
theorem s_X1_countingFix_7 {G : am_G} {bc bs : Nat} (X : am_Cx G cX1_countingFix RX1 "countingFix" rm_X1_countingFix (some .int) 3 bc bs true) : am_S G 7 (t_X1_countingFix_7) := by
  unfold t_X1_countingFix_7
  refine as_iload_n (pc := 7) X dX1_countingFix_7 rfl ?_
  refine as_if_lt (pc := 8) X 39 dX1_countingFix_8 (by decide) (s_X1_countingFix_39 X) ?_
  refine as_aload_n (pc := 11) X dX1_countingFix_11 rfl ?_
  refine as_getR (ci := 1) (j := 11) (pc := 12) X (Cn := RX1) (Tf := TX1) (N := 14) rfl rfl (by decide) iw_X1 aw_120 rfl dX1_countingFix_12 ?_
  refine as_iload_n (pc := 15) X dX1_countingFix_15 rfl ?_
  refine as_iald (pc := 16) X dX1_countingFix_16 ?_
  refine as_iload_n (pc := 17) X dX1_countingFix_17 rfl ?_
  refine as_ic_ne (pc := 18) X 33 dX1_countingFix_18 (by decide) (s_X1_countingFix_33 X) ?_
  refine as_aload_n (pc := 21) X dX1_countingFix_21 rfl ?_
  refine as_getR (ci := 1) (j := 10) (pc := 22) X (Cn := RX1) (Tf := TX1) (N := 14) rfl rfl (by decide) iw_X1 aw_117 rfl dX1_countingFix_22 ?_
  refine as_iload_n (pc := 25) X dX1_countingFix_25 rfl ?_
  refine as_iald (pc := 26) X dX1_countingFix_26 ?_
  refine as_iconst (pc := 27) X dX1_countingFix_27 (by decide) ?_
  refine as_ic_eq (pc := 28) X 33 dX1_countingFix_28 (by decide) (s_X1_countingFix_33 X) ?_
  refine as_iload_n (pc := 31) X dX1_countingFix_31 rfl ?_
  exact as_iret (pc := 32) X ⟨rfl, rfl⟩ rfl dX1_countingFix_32
theorem s_X1_countingFix_0 {G : am_G} {bc bs : Nat} (X : am_Cx G cX1_countingFix RX1 "countingFix" rm_X1_countingFix (some .int) 3 bc bs true) : am_S G 0 (t_X1_countingFix_0) := by
  unfold t_X1_countingFix_0
  refine as_aload_n (pc := 0) X dX1_countingFix_0 rfl ?_
  refine as_getI (ci := 1) (j := 9) (pc := 1) X (Cn := RX1) (Tf := TX1) (N := 14) rfl rfl (by decide) iw_X1 aw_113 rfl dX1_countingFix_1 ?_
  refine as_iconst (pc := 4) X dX1_countingFix_4 (by decide) ?_
  refine as_isub (pc := 5) X dX1_countingFix_5 ?_
  refine as_istore_n (pc := 6) X dX1_countingFix_6 rfl ?_ (by decide)
  exact as_head
theorem s_X1_countingFix {G : am_G} {bc bs : Nat} (X : am_Cx G cX1_countingFix RX1 "countingFix" rm_X1_countingFix (some .int) 3 bc bs true) (h : Nat) : am_S G h (h_X1_countingFix h) := by
  unfold h_X1_countingFix
  split
  · next e => rw [e]; exact s_X1_countingFix_0 X
  split
  · next e => rw [e]; exact s_X1_countingFix_7 X
  exact as_bad
theorem ct_X1_countingFix : am_Ct yX1_countingFix cX1_countingFix 3 (some .int) rm_X1_countingFix sp_X1_countingFix := am_met (own := RX1) (nm := "countingFix") (by decide) rfl rfl (Or.inr (Or.inl rfl)) (fun _ _ => h_X1_countingFix) (fun _ _ _ X => s_X1_countingFix X) (fun _ _ _ _ h => h)
-- X3_isInWindow
theorem dX3_isInWindow_0 : decode cX3_isInWindow 0 = .ok (.aload_n 0, 1) := by decide +kernel
theorem dX3_isInWindow_1 : decode cX3_isInWindow 1 = .ok (.iload_n 1, 1) := by decide +kernel
theorem dX3_isInWindow_2 : decode cX3_isInWindow 2 = .ok (.iload_n 2, 1) := by decide +kernel
theorem dX3_isInWindow_3 : decode cX3_isInWindow 3 = .ok (.invokevirtual 116, 3) := by decide +kernel
theorem dX3_isInWindow_6 : decode cX3_isInWindow 6 = .ok (.aload_n 0, 1) := by decide +kernel
theorem dX3_isInWindow_7 : decode cX3_isInWindow 7 = .ok (.getfield 12, 3) := by decide +kernel
theorem dX3_isInWindow_10 : decode cX3_isInWindow 10 = .ok (.getfield 105, 3) := by decide +kernel
theorem dX3_isInWindow_13 : decode cX3_isInWindow 13 = .ok (.iconst 0, 1) := by decide +kernel
theorem dX3_isInWindow_14 : decode cX3_isInWindow 14 = .ok (.iaload, 1) := by decide +kernel
theorem dX3_isInWindow_15 : decode cX3_isInWindow 15 = .ok (.if_icmp .gt 7, 3) := by decide +kernel
theorem dX3_isInWindow_18 : decode cX3_isInWindow 18 = .ok (.iconst 1, 1) := by decide +kernel
theorem dX3_isInWindow_19 : decode cX3_isInWindow 19 = .ok (.goto 4, 3) := by decide +kernel
theorem dX3_isInWindow_22 : decode cX3_isInWindow 22 = .ok (.iconst 0, 1) := by decide +kernel
theorem dX3_isInWindow_23 : decode cX3_isInWindow 23 = .ok (.ireturn, 1) := by decide +kernel
def t_X3_isInWindow_23 : am_T := tb_zret
def t_X3_isInWindow_22 : am_T := tb_const 0 <|
  t_X3_isInWindow_23
def t_X3_isInWindow_0 : am_T := tb_aload 0 <|
  tb_iload 1 <|
  tb_iload 2 <|
  tb_callV 3 sp_X3_gapOf 3 <|
  tb_aload 0 <|
  tb_getR 3 0 <|
  tb_getR 1 13 <|
  tb_const 0 <|
  tb_iald <|
  tb_ic (fun x y => y < x) (t_X3_isInWindow_22) <|
  tb_const 1 <|
  t_X3_isInWindow_23
def h_X3_isInWindow : am_Hd := fun h => if h = 0 then t_X3_isInWindow_0 else tb_bad
theorem h_X3_isInWindow_0 : h_X3_isInWindow 0 = t_X3_isInWindow_0 := rfl
def rm_X3_isInWindow : Room := { frames := 1, cells := 0, slots := 0, locals := 22 }
def sp_X3_isInWindow : am_sp := fun as M Q => as.length ≤ 3 ∧ am_OK h_X3_isInWindow Q 0 (am_in 3 as) M
theorem s_X3_isInWindow_23 {G : am_G} {bc bs : Nat} (X : am_Cx G cX3_isInWindow RX3 "isInWindow" rm_X3_isInWindow (some .boolean) 3 bc bs true) : am_S G 23 (t_X3_isInWindow_23) := by
  unfold t_X3_isInWindow_23
  exact as_zret (pc := 23) X ⟨rfl, rfl⟩ rfl dX3_isInWindow_23
theorem s_X3_isInWindow_22 {G : am_G} {bc bs : Nat} (X : am_Cx G cX3_isInWindow RX3 "isInWindow" rm_X3_isInWindow (some .boolean) 3 bc bs true) : am_S G 22 (t_X3_isInWindow_22) := by
  unfold t_X3_isInWindow_22
  refine as_iconst (pc := 22) X dX3_isInWindow_22 (by decide) ?_
  exact s_X3_isInWindow_23 X
theorem s_X3_isInWindow_0 {G : am_G} {bc bs : Nat} (X : am_Cx G cX3_isInWindow RX3 "isInWindow" rm_X3_isInWindow (some .boolean) 3 bc bs true) : am_S G 0 (t_X3_isInWindow_0) := by
  unfold t_X3_isInWindow_0
  refine as_aload_n (pc := 0) X dX3_isInWindow_0 rfl ?_
  refine as_iload_n (pc := 1) X dX3_isInWindow_1 rfl ?_
  refine as_iload_n (pc := 2) X dX3_isInWindow_2 rfl ?_
  refine as_callV (ci := 3) (np := 2) (ix := 116) (pc := 3) X ct_X3_gapOf (Cn := (RX3, TX3, 17)) rfl ⟨rfl, rfl⟩ aw_423 aw_424 aw_425 aw_426 aw_60 (by decide +kernel) (by decide) dX3_isInWindow_3 ?_
  refine as_aload_n (pc := 6) X dX3_isInWindow_6 rfl ?_
  refine as_getR (ci := 3) (j := 0) (pc := 7) X (Cn := RX3) (Tf := TX3) (N := 17) rfl rfl (by decide) iw_X3 aw_159 rfl dX3_isInWindow_7 ?_
  refine as_getR (ci := 1) (j := 13) (pc := 10) X (Cn := RX1) (Tf := TX1) (N := 14) rfl rfl (by decide) iw_X1 aw_127 rfl dX3_isInWindow_10 ?_
  refine as_iconst (pc := 13) X dX3_isInWindow_13 (by decide) ?_
  refine as_iald (pc := 14) X dX3_isInWindow_14 ?_
  refine as_ic_gt (pc := 15) X 22 dX3_isInWindow_15 (by decide) (s_X3_isInWindow_22 X) ?_
  refine as_iconst (pc := 18) X dX3_isInWindow_18 (by decide) ?_
  exact as_goto (pc := 19) X 23 dX3_isInWindow_19 (by decide) (s_X3_isInWindow_23 X)
theorem s_X3_isInWindow {G : am_G} {bc bs : Nat} (X : am_Cx G cX3_isInWindow RX3 "isInWindow" rm_X3_isInWindow (some .boolean) 3 bc bs true) (h : Nat) : am_S G h (h_X3_isInWindow h) := by
  unfold h_X3_isInWindow
  split
  · next e => rw [e]; exact s_X3_isInWindow_0 X
  exact as_bad
theorem ct_X3_isInWindow : am_Ct yX3_isInWindow cX3_isInWindow 3 (some .boolean) rm_X3_isInWindow sp_X3_isInWindow := am_met (own := RX3) (nm := "isInWindow") (by decide) rfl rfl (Or.inr (Or.inr (Or.inl rfl))) (fun _ _ => h_X3_isInWindow) (fun _ _ _ X => s_X3_isInWindow X) (fun _ _ _ _ h => h)
-- X3_choicesFor
theorem dX3_choicesFor_0 : decode cX3_choicesFor 0 = .ok (.iconst 0, 1) := by decide +kernel
theorem dX3_choicesFor_1 : decode cX3_choicesFor 1 = .ok (.istore_n 2, 1) := by decide +kernel
theorem dX3_choicesFor_2 : decode cX3_choicesFor 2 = .ok (.iconst 0, 1) := by decide +kernel
theorem dX3_choicesFor_3 : decode cX3_choicesFor 3 = .ok (.istore_n 3, 1) := by decide +kernel
theorem dX3_choicesFor_4 : decode cX3_choicesFor 4 = .ok (.iload_n 3, 1) := by decide +kernel
theorem dX3_choicesFor_5 : decode cX3_choicesFor 5 = .ok (.aload_n 0, 1) := by decide +kernel
theorem dX3_choicesFor_6 : decode cX3_choicesFor 6 = .ok (.getfield 22, 3) := by decide +kernel
theorem dX3_choicesFor_9 : decode cX3_choicesFor 9 = .ok (.iload_n 1, 1) := by decide +kernel
theorem dX3_choicesFor_10 : decode cX3_choicesFor 10 = .ok (.iaload, 1) := by decide +kernel
theorem dX3_choicesFor_11 : decode cX3_choicesFor 11 = .ok (.if_icmp .ge 34, 3) := by decide +kernel
theorem dX3_choicesFor_14 : decode cX3_choicesFor 14 = .ok (.aload_n 0, 1) := by decide +kernel
theorem dX3_choicesFor_15 : decode cX3_choicesFor 15 = .ok (.iload_n 1, 1) := by decide +kernel
theorem dX3_choicesFor_16 : decode cX3_choicesFor 16 = .ok (.aload_n 0, 1) := by decide +kernel
theorem dX3_choicesFor_17 : decode cX3_choicesFor 17 = .ok (.getfield 18, 3) := by decide +kernel
theorem dX3_choicesFor_20 : decode cX3_choicesFor 20 = .ok (.iload_n 3, 1) := by decide +kernel
theorem dX3_choicesFor_21 : decode cX3_choicesFor 21 = .ok (.iaload, 1) := by decide +kernel
theorem dX3_choicesFor_22 : decode cX3_choicesFor 22 = .ok (.invokevirtual 122, 3) := by decide +kernel
theorem dX3_choicesFor_25 : decode cX3_choicesFor 25 = .ok (.ifCond .eq 14, 3) := by decide +kernel
theorem dX3_choicesFor_28 : decode cX3_choicesFor 28 = .ok (.iload_n 2, 1) := by decide +kernel
theorem dX3_choicesFor_29 : decode cX3_choicesFor 29 = .ok (.iconst 1, 1) := by decide +kernel
theorem dX3_choicesFor_30 : decode cX3_choicesFor 30 = .ok (.aload_n 0, 1) := by decide +kernel
theorem dX3_choicesFor_31 : decode cX3_choicesFor 31 = .ok (.getfield 18, 3) := by decide +kernel
theorem dX3_choicesFor_34 : decode cX3_choicesFor 34 = .ok (.iload_n 3, 1) := by decide +kernel
theorem dX3_choicesFor_35 : decode cX3_choicesFor 35 = .ok (.iaload, 1) := by decide +kernel
theorem dX3_choicesFor_36 : decode cX3_choicesFor 36 = .ok (.ishl, 1) := by decide +kernel
theorem dX3_choicesFor_37 : decode cX3_choicesFor 37 = .ok (.ior, 1) := by decide +kernel
theorem dX3_choicesFor_38 : decode cX3_choicesFor 38 = .ok (.istore_n 2, 1) := by decide +kernel
theorem dX3_choicesFor_39 : decode cX3_choicesFor 39 = .ok (.iinc 3 1, 3) := by decide +kernel
theorem dX3_choicesFor_42 : decode cX3_choicesFor 42 = .ok (.goto (-38), 3) := by decide +kernel
theorem dX3_choicesFor_45 : decode cX3_choicesFor 45 = .ok (.iconst 0, 1) := by decide +kernel
theorem dX3_choicesFor_46 : decode cX3_choicesFor 46 = .ok (.istore_n 3, 1) := by decide +kernel
theorem dX3_choicesFor_47 : decode cX3_choicesFor 47 = .ok (.iload_n 3, 1) := by decide +kernel
theorem dX3_choicesFor_48 : decode cX3_choicesFor 48 = .ok (.aload_n 0, 1) := by decide +kernel
theorem dX3_choicesFor_49 : decode cX3_choicesFor 49 = .ok (.getfield 12, 3) := by decide +kernel
theorem dX3_choicesFor_52 : decode cX3_choicesFor 52 = .ok (.getfield 125, 3) := by decide +kernel
theorem dX3_choicesFor_55 : decode cX3_choicesFor 55 = .ok (.if_icmp .ge 51, 3) := by decide +kernel
theorem dX3_choicesFor_58 : decode cX3_choicesFor 58 = .ok (.aload_n 0, 1) := by decide +kernel
theorem dX3_choicesFor_59 : decode cX3_choicesFor 59 = .ok (.getfield 12, 3) := by decide +kernel
theorem dX3_choicesFor_62 : decode cX3_choicesFor 62 = .ok (.getfield 128, 3) := by decide +kernel
theorem dX3_choicesFor_65 : decode cX3_choicesFor 65 = .ok (.iload_n 3, 1) := by decide +kernel
theorem dX3_choicesFor_66 : decode cX3_choicesFor 66 = .ok (.iaload, 1) := by decide +kernel
theorem dX3_choicesFor_67 : decode cX3_choicesFor 67 = .ok (.iconst 2, 1) := by decide +kernel
theorem dX3_choicesFor_68 : decode cX3_choicesFor 68 = .ok (.if_icmp .ne 32, 3) := by decide +kernel
theorem dX3_choicesFor_71 : decode cX3_choicesFor 71 = .ok (.aload_n 0, 1) := by decide +kernel
theorem dX3_choicesFor_72 : decode cX3_choicesFor 72 = .ok (.getfield 12, 3) := by decide +kernel
theorem dX3_choicesFor_75 : decode cX3_choicesFor 75 = .ok (.getfield 131, 3) := by decide +kernel
theorem dX3_choicesFor_78 : decode cX3_choicesFor 78 = .ok (.iload_n 3, 1) := by decide +kernel
theorem dX3_choicesFor_79 : decode cX3_choicesFor 79 = .ok (.iaload, 1) := by decide +kernel
theorem dX3_choicesFor_80 : decode cX3_choicesFor 80 = .ok (.iload_n 1, 1) := by decide +kernel
theorem dX3_choicesFor_81 : decode cX3_choicesFor 81 = .ok (.if_icmp .ne 19, 3) := by decide +kernel
theorem dX3_choicesFor_84 : decode cX3_choicesFor 84 = .ok (.iload_n 2, 1) := by decide +kernel
theorem dX3_choicesFor_85 : decode cX3_choicesFor 85 = .ok (.iconst 1, 1) := by decide +kernel
theorem dX3_choicesFor_86 : decode cX3_choicesFor 86 = .ok (.aload_n 0, 1) := by decide +kernel
theorem dX3_choicesFor_87 : decode cX3_choicesFor 87 = .ok (.getfield 12, 3) := by decide +kernel
theorem dX3_choicesFor_90 : decode cX3_choicesFor 90 = .ok (.getfield 134, 3) := by decide +kernel
theorem dX3_choicesFor_93 : decode cX3_choicesFor 93 = .ok (.iload_n 3, 1) := by decide +kernel
theorem dX3_choicesFor_94 : decode cX3_choicesFor 94 = .ok (.iaload, 1) := by decide +kernel
theorem dX3_choicesFor_95 : decode cX3_choicesFor 95 = .ok (.ishl, 1) := by decide +kernel
theorem dX3_choicesFor_96 : decode cX3_choicesFor 96 = .ok (.iconst (-1), 1) := by decide +kernel
theorem dX3_choicesFor_97 : decode cX3_choicesFor 97 = .ok (.ixor, 1) := by decide +kernel
theorem dX3_choicesFor_98 : decode cX3_choicesFor 98 = .ok (.iand, 1) := by decide +kernel
theorem dX3_choicesFor_99 : decode cX3_choicesFor 99 = .ok (.istore_n 2, 1) := by decide +kernel
theorem dX3_choicesFor_100 : decode cX3_choicesFor 100 = .ok (.iinc 3 1, 3) := by decide +kernel
theorem dX3_choicesFor_103 : decode cX3_choicesFor 103 = .ok (.goto (-56), 3) := by decide +kernel
theorem dX3_choicesFor_106 : decode cX3_choicesFor 106 = .ok (.iload_n 2, 1) := by decide +kernel
theorem dX3_choicesFor_107 : decode cX3_choicesFor 107 = .ok (.ireturn, 1) := by decide +kernel
def t_X3_choicesFor_106 : am_T := tb_iload 2 <|
  tb_iret
def t_X3_choicesFor_100 : am_T := tb_iinc 3 1 <|
  tb_head 47
def t_X3_choicesFor_47 : am_T := tb_iload 3 <|
  tb_aload 0 <|
  tb_getR 3 0 <|
  tb_getI 1 9 <|
  tb_ic (fun x y => y ≤ x) (t_X3_choicesFor_106) <|
  tb_aload 0 <|
  tb_getR 3 0 <|
  tb_getR 1 10 <|
  tb_iload 3 <|
  tb_iald <|
  tb_const 2 <|
  tb_ic (fun x y => x ≠ y) (t_X3_choicesFor_100) <|
  tb_aload 0 <|
  tb_getR 3 0 <|
  tb_getR 1 11 <|
  tb_iload 3 <|
  tb_iald <|
  tb_iload 1 <|
  tb_ic (fun x y => x ≠ y) (t_X3_choicesFor_100) <|
  tb_iload 2 <|
  tb_const 1 <|
  tb_aload 0 <|
  tb_getR 3 0 <|
  tb_getR 1 12 <|
  tb_iload 3 <|
  tb_iald <|
  tb_bin (fun x y => x <<< (y &&& 31)) <|
  tb_const (-1) <|
  tb_bin (fun x y => x ^^^ y) <|
  tb_bin (fun x y => x &&& y) <|
  tb_istore 2 <|
  t_X3_choicesFor_100
def t_X3_choicesFor_45 : am_T := tb_const 0 <|
  tb_istore 3 <|
  tb_head 47
def t_X3_choicesFor_39 : am_T := tb_iinc 3 1 <|
  tb_head 4
def t_X3_choicesFor_4 : am_T := tb_iload 3 <|
  tb_aload 0 <|
  tb_getR 3 2 <|
  tb_iload 1 <|
  tb_iald <|
  tb_ic (fun x y => y ≤ x) (t_X3_choicesFor_45) <|
  tb_aload 0 <|
  tb_iload 1 <|
  tb_aload 0 <|
  tb_getR 3 1 <|
  tb_iload 3 <|
  tb_iald <|
  tb_callV 3 sp_X3_isInWindow 3 <|
  tb_if (fun x => x = 0) (t_X3_choicesFor_39) <|
  tb_iload 2 <|
  tb_const 1 <|
  tb_aload 0 <|
  tb_getR 3 1 <|
  tb_iload 3 <|
  tb_iald <|
  tb_bin (fun x y => x <<< (y &&& 31)) <|
  tb_bin (fun x y => x ||| y) <|
  tb_istore 2 <|
  t_X3_choicesFor_39
def t_X3_choicesFor_0 : am_T := tb_const 0 <|
  tb_istore 2 <|
  tb_const 0 <|
  tb_istore 3 <|
  tb_head 4
def h_X3_choicesFor : am_Hd := fun h => if h = 0 then t_X3_choicesFor_0 else if h = 4 then t_X3_choicesFor_4 else if h = 47 then t_X3_choicesFor_47 else tb_bad
theorem h_X3_choicesFor_0 : h_X3_choicesFor 0 = t_X3_choicesFor_0 := rfl
theorem h_X3_choicesFor_4 : h_X3_choicesFor 4 = t_X3_choicesFor_4 := rfl
theorem h_X3_choicesFor_47 : h_X3_choicesFor 47 = t_X3_choicesFor_47 := rfl
def rm_X3_choicesFor : Room := { frames := 2, cells := 0, slots := 0, locals := 44 }
def sp_X3_choicesFor : am_sp := fun as M Q => as.length ≤ 4 ∧ am_OK h_X3_choicesFor Q 0 (am_in 4 as) M
theorem s_X3_choicesFor_106 {G : am_G} {bc bs : Nat} (X : am_Cx G cX3_choicesFor RX3 "choicesFor" rm_X3_choicesFor (some .int) 4 bc bs true) : am_S G 106 (t_X3_choicesFor_106) := by
  unfold t_X3_choicesFor_106
  refine as_iload_n (pc := 106) X dX3_choicesFor_106 rfl ?_
  exact as_iret (pc := 107) X ⟨rfl, rfl⟩ rfl dX3_choicesFor_107
theorem s_X3_choicesFor_100 {G : am_G} {bc bs : Nat} (X : am_Cx G cX3_choicesFor RX3 "choicesFor" rm_X3_choicesFor (some .int) 4 bc bs true) : am_S G 100 (t_X3_choicesFor_100) := by
  unfold t_X3_choicesFor_100
  refine as_iinc (pc := 100) X dX3_choicesFor_100 (by decide) (by decide) ?_
  exact as_goto (pc := 103) X 47 dX3_choicesFor_103 (by decide) (as_head)
theorem s_X3_choicesFor_47 {G : am_G} {bc bs : Nat} (X : am_Cx G cX3_choicesFor RX3 "choicesFor" rm_X3_choicesFor (some .int) 4 bc bs true) : am_S G 47 (t_X3_choicesFor_47) := by
  unfold t_X3_choicesFor_47
  refine as_iload_n (pc := 47) X dX3_choicesFor_47 rfl ?_
  refine as_aload_n (pc := 48) X dX3_choicesFor_48 rfl ?_
  refine as_getR (ci := 3) (j := 0) (pc := 49) X (Cn := RX3) (Tf := TX3) (N := 17) rfl rfl (by decide) iw_X3 aw_159 rfl dX3_choicesFor_49 ?_
  refine as_getI (ci := 1) (j := 9) (pc := 52) X (Cn := RX1) (Tf := TX1) (N := 14) rfl rfl (by decide) iw_X1 aw_116 rfl dX3_choicesFor_52 ?_
  refine as_ic_ge (pc := 55) X 106 dX3_choicesFor_55 (by decide) (s_X3_choicesFor_106 X) ?_
  refine as_aload_n (pc := 58) X dX3_choicesFor_58 rfl ?_
  refine as_getR (ci := 3) (j := 0) (pc := 59) X (Cn := RX3) (Tf := TX3) (N := 17) rfl rfl (by decide) iw_X3 aw_159 rfl dX3_choicesFor_59 ?_
  refine as_getR (ci := 1) (j := 10) (pc := 62) X (Cn := RX1) (Tf := TX1) (N := 14) rfl rfl (by decide) iw_X1 aw_118 rfl dX3_choicesFor_62 ?_
  refine as_iload_n (pc := 65) X dX3_choicesFor_65 rfl ?_
  refine as_iald (pc := 66) X dX3_choicesFor_66 ?_
  refine as_iconst (pc := 67) X dX3_choicesFor_67 (by decide) ?_
  refine as_ic_ne (pc := 68) X 100 dX3_choicesFor_68 (by decide) (s_X3_choicesFor_100 X) ?_
  refine as_aload_n (pc := 71) X dX3_choicesFor_71 rfl ?_
  refine as_getR (ci := 3) (j := 0) (pc := 72) X (Cn := RX3) (Tf := TX3) (N := 17) rfl rfl (by decide) iw_X3 aw_159 rfl dX3_choicesFor_72 ?_
  refine as_getR (ci := 1) (j := 11) (pc := 75) X (Cn := RX1) (Tf := TX1) (N := 14) rfl rfl (by decide) iw_X1 aw_121 rfl dX3_choicesFor_75 ?_
  refine as_iload_n (pc := 78) X dX3_choicesFor_78 rfl ?_
  refine as_iald (pc := 79) X dX3_choicesFor_79 ?_
  refine as_iload_n (pc := 80) X dX3_choicesFor_80 rfl ?_
  refine as_ic_ne (pc := 81) X 100 dX3_choicesFor_81 (by decide) (s_X3_choicesFor_100 X) ?_
  refine as_iload_n (pc := 84) X dX3_choicesFor_84 rfl ?_
  refine as_iconst (pc := 85) X dX3_choicesFor_85 (by decide) ?_
  refine as_aload_n (pc := 86) X dX3_choicesFor_86 rfl ?_
  refine as_getR (ci := 3) (j := 0) (pc := 87) X (Cn := RX3) (Tf := TX3) (N := 17) rfl rfl (by decide) iw_X3 aw_159 rfl dX3_choicesFor_87 ?_
  refine as_getR (ci := 1) (j := 12) (pc := 90) X (Cn := RX1) (Tf := TX1) (N := 14) rfl rfl (by decide) iw_X1 aw_124 rfl dX3_choicesFor_90 ?_
  refine as_iload_n (pc := 93) X dX3_choicesFor_93 rfl ?_
  refine as_iald (pc := 94) X dX3_choicesFor_94 ?_
  refine as_ishl (pc := 95) X dX3_choicesFor_95 ?_
  refine as_iconst (pc := 96) X dX3_choicesFor_96 (by decide) ?_
  refine as_ixor (pc := 97) X dX3_choicesFor_97 ?_
  refine as_iand (pc := 98) X dX3_choicesFor_98 ?_
  refine as_istore_n (pc := 99) X dX3_choicesFor_99 rfl ?_ (by decide)
  exact s_X3_choicesFor_100 X
theorem s_X3_choicesFor_45 {G : am_G} {bc bs : Nat} (X : am_Cx G cX3_choicesFor RX3 "choicesFor" rm_X3_choicesFor (some .int) 4 bc bs true) : am_S G 45 (t_X3_choicesFor_45) := by
  unfold t_X3_choicesFor_45
  refine as_iconst (pc := 45) X dX3_choicesFor_45 (by decide) ?_
  refine as_istore_n (pc := 46) X dX3_choicesFor_46 rfl ?_ (by decide)
  exact as_head
theorem s_X3_choicesFor_39 {G : am_G} {bc bs : Nat} (X : am_Cx G cX3_choicesFor RX3 "choicesFor" rm_X3_choicesFor (some .int) 4 bc bs true) : am_S G 39 (t_X3_choicesFor_39) := by
  unfold t_X3_choicesFor_39
  refine as_iinc (pc := 39) X dX3_choicesFor_39 (by decide) (by decide) ?_
  exact as_goto (pc := 42) X 4 dX3_choicesFor_42 (by decide) (as_head)
theorem s_X3_choicesFor_4 {G : am_G} {bc bs : Nat} (X : am_Cx G cX3_choicesFor RX3 "choicesFor" rm_X3_choicesFor (some .int) 4 bc bs true) : am_S G 4 (t_X3_choicesFor_4) := by
  unfold t_X3_choicesFor_4
  refine as_iload_n (pc := 4) X dX3_choicesFor_4 rfl ?_
  refine as_aload_n (pc := 5) X dX3_choicesFor_5 rfl ?_
  refine as_getR (ci := 3) (j := 2) (pc := 6) X (Cn := RX3) (Tf := TX3) (N := 17) rfl rfl (by decide) iw_X3 aw_163 rfl dX3_choicesFor_6 ?_
  refine as_iload_n (pc := 9) X dX3_choicesFor_9 rfl ?_
  refine as_iald (pc := 10) X dX3_choicesFor_10 ?_
  refine as_ic_ge (pc := 11) X 45 dX3_choicesFor_11 (by decide) (s_X3_choicesFor_45 X) ?_
  refine as_aload_n (pc := 14) X dX3_choicesFor_14 rfl ?_
  refine as_iload_n (pc := 15) X dX3_choicesFor_15 rfl ?_
  refine as_aload_n (pc := 16) X dX3_choicesFor_16 rfl ?_
  refine as_getR (ci := 3) (j := 1) (pc := 17) X (Cn := RX3) (Tf := TX3) (N := 17) rfl rfl (by decide) iw_X3 aw_161 rfl dX3_choicesFor_17 ?_
  refine as_iload_n (pc := 20) X dX3_choicesFor_20 rfl ?_
  refine as_iald (pc := 21) X dX3_choicesFor_21 ?_
  refine as_callV (ci := 3) (np := 2) (ix := 122) (pc := 22) X ct_X3_isInWindow (Cn := (RX3, TX3, 17)) rfl ⟨rfl, rfl⟩ aw_435 aw_437 aw_7 aw_438 aw_60 (by decide +kernel) (by decide) dX3_choicesFor_22 ?_
  refine as_if_eq (pc := 25) X 39 dX3_choicesFor_25 (by decide) (s_X3_choicesFor_39 X) ?_
  refine as_iload_n (pc := 28) X dX3_choicesFor_28 rfl ?_
  refine as_iconst (pc := 29) X dX3_choicesFor_29 (by decide) ?_
  refine as_aload_n (pc := 30) X dX3_choicesFor_30 rfl ?_
  refine as_getR (ci := 3) (j := 1) (pc := 31) X (Cn := RX3) (Tf := TX3) (N := 17) rfl rfl (by decide) iw_X3 aw_161 rfl dX3_choicesFor_31 ?_
  refine as_iload_n (pc := 34) X dX3_choicesFor_34 rfl ?_
  refine as_iald (pc := 35) X dX3_choicesFor_35 ?_
  refine as_ishl (pc := 36) X dX3_choicesFor_36 ?_
  refine as_ior (pc := 37) X dX3_choicesFor_37 ?_
  refine as_istore_n (pc := 38) X dX3_choicesFor_38 rfl ?_ (by decide)
  exact s_X3_choicesFor_39 X
theorem s_X3_choicesFor_0 {G : am_G} {bc bs : Nat} (X : am_Cx G cX3_choicesFor RX3 "choicesFor" rm_X3_choicesFor (some .int) 4 bc bs true) : am_S G 0 (t_X3_choicesFor_0) := by
  unfold t_X3_choicesFor_0
  refine as_iconst (pc := 0) X dX3_choicesFor_0 (by decide) ?_
  refine as_istore_n (pc := 1) X dX3_choicesFor_1 rfl ?_ (by decide)
  refine as_iconst (pc := 2) X dX3_choicesFor_2 (by decide) ?_
  refine as_istore_n (pc := 3) X dX3_choicesFor_3 rfl ?_ (by decide)
  exact as_head
theorem s_X3_choicesFor {G : am_G} {bc bs : Nat} (X : am_Cx G cX3_choicesFor RX3 "choicesFor" rm_X3_choicesFor (some .int) 4 bc bs true) (h : Nat) : am_S G h (h_X3_choicesFor h) := by
  unfold h_X3_choicesFor
  split
  · next e => rw [e]; exact s_X3_choicesFor_0 X
  split
  · next e => rw [e]; exact s_X3_choicesFor_4 X
  split
  · next e => rw [e]; exact s_X3_choicesFor_47 X
  exact as_bad
theorem ct_X3_choicesFor : am_Ct yX3_choicesFor cX3_choicesFor 4 (some .int) rm_X3_choicesFor sp_X3_choicesFor := am_met (own := RX3) (nm := "choicesFor") (by decide) rfl rfl (Or.inr (Or.inl rfl)) (fun _ _ => h_X3_choicesFor) (fun _ _ _ X => s_X3_choicesFor X) (fun _ _ _ _ h => h)
-- X3_scoreFor
theorem dX3_scoreFor_0 : decode cX3_scoreFor 0 = .ok (.aload_n 0, 1) := by decide +kernel
theorem dX3_scoreFor_1 : decode cX3_scoreFor 1 = .ok (.getfield 28, 3) := by decide +kernel
theorem dX3_scoreFor_4 : decode cX3_scoreFor 4 = .ok (.iload_n 1, 1) := by decide +kernel
theorem dX3_scoreFor_5 : decode cX3_scoreFor 5 = .ok (.bipush 30, 2) := by decide +kernel
theorem dX3_scoreFor_7 : decode cX3_scoreFor 7 = .ok (.imul, 1) := by decide +kernel
theorem dX3_scoreFor_8 : decode cX3_scoreFor 8 = .ok (.iload_n 2, 1) := by decide +kernel
theorem dX3_scoreFor_9 : decode cX3_scoreFor 9 = .ok (.iadd, 1) := by decide +kernel
theorem dX3_scoreFor_10 : decode cX3_scoreFor 10 = .ok (.iaload, 1) := by decide +kernel
theorem dX3_scoreFor_11 : decode cX3_scoreFor 11 = .ok (.ireturn, 1) := by decide +kernel
def t_X3_scoreFor_0 : am_T := tb_aload 0 <|
  tb_getR 3 4 <|
  tb_iload 1 <|
  tb_const 30 <|
  tb_bin (fun x y => x * y) <|
  tb_iload 2 <|
  tb_bin (fun x y => x + y) <|
  tb_iald <|
  tb_iret
def h_X3_scoreFor : am_Hd := fun h => if h = 0 then t_X3_scoreFor_0 else tb_bad
theorem h_X3_scoreFor_0 : h_X3_scoreFor 0 = t_X3_scoreFor_0 := rfl
def rm_X3_scoreFor : Room := { frames := 0, cells := 0, slots := 0, locals := 0 }
def sp_X3_scoreFor : am_sp := fun as M Q => as.length ≤ 3 ∧ am_OK h_X3_scoreFor Q 0 (am_in 3 as) M
theorem s_X3_scoreFor_0 {G : am_G} {bc bs : Nat} (X : am_Cx G cX3_scoreFor RX3 "scoreFor" rm_X3_scoreFor (some .int) 3 bc bs true) : am_S G 0 (t_X3_scoreFor_0) := by
  unfold t_X3_scoreFor_0
  refine as_aload_n (pc := 0) X dX3_scoreFor_0 rfl ?_
  refine as_getR (ci := 3) (j := 4) (pc := 1) X (Cn := RX3) (Tf := TX3) (N := 17) rfl rfl (by decide) iw_X3 aw_167 rfl dX3_scoreFor_1 ?_
  refine as_iload_n (pc := 4) X dX3_scoreFor_4 rfl ?_
  refine as_bipush (pc := 5) X dX3_scoreFor_5 (by decide) ?_
  refine as_imul (pc := 7) X dX3_scoreFor_7 ?_
  refine as_iload_n (pc := 8) X dX3_scoreFor_8 rfl ?_
  refine as_iadd (pc := 9) X dX3_scoreFor_9 ?_
  refine as_iald (pc := 10) X dX3_scoreFor_10 ?_
  exact as_iret (pc := 11) X ⟨rfl, rfl⟩ rfl dX3_scoreFor_11
theorem s_X3_scoreFor {G : am_G} {bc bs : Nat} (X : am_Cx G cX3_scoreFor RX3 "scoreFor" rm_X3_scoreFor (some .int) 3 bc bs true) (h : Nat) : am_S G h (h_X3_scoreFor h) := by
  unfold h_X3_scoreFor
  split
  · next e => rw [e]; exact s_X3_scoreFor_0 X
  exact as_bad
theorem ct_X3_scoreFor : am_Ct yX3_scoreFor cX3_scoreFor 3 (some .int) rm_X3_scoreFor sp_X3_scoreFor := am_met (own := RX3) (nm := "scoreFor") (by decide) rfl rfl (Or.inr (Or.inl rfl)) (fun _ _ => h_X3_scoreFor) (fun _ _ _ X => s_X3_scoreFor X) (fun _ _ _ _ h => h)
-- X3_bestOf
theorem dX3_bestOf_0 : decode cX3_bestOf 0 = .ok (.iconst (-1), 1) := by decide +kernel
theorem dX3_bestOf_1 : decode cX3_bestOf 1 = .ok (.istore_n 3, 1) := by decide +kernel
theorem dX3_bestOf_2 : decode cX3_bestOf 2 = .ok (.iconst 0, 1) := by decide +kernel
theorem dX3_bestOf_3 : decode cX3_bestOf 3 = .ok (.istore 4, 2) := by decide +kernel
theorem dX3_bestOf_5 : decode cX3_bestOf 5 = .ok (.iload 4, 2) := by decide +kernel
theorem dX3_bestOf_7 : decode cX3_bestOf 7 = .ok (.aload_n 0, 1) := by decide +kernel
theorem dX3_bestOf_8 : decode cX3_bestOf 8 = .ok (.getfield 22, 3) := by decide +kernel
theorem dX3_bestOf_11 : decode cX3_bestOf 11 = .ok (.iload_n 2, 1) := by decide +kernel
theorem dX3_bestOf_12 : decode cX3_bestOf 12 = .ok (.iaload, 1) := by decide +kernel
theorem dX3_bestOf_13 : decode cX3_bestOf 13 = .ok (.if_icmp .ge 51, 3) := by decide +kernel
theorem dX3_bestOf_16 : decode cX3_bestOf 16 = .ok (.aload_n 0, 1) := by decide +kernel
theorem dX3_bestOf_17 : decode cX3_bestOf 17 = .ok (.getfield 18, 3) := by decide +kernel
theorem dX3_bestOf_20 : decode cX3_bestOf 20 = .ok (.iload 4, 2) := by decide +kernel
theorem dX3_bestOf_22 : decode cX3_bestOf 22 = .ok (.iaload, 1) := by decide +kernel
theorem dX3_bestOf_23 : decode cX3_bestOf 23 = .ok (.istore 5, 2) := by decide +kernel
theorem dX3_bestOf_25 : decode cX3_bestOf 25 = .ok (.iload_n 1, 1) := by decide +kernel
theorem dX3_bestOf_26 : decode cX3_bestOf 26 = .ok (.iload 5, 2) := by decide +kernel
theorem dX3_bestOf_28 : decode cX3_bestOf 28 = .ok (.invokestatic 119, 3) := by decide +kernel
theorem dX3_bestOf_31 : decode cX3_bestOf 31 = .ok (.ifCond .eq 27, 3) := by decide +kernel
theorem dX3_bestOf_34 : decode cX3_bestOf 34 = .ok (.iload_n 3, 1) := by decide +kernel
theorem dX3_bestOf_35 : decode cX3_bestOf 35 = .ok (.iconst (-1), 1) := by decide +kernel
theorem dX3_bestOf_36 : decode cX3_bestOf 36 = .ok (.if_icmp .eq 19, 3) := by decide +kernel
theorem dX3_bestOf_39 : decode cX3_bestOf 39 = .ok (.aload_n 0, 1) := by decide +kernel
theorem dX3_bestOf_40 : decode cX3_bestOf 40 = .ok (.iload_n 2, 1) := by decide +kernel
theorem dX3_bestOf_41 : decode cX3_bestOf 41 = .ok (.iload 5, 2) := by decide +kernel
theorem dX3_bestOf_43 : decode cX3_bestOf 43 = .ok (.invokevirtual 137, 3) := by decide +kernel
theorem dX3_bestOf_46 : decode cX3_bestOf 46 = .ok (.aload_n 0, 1) := by decide +kernel
theorem dX3_bestOf_47 : decode cX3_bestOf 47 = .ok (.iload_n 2, 1) := by decide +kernel
theorem dX3_bestOf_48 : decode cX3_bestOf 48 = .ok (.iload_n 3, 1) := by decide +kernel
theorem dX3_bestOf_49 : decode cX3_bestOf 49 = .ok (.invokevirtual 137, 3) := by decide +kernel
theorem dX3_bestOf_52 : decode cX3_bestOf 52 = .ok (.if_icmp .lt 6, 3) := by decide +kernel
theorem dX3_bestOf_55 : decode cX3_bestOf 55 = .ok (.iload 5, 2) := by decide +kernel
theorem dX3_bestOf_57 : decode cX3_bestOf 57 = .ok (.istore_n 3, 1) := by decide +kernel
theorem dX3_bestOf_58 : decode cX3_bestOf 58 = .ok (.iinc 4 1, 3) := by decide +kernel
theorem dX3_bestOf_61 : decode cX3_bestOf 61 = .ok (.goto (-56), 3) := by decide +kernel
theorem dX3_bestOf_64 : decode cX3_bestOf 64 = .ok (.iload_n 3, 1) := by decide +kernel
theorem dX3_bestOf_65 : decode cX3_bestOf 65 = .ok (.ireturn, 1) := by decide +kernel
def t_X3_bestOf_64 : am_T := tb_iload 3 <|
  tb_iret
def t_X3_bestOf_58 : am_T := tb_iinc 4 1 <|
  tb_head 5
def t_X3_bestOf_55 : am_T := tb_iload 5 <|
  tb_istore 3 <|
  t_X3_bestOf_58
def t_X3_bestOf_5 : am_T := tb_iload 4 <|
  tb_aload 0 <|
  tb_getR 3 2 <|
  tb_iload 2 <|
  tb_iald <|
  tb_ic (fun x y => y ≤ x) (t_X3_bestOf_64) <|
  tb_aload 0 <|
  tb_getR 3 1 <|
  tb_iload 4 <|
  tb_iald <|
  tb_istore 5 <|
  tb_iload 1 <|
  tb_iload 5 <|
  tb_callS sp_X4_isIn 2 <|
  tb_if (fun x => x = 0) (t_X3_bestOf_58) <|
  tb_iload 3 <|
  tb_const (-1) <|
  tb_ic (fun x y => x = y) (t_X3_bestOf_55) <|
  tb_aload 0 <|
  tb_iload 2 <|
  tb_iload 5 <|
  tb_callV 3 sp_X3_scoreFor 3 <|
  tb_aload 0 <|
  tb_iload 2 <|
  tb_iload 3 <|
  tb_callV 3 sp_X3_scoreFor 3 <|
  tb_ic (fun x y => x < y) (t_X3_bestOf_58) <|
  t_X3_bestOf_55
def t_X3_bestOf_0 : am_T := tb_const (-1) <|
  tb_istore 3 <|
  tb_const 0 <|
  tb_istore 4 <|
  tb_head 5
def h_X3_bestOf : am_Hd := fun h => if h = 0 then t_X3_bestOf_0 else if h = 5 then t_X3_bestOf_5 else tb_bad
theorem h_X3_bestOf_0 : h_X3_bestOf 0 = t_X3_bestOf_0 := rfl
theorem h_X3_bestOf_5 : h_X3_bestOf 5 = t_X3_bestOf_5 := rfl
def rm_X3_bestOf : Room := { frames := 1, cells := 0, slots := 0, locals := 22 }
def sp_X3_bestOf : am_sp := fun as M Q => as.length ≤ 6 ∧ am_OK h_X3_bestOf Q 0 (am_in 6 as) M
theorem s_X3_bestOf_64 {G : am_G} {bc bs : Nat} (X : am_Cx G cX3_bestOf RX3 "bestOf" rm_X3_bestOf (some .int) 6 bc bs true) : am_S G 64 (t_X3_bestOf_64) := by
  unfold t_X3_bestOf_64
  refine as_iload_n (pc := 64) X dX3_bestOf_64 rfl ?_
  exact as_iret (pc := 65) X ⟨rfl, rfl⟩ rfl dX3_bestOf_65
theorem s_X3_bestOf_58 {G : am_G} {bc bs : Nat} (X : am_Cx G cX3_bestOf RX3 "bestOf" rm_X3_bestOf (some .int) 6 bc bs true) : am_S G 58 (t_X3_bestOf_58) := by
  unfold t_X3_bestOf_58
  refine as_iinc (pc := 58) X dX3_bestOf_58 (by decide) (by decide) ?_
  exact as_goto (pc := 61) X 5 dX3_bestOf_61 (by decide) (as_head)
theorem s_X3_bestOf_55 {G : am_G} {bc bs : Nat} (X : am_Cx G cX3_bestOf RX3 "bestOf" rm_X3_bestOf (some .int) 6 bc bs true) : am_S G 55 (t_X3_bestOf_55) := by
  unfold t_X3_bestOf_55
  refine as_iload (pc := 55) X dX3_bestOf_55 ?_
  refine as_istore_n (pc := 57) X dX3_bestOf_57 rfl ?_ (by decide)
  exact s_X3_bestOf_58 X
theorem s_X3_bestOf_5 {G : am_G} {bc bs : Nat} (X : am_Cx G cX3_bestOf RX3 "bestOf" rm_X3_bestOf (some .int) 6 bc bs true) : am_S G 5 (t_X3_bestOf_5) := by
  unfold t_X3_bestOf_5
  refine as_iload (pc := 5) X dX3_bestOf_5 ?_
  refine as_aload_n (pc := 7) X dX3_bestOf_7 rfl ?_
  refine as_getR (ci := 3) (j := 2) (pc := 8) X (Cn := RX3) (Tf := TX3) (N := 17) rfl rfl (by decide) iw_X3 aw_163 rfl dX3_bestOf_8 ?_
  refine as_iload_n (pc := 11) X dX3_bestOf_11 rfl ?_
  refine as_iald (pc := 12) X dX3_bestOf_12 ?_
  refine as_ic_ge (pc := 13) X 64 dX3_bestOf_13 (by decide) (s_X3_bestOf_64 X) ?_
  refine as_aload_n (pc := 16) X dX3_bestOf_16 rfl ?_
  refine as_getR (ci := 3) (j := 1) (pc := 17) X (Cn := RX3) (Tf := TX3) (N := 17) rfl rfl (by decide) iw_X3 aw_161 rfl dX3_bestOf_17 ?_
  refine as_iload (pc := 20) X dX3_bestOf_20 ?_
  refine as_iald (pc := 22) X dX3_bestOf_22 ?_
  refine as_istore (pc := 23) X dX3_bestOf_23 ?_ (by decide)
  refine as_iload_n (pc := 25) X dX3_bestOf_25 rfl ?_
  refine as_iload (pc := 26) X dX3_bestOf_26 ?_
  refine as_callSN (np := 2) (ix := 119) (pc := 28) X ct_X4_isIn ⟨rfl, rfl⟩ (host := RX4) (by simp [am_NW]) aw_406 aw_407 aw_59 (by decide +kernel) (by decide) dX3_bestOf_28 ?_
  refine as_if_eq (pc := 31) X 58 dX3_bestOf_31 (by decide) (s_X3_bestOf_58 X) ?_
  refine as_iload_n (pc := 34) X dX3_bestOf_34 rfl ?_
  refine as_iconst (pc := 35) X dX3_bestOf_35 (by decide) ?_
  refine as_ic_eq (pc := 36) X 55 dX3_bestOf_36 (by decide) (s_X3_bestOf_55 X) ?_
  refine as_aload_n (pc := 39) X dX3_bestOf_39 rfl ?_
  refine as_iload_n (pc := 40) X dX3_bestOf_40 rfl ?_
  refine as_iload (pc := 41) X dX3_bestOf_41 ?_
  refine as_callV (ci := 3) (np := 2) (ix := 137) (pc := 43) X ct_X3_scoreFor (Cn := (RX3, TX3, 17)) rfl ⟨rfl, rfl⟩ aw_443 aw_444 aw_445 aw_446 aw_60 (by decide +kernel) (by decide) dX3_bestOf_43 ?_
  refine as_aload_n (pc := 46) X dX3_bestOf_46 rfl ?_
  refine as_iload_n (pc := 47) X dX3_bestOf_47 rfl ?_
  refine as_iload_n (pc := 48) X dX3_bestOf_48 rfl ?_
  refine as_callV (ci := 3) (np := 2) (ix := 137) (pc := 49) X ct_X3_scoreFor (Cn := (RX3, TX3, 17)) rfl ⟨rfl, rfl⟩ aw_443 aw_444 aw_445 aw_446 aw_60 (by decide +kernel) (by decide) dX3_bestOf_49 ?_
  refine as_ic_lt (pc := 52) X 58 dX3_bestOf_52 (by decide) (s_X3_bestOf_58 X) ?_
  exact s_X3_bestOf_55 X
theorem s_X3_bestOf_0 {G : am_G} {bc bs : Nat} (X : am_Cx G cX3_bestOf RX3 "bestOf" rm_X3_bestOf (some .int) 6 bc bs true) : am_S G 0 (t_X3_bestOf_0) := by
  unfold t_X3_bestOf_0
  refine as_iconst (pc := 0) X dX3_bestOf_0 (by decide) ?_
  refine as_istore_n (pc := 1) X dX3_bestOf_1 rfl ?_ (by decide)
  refine as_iconst (pc := 2) X dX3_bestOf_2 (by decide) ?_
  refine as_istore (pc := 3) X dX3_bestOf_3 ?_ (by decide)
  exact as_head
theorem s_X3_bestOf {G : am_G} {bc bs : Nat} (X : am_Cx G cX3_bestOf RX3 "bestOf" rm_X3_bestOf (some .int) 6 bc bs true) (h : Nat) : am_S G h (h_X3_bestOf h) := by
  unfold h_X3_bestOf
  split
  · next e => rw [e]; exact s_X3_bestOf_0 X
  split
  · next e => rw [e]; exact s_X3_bestOf_5 X
  exact as_bad
theorem ct_X3_bestOf : am_Ct yX3_bestOf cX3_bestOf 6 (some .int) rm_X3_bestOf sp_X3_bestOf := am_met (own := RX3) (nm := "bestOf") (by decide) rfl rfl (Or.inr (Or.inl rfl)) (fun _ _ => h_X3_bestOf) (fun _ _ _ X => s_X3_bestOf X) (fun _ _ _ _ h => h)
-- X3_rivalsFor
theorem dX3_rivalsFor_0 : decode cX3_rivalsFor 0 = .ok (.aload_n 0, 1) := by decide +kernel
theorem dX3_rivalsFor_1 : decode cX3_rivalsFor 1 = .ok (.getfield 37, 3) := by decide +kernel
theorem dX3_rivalsFor_4 : decode cX3_rivalsFor 4 = .ok (.iload_n 1, 1) := by decide +kernel
theorem dX3_rivalsFor_5 : decode cX3_rivalsFor 5 = .ok (.iaload, 1) := by decide +kernel
theorem dX3_rivalsFor_6 : decode cX3_rivalsFor 6 = .ok (.istore_n 2, 1) := by decide +kernel
theorem dX3_rivalsFor_7 : decode cX3_rivalsFor 7 = .ok (.iload_n 2, 1) := by decide +kernel
theorem dX3_rivalsFor_8 : decode cX3_rivalsFor 8 = .ok (.iconst (-1), 1) := by decide +kernel
theorem dX3_rivalsFor_9 : decode cX3_rivalsFor 9 = .ok (.if_icmp .eq 20, 3) := by decide +kernel
theorem dX3_rivalsFor_12 : decode cX3_rivalsFor 12 = .ok (.aload_n 0, 1) := by decide +kernel
theorem dX3_rivalsFor_13 : decode cX3_rivalsFor 13 = .ok (.iload_n 1, 1) := by decide +kernel
theorem dX3_rivalsFor_14 : decode cX3_rivalsFor 14 = .ok (.aload_n 0, 1) := by decide +kernel
theorem dX3_rivalsFor_15 : decode cX3_rivalsFor 15 = .ok (.getfield 12, 3) := by decide +kernel
theorem dX3_rivalsFor_18 : decode cX3_rivalsFor 18 = .ok (.getfield 98, 3) := by decide +kernel
theorem dX3_rivalsFor_21 : decode cX3_rivalsFor 21 = .ok (.iload_n 2, 1) := by decide +kernel
theorem dX3_rivalsFor_22 : decode cX3_rivalsFor 22 = .ok (.iaload, 1) := by decide +kernel
theorem dX3_rivalsFor_23 : decode cX3_rivalsFor 23 = .ok (.invokevirtual 101, 3) := by decide +kernel
theorem dX3_rivalsFor_26 : decode cX3_rivalsFor 26 = .ok (.ifCond .ne 5, 3) := by decide +kernel
theorem dX3_rivalsFor_29 : decode cX3_rivalsFor 29 = .ok (.iconst 0, 1) := by decide +kernel
theorem dX3_rivalsFor_30 : decode cX3_rivalsFor 30 = .ok (.ireturn, 1) := by decide +kernel
theorem dX3_rivalsFor_31 : decode cX3_rivalsFor 31 = .ok (.aload_n 0, 1) := by decide +kernel
theorem dX3_rivalsFor_32 : decode cX3_rivalsFor 32 = .ok (.iload_n 1, 1) := by decide +kernel
theorem dX3_rivalsFor_33 : decode cX3_rivalsFor 33 = .ok (.iload_n 2, 1) := by decide +kernel
theorem dX3_rivalsFor_34 : decode cX3_rivalsFor 34 = .ok (.invokevirtual 137, 3) := by decide +kernel
theorem dX3_rivalsFor_37 : decode cX3_rivalsFor 37 = .ok (.aload_n 0, 1) := by decide +kernel
theorem dX3_rivalsFor_38 : decode cX3_rivalsFor 38 = .ok (.getfield 12, 3) := by decide +kernel
theorem dX3_rivalsFor_41 : decode cX3_rivalsFor 41 = .ok (.getfield 105, 3) := by decide +kernel
theorem dX3_rivalsFor_44 : decode cX3_rivalsFor 44 = .ok (.bipush 7, 2) := by decide +kernel
theorem dX3_rivalsFor_46 : decode cX3_rivalsFor 46 = .ok (.iaload, 1) := by decide +kernel
theorem dX3_rivalsFor_47 : decode cX3_rivalsFor 47 = .ok (.isub, 1) := by decide +kernel
theorem dX3_rivalsFor_48 : decode cX3_rivalsFor 48 = .ok (.istore_n 3, 1) := by decide +kernel
theorem dX3_rivalsFor_49 : decode cX3_rivalsFor 49 = .ok (.iconst 0, 1) := by decide +kernel
theorem dX3_rivalsFor_50 : decode cX3_rivalsFor 50 = .ok (.istore 4, 2) := by decide +kernel
theorem dX3_rivalsFor_52 : decode cX3_rivalsFor 52 = .ok (.iconst 0, 1) := by decide +kernel
theorem dX3_rivalsFor_53 : decode cX3_rivalsFor 53 = .ok (.istore 5, 2) := by decide +kernel
theorem dX3_rivalsFor_55 : decode cX3_rivalsFor 55 = .ok (.iload 5, 2) := by decide +kernel
theorem dX3_rivalsFor_57 : decode cX3_rivalsFor 57 = .ok (.aload_n 0, 1) := by decide +kernel
theorem dX3_rivalsFor_58 : decode cX3_rivalsFor 58 = .ok (.getfield 22, 3) := by decide +kernel
theorem dX3_rivalsFor_61 : decode cX3_rivalsFor 61 = .ok (.iload_n 1, 1) := by decide +kernel
theorem dX3_rivalsFor_62 : decode cX3_rivalsFor 62 = .ok (.iaload, 1) := by decide +kernel
theorem dX3_rivalsFor_63 : decode cX3_rivalsFor 63 = .ok (.if_icmp .ge 92, 3) := by decide +kernel
theorem dX3_rivalsFor_66 : decode cX3_rivalsFor 66 = .ok (.aload_n 0, 1) := by decide +kernel
theorem dX3_rivalsFor_67 : decode cX3_rivalsFor 67 = .ok (.getfield 18, 3) := by decide +kernel
theorem dX3_rivalsFor_70 : decode cX3_rivalsFor 70 = .ok (.iload 5, 2) := by decide +kernel
theorem dX3_rivalsFor_72 : decode cX3_rivalsFor 72 = .ok (.iaload, 1) := by decide +kernel
theorem dX3_rivalsFor_73 : decode cX3_rivalsFor 73 = .ok (.istore 6, 2) := by decide +kernel
theorem dX3_rivalsFor_75 : decode cX3_rivalsFor 75 = .ok (.aload_n 0, 1) := by decide +kernel
theorem dX3_rivalsFor_76 : decode cX3_rivalsFor 76 = .ok (.getfield 34, 3) := by decide +kernel
theorem dX3_rivalsFor_79 : decode cX3_rivalsFor 79 = .ok (.iload_n 1, 1) := by decide +kernel
theorem dX3_rivalsFor_80 : decode cX3_rivalsFor 80 = .ok (.iaload, 1) := by decide +kernel
theorem dX3_rivalsFor_81 : decode cX3_rivalsFor 81 = .ok (.iload 6, 2) := by decide +kernel
theorem dX3_rivalsFor_83 : decode cX3_rivalsFor 83 = .ok (.invokestatic 119, 3) := by decide +kernel
theorem dX3_rivalsFor_86 : decode cX3_rivalsFor 86 = .ok (.ifCond .eq 63, 3) := by decide +kernel
theorem dX3_rivalsFor_89 : decode cX3_rivalsFor 89 = .ok (.aload_n 0, 1) := by decide +kernel
theorem dX3_rivalsFor_90 : decode cX3_rivalsFor 90 = .ok (.iload_n 1, 1) := by decide +kernel
theorem dX3_rivalsFor_91 : decode cX3_rivalsFor 91 = .ok (.iload 6, 2) := by decide +kernel
theorem dX3_rivalsFor_93 : decode cX3_rivalsFor 93 = .ok (.invokevirtual 137, 3) := by decide +kernel
theorem dX3_rivalsFor_96 : decode cX3_rivalsFor 96 = .ok (.iload_n 3, 1) := by decide +kernel
theorem dX3_rivalsFor_97 : decode cX3_rivalsFor 97 = .ok (.if_icmp .lt 52, 3) := by decide +kernel
theorem dX3_rivalsFor_100 : decode cX3_rivalsFor 100 = .ok (.aload_n 0, 1) := by decide +kernel
theorem dX3_rivalsFor_101 : decode cX3_rivalsFor 101 = .ok (.iload_n 1, 1) := by decide +kernel
theorem dX3_rivalsFor_102 : decode cX3_rivalsFor 102 = .ok (.aload_n 0, 1) := by decide +kernel
theorem dX3_rivalsFor_103 : decode cX3_rivalsFor 103 = .ok (.getfield 12, 3) := by decide +kernel
theorem dX3_rivalsFor_106 : decode cX3_rivalsFor 106 = .ok (.getfield 98, 3) := by decide +kernel
theorem dX3_rivalsFor_109 : decode cX3_rivalsFor 109 = .ok (.iload 6, 2) := by decide +kernel
theorem dX3_rivalsFor_111 : decode cX3_rivalsFor 111 = .ok (.iaload, 1) := by decide +kernel
theorem dX3_rivalsFor_112 : decode cX3_rivalsFor 112 = .ok (.invokevirtual 101, 3) := by decide +kernel
theorem dX3_rivalsFor_115 : decode cX3_rivalsFor 115 = .ok (.ifCond .eq 34, 3) := by decide +kernel
theorem dX3_rivalsFor_118 : decode cX3_rivalsFor 118 = .ok (.aload_n 0, 1) := by decide +kernel
theorem dX3_rivalsFor_119 : decode cX3_rivalsFor 119 = .ok (.getfield 12, 3) := by decide +kernel
theorem dX3_rivalsFor_122 : decode cX3_rivalsFor 122 = .ok (.getfield 98, 3) := by decide +kernel
theorem dX3_rivalsFor_125 : decode cX3_rivalsFor 125 = .ok (.iload 6, 2) := by decide +kernel
theorem dX3_rivalsFor_127 : decode cX3_rivalsFor 127 = .ok (.iaload, 1) := by decide +kernel
theorem dX3_rivalsFor_128 : decode cX3_rivalsFor 128 = .ok (.aload_n 0, 1) := by decide +kernel
theorem dX3_rivalsFor_129 : decode cX3_rivalsFor 129 = .ok (.getfield 12, 3) := by decide +kernel
theorem dX3_rivalsFor_132 : decode cX3_rivalsFor 132 = .ok (.getfield 98, 3) := by decide +kernel
theorem dX3_rivalsFor_135 : decode cX3_rivalsFor 135 = .ok (.iload_n 2, 1) := by decide +kernel
theorem dX3_rivalsFor_136 : decode cX3_rivalsFor 136 = .ok (.iaload, 1) := by decide +kernel
theorem dX3_rivalsFor_137 : decode cX3_rivalsFor 137 = .ok (.if_icmp .eq 12, 3) := by decide +kernel
theorem dX3_rivalsFor_140 : decode cX3_rivalsFor 140 = .ok (.iload 4, 2) := by decide +kernel
theorem dX3_rivalsFor_142 : decode cX3_rivalsFor 142 = .ok (.iconst 1, 1) := by decide +kernel
theorem dX3_rivalsFor_143 : decode cX3_rivalsFor 143 = .ok (.iload 6, 2) := by decide +kernel
theorem dX3_rivalsFor_145 : decode cX3_rivalsFor 145 = .ok (.ishl, 1) := by decide +kernel
theorem dX3_rivalsFor_146 : decode cX3_rivalsFor 146 = .ok (.ior, 1) := by decide +kernel
theorem dX3_rivalsFor_147 : decode cX3_rivalsFor 147 = .ok (.istore 4, 2) := by decide +kernel
theorem dX3_rivalsFor_149 : decode cX3_rivalsFor 149 = .ok (.iinc 5 1, 3) := by decide +kernel
theorem dX3_rivalsFor_152 : decode cX3_rivalsFor 152 = .ok (.goto (-97), 3) := by decide +kernel
theorem dX3_rivalsFor_155 : decode cX3_rivalsFor 155 = .ok (.iload 4, 2) := by decide +kernel
theorem dX3_rivalsFor_157 : decode cX3_rivalsFor 157 = .ok (.ireturn, 1) := by decide +kernel
def t_X3_rivalsFor_155 : am_T := tb_iload 4 <|
  tb_iret
def t_X3_rivalsFor_149 : am_T := tb_iinc 5 1 <|
  tb_head 55
def t_X3_rivalsFor_55 : am_T := tb_iload 5 <|
  tb_aload 0 <|
  tb_getR 3 2 <|
  tb_iload 1 <|
  tb_iald <|
  tb_ic (fun x y => y ≤ x) (t_X3_rivalsFor_155) <|
  tb_aload 0 <|
  tb_getR 3 1 <|
  tb_iload 5 <|
  tb_iald <|
  tb_istore 6 <|
  tb_aload 0 <|
  tb_getR 3 6 <|
  tb_iload 1 <|
  tb_iald <|
  tb_iload 6 <|
  tb_callS sp_X4_isIn 2 <|
  tb_if (fun x => x = 0) (t_X3_rivalsFor_149) <|
  tb_aload 0 <|
  tb_iload 1 <|
  tb_iload 6 <|
  tb_callV 3 sp_X3_scoreFor 3 <|
  tb_iload 3 <|
  tb_ic (fun x y => x < y) (t_X3_rivalsFor_149) <|
  tb_aload 0 <|
  tb_iload 1 <|
  tb_aload 0 <|
  tb_getR 3 0 <|
  tb_getR 1 6 <|
  tb_iload 6 <|
  tb_iald <|
  tb_callV 3 sp_X3_speaksTo 3 <|
  tb_if (fun x => x = 0) (t_X3_rivalsFor_149) <|
  tb_aload 0 <|
  tb_getR 3 0 <|
  tb_getR 1 6 <|
  tb_iload 6 <|
  tb_iald <|
  tb_aload 0 <|
  tb_getR 3 0 <|
  tb_getR 1 6 <|
  tb_iload 2 <|
  tb_iald <|
  tb_ic (fun x y => x = y) (t_X3_rivalsFor_149) <|
  tb_iload 4 <|
  tb_const 1 <|
  tb_iload 6 <|
  tb_bin (fun x y => x <<< (y &&& 31)) <|
  tb_bin (fun x y => x ||| y) <|
  tb_istore 4 <|
  t_X3_rivalsFor_149
def t_X3_rivalsFor_31 : am_T := tb_aload 0 <|
  tb_iload 1 <|
  tb_iload 2 <|
  tb_callV 3 sp_X3_scoreFor 3 <|
  tb_aload 0 <|
  tb_getR 3 0 <|
  tb_getR 1 13 <|
  tb_const 7 <|
  tb_iald <|
  tb_bin (fun x y => x - y) <|
  tb_istore 3 <|
  tb_const 0 <|
  tb_istore 4 <|
  tb_const 0 <|
  tb_istore 5 <|
  tb_head 55
def t_X3_rivalsFor_29 : am_T := tb_const 0 <|
  tb_iret
def t_X3_rivalsFor_0 : am_T := tb_aload 0 <|
  tb_getR 3 7 <|
  tb_iload 1 <|
  tb_iald <|
  tb_istore 2 <|
  tb_iload 2 <|
  tb_const (-1) <|
  tb_ic (fun x y => x = y) (t_X3_rivalsFor_29) <|
  tb_aload 0 <|
  tb_iload 1 <|
  tb_aload 0 <|
  tb_getR 3 0 <|
  tb_getR 1 6 <|
  tb_iload 2 <|
  tb_iald <|
  tb_callV 3 sp_X3_speaksTo 3 <|
  tb_if (fun x => x ≠ 0) (t_X3_rivalsFor_31) <|
  t_X3_rivalsFor_29
def h_X3_rivalsFor : am_Hd := fun h => if h = 0 then t_X3_rivalsFor_0 else if h = 55 then t_X3_rivalsFor_55 else tb_bad
theorem h_X3_rivalsFor_0 : h_X3_rivalsFor 0 = t_X3_rivalsFor_0 := rfl
theorem h_X3_rivalsFor_55 : h_X3_rivalsFor 55 = t_X3_rivalsFor_55 := rfl
def rm_X3_rivalsFor : Room := { frames := 2, cells := 0, slots := 0, locals := 43 }
def sp_X3_rivalsFor : am_sp := fun as M Q => as.length ≤ 7 ∧ am_OK h_X3_rivalsFor Q 0 (am_in 7 as) M
theorem s_X3_rivalsFor_155 {G : am_G} {bc bs : Nat} (X : am_Cx G cX3_rivalsFor RX3 "rivalsFor" rm_X3_rivalsFor (some .int) 7 bc bs true) : am_S G 155 (t_X3_rivalsFor_155) := by
  unfold t_X3_rivalsFor_155
  refine as_iload (pc := 155) X dX3_rivalsFor_155 ?_
  exact as_iret (pc := 157) X ⟨rfl, rfl⟩ rfl dX3_rivalsFor_157
theorem s_X3_rivalsFor_149 {G : am_G} {bc bs : Nat} (X : am_Cx G cX3_rivalsFor RX3 "rivalsFor" rm_X3_rivalsFor (some .int) 7 bc bs true) : am_S G 149 (t_X3_rivalsFor_149) := by
  unfold t_X3_rivalsFor_149
  refine as_iinc (pc := 149) X dX3_rivalsFor_149 (by decide) (by decide) ?_
  exact as_goto (pc := 152) X 55 dX3_rivalsFor_152 (by decide) (as_head)
theorem s_X3_rivalsFor_55 {G : am_G} {bc bs : Nat} (X : am_Cx G cX3_rivalsFor RX3 "rivalsFor" rm_X3_rivalsFor (some .int) 7 bc bs true) : am_S G 55 (t_X3_rivalsFor_55) := by
  unfold t_X3_rivalsFor_55
  refine as_iload (pc := 55) X dX3_rivalsFor_55 ?_
  refine as_aload_n (pc := 57) X dX3_rivalsFor_57 rfl ?_
  refine as_getR (ci := 3) (j := 2) (pc := 58) X (Cn := RX3) (Tf := TX3) (N := 17) rfl rfl (by decide) iw_X3 aw_163 rfl dX3_rivalsFor_58 ?_
  refine as_iload_n (pc := 61) X dX3_rivalsFor_61 rfl ?_
  refine as_iald (pc := 62) X dX3_rivalsFor_62 ?_
  refine as_ic_ge (pc := 63) X 155 dX3_rivalsFor_63 (by decide) (s_X3_rivalsFor_155 X) ?_
  refine as_aload_n (pc := 66) X dX3_rivalsFor_66 rfl ?_
  refine as_getR (ci := 3) (j := 1) (pc := 67) X (Cn := RX3) (Tf := TX3) (N := 17) rfl rfl (by decide) iw_X3 aw_161 rfl dX3_rivalsFor_67 ?_
  refine as_iload (pc := 70) X dX3_rivalsFor_70 ?_
  refine as_iald (pc := 72) X dX3_rivalsFor_72 ?_
  refine as_istore (pc := 73) X dX3_rivalsFor_73 ?_ (by decide)
  refine as_aload_n (pc := 75) X dX3_rivalsFor_75 rfl ?_
  refine as_getR (ci := 3) (j := 6) (pc := 76) X (Cn := RX3) (Tf := TX3) (N := 17) rfl rfl (by decide) iw_X3 aw_169 rfl dX3_rivalsFor_76 ?_
  refine as_iload_n (pc := 79) X dX3_rivalsFor_79 rfl ?_
  refine as_iald (pc := 80) X dX3_rivalsFor_80 ?_
  refine as_iload (pc := 81) X dX3_rivalsFor_81 ?_
  refine as_callSN (np := 2) (ix := 119) (pc := 83) X ct_X4_isIn ⟨rfl, rfl⟩ (host := RX4) (by simp [am_NW]) aw_406 aw_407 aw_59 (by decide +kernel) (by decide) dX3_rivalsFor_83 ?_
  refine as_if_eq (pc := 86) X 149 dX3_rivalsFor_86 (by decide) (s_X3_rivalsFor_149 X) ?_
  refine as_aload_n (pc := 89) X dX3_rivalsFor_89 rfl ?_
  refine as_iload_n (pc := 90) X dX3_rivalsFor_90 rfl ?_
  refine as_iload (pc := 91) X dX3_rivalsFor_91 ?_
  refine as_callV (ci := 3) (np := 2) (ix := 137) (pc := 93) X ct_X3_scoreFor (Cn := (RX3, TX3, 17)) rfl ⟨rfl, rfl⟩ aw_443 aw_444 aw_445 aw_446 aw_60 (by decide +kernel) (by decide) dX3_rivalsFor_93 ?_
  refine as_iload_n (pc := 96) X dX3_rivalsFor_96 rfl ?_
  refine as_ic_lt (pc := 97) X 149 dX3_rivalsFor_97 (by decide) (s_X3_rivalsFor_149 X) ?_
  refine as_aload_n (pc := 100) X dX3_rivalsFor_100 rfl ?_
  refine as_iload_n (pc := 101) X dX3_rivalsFor_101 rfl ?_
  refine as_aload_n (pc := 102) X dX3_rivalsFor_102 rfl ?_
  refine as_getR (ci := 3) (j := 0) (pc := 103) X (Cn := RX3) (Tf := TX3) (N := 17) rfl rfl (by decide) iw_X3 aw_159 rfl dX3_rivalsFor_103 ?_
  refine as_getR (ci := 1) (j := 6) (pc := 106) X (Cn := RX1) (Tf := TX1) (N := 14) rfl rfl (by decide) iw_X1 aw_106 rfl dX3_rivalsFor_106 ?_
  refine as_iload (pc := 109) X dX3_rivalsFor_109 ?_
  refine as_iald (pc := 111) X dX3_rivalsFor_111 ?_
  refine as_callV (ci := 3) (np := 2) (ix := 101) (pc := 112) X ct_X3_speaksTo (Cn := (RX3, TX3, 17)) rfl ⟨rfl, rfl⟩ aw_412 aw_414 aw_5 aw_415 aw_60 (by decide +kernel) (by decide) dX3_rivalsFor_112 ?_
  refine as_if_eq (pc := 115) X 149 dX3_rivalsFor_115 (by decide) (s_X3_rivalsFor_149 X) ?_
  refine as_aload_n (pc := 118) X dX3_rivalsFor_118 rfl ?_
  refine as_getR (ci := 3) (j := 0) (pc := 119) X (Cn := RX3) (Tf := TX3) (N := 17) rfl rfl (by decide) iw_X3 aw_159 rfl dX3_rivalsFor_119 ?_
  refine as_getR (ci := 1) (j := 6) (pc := 122) X (Cn := RX1) (Tf := TX1) (N := 14) rfl rfl (by decide) iw_X1 aw_106 rfl dX3_rivalsFor_122 ?_
  refine as_iload (pc := 125) X dX3_rivalsFor_125 ?_
  refine as_iald (pc := 127) X dX3_rivalsFor_127 ?_
  refine as_aload_n (pc := 128) X dX3_rivalsFor_128 rfl ?_
  refine as_getR (ci := 3) (j := 0) (pc := 129) X (Cn := RX3) (Tf := TX3) (N := 17) rfl rfl (by decide) iw_X3 aw_159 rfl dX3_rivalsFor_129 ?_
  refine as_getR (ci := 1) (j := 6) (pc := 132) X (Cn := RX1) (Tf := TX1) (N := 14) rfl rfl (by decide) iw_X1 aw_106 rfl dX3_rivalsFor_132 ?_
  refine as_iload_n (pc := 135) X dX3_rivalsFor_135 rfl ?_
  refine as_iald (pc := 136) X dX3_rivalsFor_136 ?_
  refine as_ic_eq (pc := 137) X 149 dX3_rivalsFor_137 (by decide) (s_X3_rivalsFor_149 X) ?_
  refine as_iload (pc := 140) X dX3_rivalsFor_140 ?_
  refine as_iconst (pc := 142) X dX3_rivalsFor_142 (by decide) ?_
  refine as_iload (pc := 143) X dX3_rivalsFor_143 ?_
  refine as_ishl (pc := 145) X dX3_rivalsFor_145 ?_
  refine as_ior (pc := 146) X dX3_rivalsFor_146 ?_
  refine as_istore (pc := 147) X dX3_rivalsFor_147 ?_ (by decide)
  exact s_X3_rivalsFor_149 X
theorem s_X3_rivalsFor_31 {G : am_G} {bc bs : Nat} (X : am_Cx G cX3_rivalsFor RX3 "rivalsFor" rm_X3_rivalsFor (some .int) 7 bc bs true) : am_S G 31 (t_X3_rivalsFor_31) := by
  unfold t_X3_rivalsFor_31
  refine as_aload_n (pc := 31) X dX3_rivalsFor_31 rfl ?_
  refine as_iload_n (pc := 32) X dX3_rivalsFor_32 rfl ?_
  refine as_iload_n (pc := 33) X dX3_rivalsFor_33 rfl ?_
  refine as_callV (ci := 3) (np := 2) (ix := 137) (pc := 34) X ct_X3_scoreFor (Cn := (RX3, TX3, 17)) rfl ⟨rfl, rfl⟩ aw_443 aw_444 aw_445 aw_446 aw_60 (by decide +kernel) (by decide) dX3_rivalsFor_34 ?_
  refine as_aload_n (pc := 37) X dX3_rivalsFor_37 rfl ?_
  refine as_getR (ci := 3) (j := 0) (pc := 38) X (Cn := RX3) (Tf := TX3) (N := 17) rfl rfl (by decide) iw_X3 aw_159 rfl dX3_rivalsFor_38 ?_
  refine as_getR (ci := 1) (j := 13) (pc := 41) X (Cn := RX1) (Tf := TX1) (N := 14) rfl rfl (by decide) iw_X1 aw_127 rfl dX3_rivalsFor_41 ?_
  refine as_bipush (pc := 44) X dX3_rivalsFor_44 (by decide) ?_
  refine as_iald (pc := 46) X dX3_rivalsFor_46 ?_
  refine as_isub (pc := 47) X dX3_rivalsFor_47 ?_
  refine as_istore_n (pc := 48) X dX3_rivalsFor_48 rfl ?_ (by decide)
  refine as_iconst (pc := 49) X dX3_rivalsFor_49 (by decide) ?_
  refine as_istore (pc := 50) X dX3_rivalsFor_50 ?_ (by decide)
  refine as_iconst (pc := 52) X dX3_rivalsFor_52 (by decide) ?_
  refine as_istore (pc := 53) X dX3_rivalsFor_53 ?_ (by decide)
  exact as_head
theorem s_X3_rivalsFor_29 {G : am_G} {bc bs : Nat} (X : am_Cx G cX3_rivalsFor RX3 "rivalsFor" rm_X3_rivalsFor (some .int) 7 bc bs true) : am_S G 29 (t_X3_rivalsFor_29) := by
  unfold t_X3_rivalsFor_29
  refine as_iconst (pc := 29) X dX3_rivalsFor_29 (by decide) ?_
  exact as_iret (pc := 30) X ⟨rfl, rfl⟩ rfl dX3_rivalsFor_30
theorem s_X3_rivalsFor_0 {G : am_G} {bc bs : Nat} (X : am_Cx G cX3_rivalsFor RX3 "rivalsFor" rm_X3_rivalsFor (some .int) 7 bc bs true) : am_S G 0 (t_X3_rivalsFor_0) := by
  unfold t_X3_rivalsFor_0
  refine as_aload_n (pc := 0) X dX3_rivalsFor_0 rfl ?_
  refine as_getR (ci := 3) (j := 7) (pc := 1) X (Cn := RX3) (Tf := TX3) (N := 17) rfl rfl (by decide) iw_X3 aw_170 rfl dX3_rivalsFor_1 ?_
  refine as_iload_n (pc := 4) X dX3_rivalsFor_4 rfl ?_
  refine as_iald (pc := 5) X dX3_rivalsFor_5 ?_
  refine as_istore_n (pc := 6) X dX3_rivalsFor_6 rfl ?_ (by decide)
  refine as_iload_n (pc := 7) X dX3_rivalsFor_7 rfl ?_
  refine as_iconst (pc := 8) X dX3_rivalsFor_8 (by decide) ?_
  refine as_ic_eq (pc := 9) X 29 dX3_rivalsFor_9 (by decide) (s_X3_rivalsFor_29 X) ?_
  refine as_aload_n (pc := 12) X dX3_rivalsFor_12 rfl ?_
  refine as_iload_n (pc := 13) X dX3_rivalsFor_13 rfl ?_
  refine as_aload_n (pc := 14) X dX3_rivalsFor_14 rfl ?_
  refine as_getR (ci := 3) (j := 0) (pc := 15) X (Cn := RX3) (Tf := TX3) (N := 17) rfl rfl (by decide) iw_X3 aw_159 rfl dX3_rivalsFor_15 ?_
  refine as_getR (ci := 1) (j := 6) (pc := 18) X (Cn := RX1) (Tf := TX1) (N := 14) rfl rfl (by decide) iw_X1 aw_106 rfl dX3_rivalsFor_18 ?_
  refine as_iload_n (pc := 21) X dX3_rivalsFor_21 rfl ?_
  refine as_iald (pc := 22) X dX3_rivalsFor_22 ?_
  refine as_callV (ci := 3) (np := 2) (ix := 101) (pc := 23) X ct_X3_speaksTo (Cn := (RX3, TX3, 17)) rfl ⟨rfl, rfl⟩ aw_412 aw_414 aw_5 aw_415 aw_60 (by decide +kernel) (by decide) dX3_rivalsFor_23 ?_
  refine as_if_ne (pc := 26) X 31 dX3_rivalsFor_26 (by decide) (s_X3_rivalsFor_31 X) ?_
  exact s_X3_rivalsFor_29 X
theorem s_X3_rivalsFor {G : am_G} {bc bs : Nat} (X : am_Cx G cX3_rivalsFor RX3 "rivalsFor" rm_X3_rivalsFor (some .int) 7 bc bs true) (h : Nat) : am_S G h (h_X3_rivalsFor h) := by
  unfold h_X3_rivalsFor
  split
  · next e => rw [e]; exact s_X3_rivalsFor_0 X
  split
  · next e => rw [e]; exact s_X3_rivalsFor_55 X
  exact as_bad
theorem ct_X3_rivalsFor : am_Ct yX3_rivalsFor cX3_rivalsFor 7 (some .int) rm_X3_rivalsFor sp_X3_rivalsFor := am_met (own := RX3) (nm := "rivalsFor") (by decide) rfl rfl (Or.inr (Or.inl rfl)) (fun _ _ => h_X3_rivalsFor) (fun _ _ _ X => s_X3_rivalsFor X) (fun _ _ _ _ h => h)
-- X3_rateAll
theorem dX3_rateAll_0 : decode cX3_rateAll 0 = .ok (.aload_n 0, 1) := by decide +kernel
theorem dX3_rateAll_1 : decode cX3_rateAll 1 = .ok (.invokevirtual 68, 3) := by decide +kernel
theorem dX3_rateAll_4 : decode cX3_rateAll 4 = .ok (.iconst 0, 1) := by decide +kernel
theorem dX3_rateAll_5 : decode cX3_rateAll 5 = .ok (.istore_n 1, 1) := by decide +kernel
theorem dX3_rateAll_6 : decode cX3_rateAll 6 = .ok (.iload_n 1, 1) := by decide +kernel
theorem dX3_rateAll_7 : decode cX3_rateAll 7 = .ok (.aload_n 0, 1) := by decide +kernel
theorem dX3_rateAll_8 : decode cX3_rateAll 8 = .ok (.getfield 12, 3) := by decide +kernel
theorem dX3_rateAll_11 : decode cX3_rateAll 11 = .ok (.getfield 71, 3) := by decide +kernel
theorem dX3_rateAll_14 : decode cX3_rateAll 14 = .ok (.if_icmp .ge 23, 3) := by decide +kernel
theorem dX3_rateAll_17 : decode cX3_rateAll 17 = .ok (.aload_n 0, 1) := by decide +kernel
theorem dX3_rateAll_18 : decode cX3_rateAll 18 = .ok (.getfield 25, 3) := by decide +kernel
theorem dX3_rateAll_21 : decode cX3_rateAll 21 = .ok (.iload_n 1, 1) := by decide +kernel
theorem dX3_rateAll_22 : decode cX3_rateAll 22 = .ok (.aload_n 0, 1) := by decide +kernel
theorem dX3_rateAll_23 : decode cX3_rateAll 23 = .ok (.getfield 12, 3) := by decide +kernel
theorem dX3_rateAll_26 : decode cX3_rateAll 26 = .ok (.iload_n 1, 1) := by decide +kernel
theorem dX3_rateAll_27 : decode cX3_rateAll 27 = .ok (.invokevirtual 74, 3) := by decide +kernel
theorem dX3_rateAll_30 : decode cX3_rateAll 30 = .ok (.iastore, 1) := by decide +kernel
theorem dX3_rateAll_31 : decode cX3_rateAll 31 = .ok (.iinc 1 1, 3) := by decide +kernel
theorem dX3_rateAll_34 : decode cX3_rateAll 34 = .ok (.goto (-28), 3) := by decide +kernel
theorem dX3_rateAll_37 : decode cX3_rateAll 37 = .ok (.iconst 0, 1) := by decide +kernel
theorem dX3_rateAll_38 : decode cX3_rateAll 38 = .ok (.istore_n 1, 1) := by decide +kernel
theorem dX3_rateAll_39 : decode cX3_rateAll 39 = .ok (.iload_n 1, 1) := by decide +kernel
theorem dX3_rateAll_40 : decode cX3_rateAll 40 = .ok (.aload_n 0, 1) := by decide +kernel
theorem dX3_rateAll_41 : decode cX3_rateAll 41 = .ok (.getfield 12, 3) := by decide +kernel
theorem dX3_rateAll_44 : decode cX3_rateAll 44 = .ok (.getfield 71, 3) := by decide +kernel
theorem dX3_rateAll_47 : decode cX3_rateAll 47 = .ok (.if_icmp .ge 107, 3) := by decide +kernel
theorem dX3_rateAll_50 : decode cX3_rateAll 50 = .ok (.aload_n 0, 1) := by decide +kernel
theorem dX3_rateAll_51 : decode cX3_rateAll 51 = .ok (.getfield 18, 3) := by decide +kernel
theorem dX3_rateAll_54 : decode cX3_rateAll 54 = .ok (.iload_n 1, 1) := by decide +kernel
theorem dX3_rateAll_55 : decode cX3_rateAll 55 = .ok (.iaload, 1) := by decide +kernel
theorem dX3_rateAll_56 : decode cX3_rateAll 56 = .ok (.istore_n 2, 1) := by decide +kernel
theorem dX3_rateAll_57 : decode cX3_rateAll 57 = .ok (.iconst 0, 1) := by decide +kernel
theorem dX3_rateAll_58 : decode cX3_rateAll 58 = .ok (.istore_n 3, 1) := by decide +kernel
theorem dX3_rateAll_59 : decode cX3_rateAll 59 = .ok (.iload_n 3, 1) := by decide +kernel
theorem dX3_rateAll_60 : decode cX3_rateAll 60 = .ok (.iload_n 1, 1) := by decide +kernel
theorem dX3_rateAll_61 : decode cX3_rateAll 61 = .ok (.if_icmp .ge 20, 3) := by decide +kernel
theorem dX3_rateAll_64 : decode cX3_rateAll 64 = .ok (.aload_n 0, 1) := by decide +kernel
theorem dX3_rateAll_65 : decode cX3_rateAll 65 = .ok (.iload_n 2, 1) := by decide +kernel
theorem dX3_rateAll_66 : decode cX3_rateAll 66 = .ok (.aload_n 0, 1) := by decide +kernel
theorem dX3_rateAll_67 : decode cX3_rateAll 67 = .ok (.getfield 18, 3) := by decide +kernel
theorem dX3_rateAll_70 : decode cX3_rateAll 70 = .ok (.iload_n 3, 1) := by decide +kernel
theorem dX3_rateAll_71 : decode cX3_rateAll 71 = .ok (.iaload, 1) := by decide +kernel
theorem dX3_rateAll_72 : decode cX3_rateAll 72 = .ok (.invokevirtual 78, 3) := by decide +kernel
theorem dX3_rateAll_75 : decode cX3_rateAll 75 = .ok (.iinc 3 1, 3) := by decide +kernel
theorem dX3_rateAll_78 : decode cX3_rateAll 78 = .ok (.goto (-19), 3) := by decide +kernel
theorem dX3_rateAll_81 : decode cX3_rateAll 81 = .ok (.aload_n 0, 1) := by decide +kernel
theorem dX3_rateAll_82 : decode cX3_rateAll 82 = .ok (.getfield 31, 3) := by decide +kernel
theorem dX3_rateAll_85 : decode cX3_rateAll 85 = .ok (.iload_n 2, 1) := by decide +kernel
theorem dX3_rateAll_86 : decode cX3_rateAll 86 = .ok (.aload_n 0, 1) := by decide +kernel
theorem dX3_rateAll_87 : decode cX3_rateAll 87 = .ok (.getfield 12, 3) := by decide +kernel
theorem dX3_rateAll_90 : decode cX3_rateAll 90 = .ok (.iload_n 2, 1) := by decide +kernel
theorem dX3_rateAll_91 : decode cX3_rateAll 91 = .ok (.invokevirtual 82, 3) := by decide +kernel
theorem dX3_rateAll_94 : decode cX3_rateAll 94 = .ok (.iastore, 1) := by decide +kernel
theorem dX3_rateAll_95 : decode cX3_rateAll 95 = .ok (.aload_n 0, 1) := by decide +kernel
theorem dX3_rateAll_96 : decode cX3_rateAll 96 = .ok (.getfield 34, 3) := by decide +kernel
theorem dX3_rateAll_99 : decode cX3_rateAll 99 = .ok (.iload_n 2, 1) := by decide +kernel
theorem dX3_rateAll_100 : decode cX3_rateAll 100 = .ok (.aload_n 0, 1) := by decide +kernel
theorem dX3_rateAll_101 : decode cX3_rateAll 101 = .ok (.iload_n 2, 1) := by decide +kernel
theorem dX3_rateAll_102 : decode cX3_rateAll 102 = .ok (.invokevirtual 85, 3) := by decide +kernel
theorem dX3_rateAll_105 : decode cX3_rateAll 105 = .ok (.iastore, 1) := by decide +kernel
theorem dX3_rateAll_106 : decode cX3_rateAll 106 = .ok (.aload_n 0, 1) := by decide +kernel
theorem dX3_rateAll_107 : decode cX3_rateAll 107 = .ok (.getfield 37, 3) := by decide +kernel
theorem dX3_rateAll_110 : decode cX3_rateAll 110 = .ok (.iload_n 2, 1) := by decide +kernel
theorem dX3_rateAll_111 : decode cX3_rateAll 111 = .ok (.aload_n 0, 1) := by decide +kernel
theorem dX3_rateAll_112 : decode cX3_rateAll 112 = .ok (.getfield 31, 3) := by decide +kernel
theorem dX3_rateAll_115 : decode cX3_rateAll 115 = .ok (.iload_n 2, 1) := by decide +kernel
theorem dX3_rateAll_116 : decode cX3_rateAll 116 = .ok (.iaload, 1) := by decide +kernel
theorem dX3_rateAll_117 : decode cX3_rateAll 117 = .ok (.iconst (-1), 1) := by decide +kernel
theorem dX3_rateAll_118 : decode cX3_rateAll 118 = .ok (.if_icmp .ne 17, 3) := by decide +kernel
theorem dX3_rateAll_121 : decode cX3_rateAll 121 = .ok (.aload_n 0, 1) := by decide +kernel
theorem dX3_rateAll_122 : decode cX3_rateAll 122 = .ok (.aload_n 0, 1) := by decide +kernel
theorem dX3_rateAll_123 : decode cX3_rateAll 123 = .ok (.getfield 34, 3) := by decide +kernel
theorem dX3_rateAll_126 : decode cX3_rateAll 126 = .ok (.iload_n 2, 1) := by decide +kernel
theorem dX3_rateAll_127 : decode cX3_rateAll 127 = .ok (.iaload, 1) := by decide +kernel
theorem dX3_rateAll_128 : decode cX3_rateAll 128 = .ok (.iload_n 2, 1) := by decide +kernel
theorem dX3_rateAll_129 : decode cX3_rateAll 129 = .ok (.invokevirtual 88, 3) := by decide +kernel
theorem dX3_rateAll_132 : decode cX3_rateAll 132 = .ok (.goto 4, 3) := by decide +kernel
theorem dX3_rateAll_135 : decode cX3_rateAll 135 = .ok (.iconst (-1), 1) := by decide +kernel
theorem dX3_rateAll_136 : decode cX3_rateAll 136 = .ok (.iastore, 1) := by decide +kernel
theorem dX3_rateAll_137 : decode cX3_rateAll 137 = .ok (.aload_n 0, 1) := by decide +kernel
theorem dX3_rateAll_138 : decode cX3_rateAll 138 = .ok (.getfield 40, 3) := by decide +kernel
theorem dX3_rateAll_141 : decode cX3_rateAll 141 = .ok (.iload_n 2, 1) := by decide +kernel
theorem dX3_rateAll_142 : decode cX3_rateAll 142 = .ok (.aload_n 0, 1) := by decide +kernel
theorem dX3_rateAll_143 : decode cX3_rateAll 143 = .ok (.iload_n 2, 1) := by decide +kernel
theorem dX3_rateAll_144 : decode cX3_rateAll 144 = .ok (.invokevirtual 92, 3) := by decide +kernel
theorem dX3_rateAll_147 : decode cX3_rateAll 147 = .ok (.iastore, 1) := by decide +kernel
theorem dX3_rateAll_148 : decode cX3_rateAll 148 = .ok (.iinc 1 1, 3) := by decide +kernel
theorem dX3_rateAll_151 : decode cX3_rateAll 151 = .ok (.goto (-112), 3) := by decide +kernel
theorem dX3_rateAll_154 : decode cX3_rateAll 154 = .ok (.return_, 1) := by decide +kernel
def t_X3_rateAll_154 : am_T := tb_ret
def t_X3_rateAll_136 : am_T := tb_iast <|
  tb_aload 0 <|
  tb_getR 3 8 <|
  tb_iload 2 <|
  tb_aload 0 <|
  tb_iload 2 <|
  tb_callV 3 sp_X3_rivalsFor 2 <|
  tb_iast <|
  tb_iinc 1 1 <|
  tb_head 39
def t_X3_rateAll_135 : am_T := tb_const (-1) <|
  t_X3_rateAll_136
def t_X3_rateAll_81 : am_T := tb_aload 0 <|
  tb_getR 3 5 <|
  tb_iload 2 <|
  tb_aload 0 <|
  tb_getR 3 0 <|
  tb_iload 2 <|
  tb_callV 1 sp_X1_countingFix 2 <|
  tb_iast <|
  tb_aload 0 <|
  tb_getR 3 6 <|
  tb_iload 2 <|
  tb_aload 0 <|
  tb_iload 2 <|
  tb_callV 3 sp_X3_choicesFor 2 <|
  tb_iast <|
  tb_aload 0 <|
  tb_getR 3 7 <|
  tb_iload 2 <|
  tb_aload 0 <|
  tb_getR 3 5 <|
  tb_iload 2 <|
  tb_iald <|
  tb_const (-1) <|
  tb_ic (fun x y => x ≠ y) (t_X3_rateAll_135) <|
  tb_aload 0 <|
  tb_aload 0 <|
  tb_getR 3 6 <|
  tb_iload 2 <|
  tb_iald <|
  tb_iload 2 <|
  tb_callV 3 sp_X3_bestOf 3 <|
  t_X3_rateAll_136
def t_X3_rateAll_59 : am_T := tb_iload 3 <|
  tb_iload 1 <|
  tb_ic (fun x y => y ≤ x) (t_X3_rateAll_81) <|
  tb_aload 0 <|
  tb_iload 2 <|
  tb_aload 0 <|
  tb_getR 3 1 <|
  tb_iload 3 <|
  tb_iald <|
  tb_callV 3 sp_X3_rate 3 <|
  tb_iinc 3 1 <|
  tb_head 59
def t_X3_rateAll_39 : am_T := tb_iload 1 <|
  tb_aload 0 <|
  tb_getR 3 0 <|
  tb_getI 1 4 <|
  tb_ic (fun x y => y ≤ x) (t_X3_rateAll_154) <|
  tb_aload 0 <|
  tb_getR 3 1 <|
  tb_iload 1 <|
  tb_iald <|
  tb_istore 2 <|
  tb_const 0 <|
  tb_istore 3 <|
  tb_head 59
def t_X3_rateAll_37 : am_T := tb_const 0 <|
  tb_istore 1 <|
  tb_head 39
def t_X3_rateAll_6 : am_T := tb_iload 1 <|
  tb_aload 0 <|
  tb_getR 3 0 <|
  tb_getI 1 4 <|
  tb_ic (fun x y => y ≤ x) (t_X3_rateAll_37) <|
  tb_aload 0 <|
  tb_getR 3 3 <|
  tb_iload 1 <|
  tb_aload 0 <|
  tb_getR 3 0 <|
  tb_iload 1 <|
  tb_callV 1 sp_X1_personsNamedIn 2 <|
  tb_iast <|
  tb_iinc 1 1 <|
  tb_head 6
def t_X3_rateAll_0 : am_T := tb_aload 0 <|
  tb_callV 3 sp_X3_putInOrder 1 <|
  tb_const 0 <|
  tb_istore 1 <|
  tb_head 6
def h_X3_rateAll : am_Hd := fun h => if h = 0 then t_X3_rateAll_0 else if h = 6 then t_X3_rateAll_6 else if h = 39 then t_X3_rateAll_39 else if h = 59 then t_X3_rateAll_59 else tb_bad
theorem h_X3_rateAll_0 : h_X3_rateAll 0 = t_X3_rateAll_0 := rfl
theorem h_X3_rateAll_6 : h_X3_rateAll 6 = t_X3_rateAll_6 := rfl
theorem h_X3_rateAll_39 : h_X3_rateAll 39 = t_X3_rateAll_39 := rfl
theorem h_X3_rateAll_59 : h_X3_rateAll 59 = t_X3_rateAll_59 := rfl
def rm_X3_rateAll : Room := { frames := 3, cells := 0, slots := 0, locals := 69 }
def sp_X3_rateAll : am_sp := fun as M Q => as.length ≤ 4 ∧ am_OK h_X3_rateAll Q 0 (am_in 4 as) M
theorem s_X3_rateAll_154 {G : am_G} {bc bs : Nat} (X : am_Cx G cX3_rateAll RX3 "rateAll" rm_X3_rateAll none 4 bc bs true) : am_S G 154 (t_X3_rateAll_154) := by
  unfold t_X3_rateAll_154
  exact as_ret (pc := 154) X ⟨rfl, rfl⟩ rfl dX3_rateAll_154
theorem s_X3_rateAll_136 {G : am_G} {bc bs : Nat} (X : am_Cx G cX3_rateAll RX3 "rateAll" rm_X3_rateAll none 4 bc bs true) : am_S G 136 (t_X3_rateAll_136) := by
  unfold t_X3_rateAll_136
  refine as_iast (pc := 136) X dX3_rateAll_136 ?_
  refine as_aload_n (pc := 137) X dX3_rateAll_137 rfl ?_
  refine as_getR (ci := 3) (j := 8) (pc := 138) X (Cn := RX3) (Tf := TX3) (N := 17) rfl rfl (by decide) iw_X3 aw_171 rfl dX3_rateAll_138 ?_
  refine as_iload_n (pc := 141) X dX3_rateAll_141 rfl ?_
  refine as_aload_n (pc := 142) X dX3_rateAll_142 rfl ?_
  refine as_iload_n (pc := 143) X dX3_rateAll_143 rfl ?_
  refine as_callV (ci := 3) (np := 1) (ix := 92) (pc := 144) X ct_X3_rivalsFor (Cn := (RX3, TX3, 17)) rfl ⟨rfl, rfl⟩ aw_447 aw_449 aw_9 aw_450 aw_60 (by decide +kernel) (by decide) dX3_rateAll_144 ?_
  refine as_iast (pc := 147) X dX3_rateAll_147 ?_
  refine as_iinc (pc := 148) X dX3_rateAll_148 (by decide) (by decide) ?_
  exact as_goto (pc := 151) X 39 dX3_rateAll_151 (by decide) (as_head)
theorem s_X3_rateAll_135 {G : am_G} {bc bs : Nat} (X : am_Cx G cX3_rateAll RX3 "rateAll" rm_X3_rateAll none 4 bc bs true) : am_S G 135 (t_X3_rateAll_135) := by
  unfold t_X3_rateAll_135
  refine as_iconst (pc := 135) X dX3_rateAll_135 (by decide) ?_
  exact s_X3_rateAll_136 X
theorem s_X3_rateAll_81 {G : am_G} {bc bs : Nat} (X : am_Cx G cX3_rateAll RX3 "rateAll" rm_X3_rateAll none 4 bc bs true) : am_S G 81 (t_X3_rateAll_81) := by
  unfold t_X3_rateAll_81
  refine as_aload_n (pc := 81) X dX3_rateAll_81 rfl ?_
  refine as_getR (ci := 3) (j := 5) (pc := 82) X (Cn := RX3) (Tf := TX3) (N := 17) rfl rfl (by decide) iw_X3 aw_168 rfl dX3_rateAll_82 ?_
  refine as_iload_n (pc := 85) X dX3_rateAll_85 rfl ?_
  refine as_aload_n (pc := 86) X dX3_rateAll_86 rfl ?_
  refine as_getR (ci := 3) (j := 0) (pc := 87) X (Cn := RX3) (Tf := TX3) (N := 17) rfl rfl (by decide) iw_X3 aw_159 rfl dX3_rateAll_87 ?_
  refine as_iload_n (pc := 90) X dX3_rateAll_90 rfl ?_
  refine as_callV (ci := 1) (np := 1) (ix := 82) (pc := 91) X ct_X1_countingFix (Cn := (RX1, TX1, 14)) rfl ⟨rfl, rfl⟩ aw_427 aw_428 aw_429 aw_430 aw_61 (by decide +kernel) (by decide) dX3_rateAll_91 ?_
  refine as_iast (pc := 94) X dX3_rateAll_94 ?_
  refine as_aload_n (pc := 95) X dX3_rateAll_95 rfl ?_
  refine as_getR (ci := 3) (j := 6) (pc := 96) X (Cn := RX3) (Tf := TX3) (N := 17) rfl rfl (by decide) iw_X3 aw_169 rfl dX3_rateAll_96 ?_
  refine as_iload_n (pc := 99) X dX3_rateAll_99 rfl ?_
  refine as_aload_n (pc := 100) X dX3_rateAll_100 rfl ?_
  refine as_iload_n (pc := 101) X dX3_rateAll_101 rfl ?_
  refine as_callV (ci := 3) (np := 1) (ix := 85) (pc := 102) X ct_X3_choicesFor (Cn := (RX3, TX3, 17)) rfl ⟨rfl, rfl⟩ aw_431 aw_433 aw_6 aw_434 aw_60 (by decide +kernel) (by decide) dX3_rateAll_102 ?_
  refine as_iast (pc := 105) X dX3_rateAll_105 ?_
  refine as_aload_n (pc := 106) X dX3_rateAll_106 rfl ?_
  refine as_getR (ci := 3) (j := 7) (pc := 107) X (Cn := RX3) (Tf := TX3) (N := 17) rfl rfl (by decide) iw_X3 aw_170 rfl dX3_rateAll_107 ?_
  refine as_iload_n (pc := 110) X dX3_rateAll_110 rfl ?_
  refine as_aload_n (pc := 111) X dX3_rateAll_111 rfl ?_
  refine as_getR (ci := 3) (j := 5) (pc := 112) X (Cn := RX3) (Tf := TX3) (N := 17) rfl rfl (by decide) iw_X3 aw_168 rfl dX3_rateAll_112 ?_
  refine as_iload_n (pc := 115) X dX3_rateAll_115 rfl ?_
  refine as_iald (pc := 116) X dX3_rateAll_116 ?_
  refine as_iconst (pc := 117) X dX3_rateAll_117 (by decide) ?_
  refine as_ic_ne (pc := 118) X 135 dX3_rateAll_118 (by decide) (s_X3_rateAll_135 X) ?_
  refine as_aload_n (pc := 121) X dX3_rateAll_121 rfl ?_
  refine as_aload_n (pc := 122) X dX3_rateAll_122 rfl ?_
  refine as_getR (ci := 3) (j := 6) (pc := 123) X (Cn := RX3) (Tf := TX3) (N := 17) rfl rfl (by decide) iw_X3 aw_169 rfl dX3_rateAll_123 ?_
  refine as_iload_n (pc := 126) X dX3_rateAll_126 rfl ?_
  refine as_iald (pc := 127) X dX3_rateAll_127 ?_
  refine as_iload_n (pc := 128) X dX3_rateAll_128 rfl ?_
  refine as_callV (ci := 3) (np := 2) (ix := 88) (pc := 129) X ct_X3_bestOf (Cn := (RX3, TX3, 17)) rfl ⟨rfl, rfl⟩ aw_439 aw_441 aw_8 aw_442 aw_60 (by decide +kernel) (by decide) dX3_rateAll_129 ?_
  exact as_goto (pc := 132) X 136 dX3_rateAll_132 (by decide) (s_X3_rateAll_136 X)
theorem s_X3_rateAll_59 {G : am_G} {bc bs : Nat} (X : am_Cx G cX3_rateAll RX3 "rateAll" rm_X3_rateAll none 4 bc bs true) : am_S G 59 (t_X3_rateAll_59) := by
  unfold t_X3_rateAll_59
  refine as_iload_n (pc := 59) X dX3_rateAll_59 rfl ?_
  refine as_iload_n (pc := 60) X dX3_rateAll_60 rfl ?_
  refine as_ic_ge (pc := 61) X 81 dX3_rateAll_61 (by decide) (s_X3_rateAll_81 X) ?_
  refine as_aload_n (pc := 64) X dX3_rateAll_64 rfl ?_
  refine as_iload_n (pc := 65) X dX3_rateAll_65 rfl ?_
  refine as_aload_n (pc := 66) X dX3_rateAll_66 rfl ?_
  refine as_getR (ci := 3) (j := 1) (pc := 67) X (Cn := RX3) (Tf := TX3) (N := 17) rfl rfl (by decide) iw_X3 aw_161 rfl dX3_rateAll_67 ?_
  refine as_iload_n (pc := 70) X dX3_rateAll_70 rfl ?_
  refine as_iald (pc := 71) X dX3_rateAll_71 ?_
  refine as_callV (ci := 3) (np := 2) (ix := 78) (pc := 72) X ct_X3_rate (Cn := (RX3, TX3, 17)) rfl ⟨rfl, rfl⟩ aw_408 aw_410 aw_4 aw_411 aw_60 (by decide +kernel) (by decide) dX3_rateAll_72 ?_
  refine as_iinc (pc := 75) X dX3_rateAll_75 (by decide) (by decide) ?_
  exact as_goto (pc := 78) X 59 dX3_rateAll_78 (by decide) (as_head)
theorem s_X3_rateAll_39 {G : am_G} {bc bs : Nat} (X : am_Cx G cX3_rateAll RX3 "rateAll" rm_X3_rateAll none 4 bc bs true) : am_S G 39 (t_X3_rateAll_39) := by
  unfold t_X3_rateAll_39
  refine as_iload_n (pc := 39) X dX3_rateAll_39 rfl ?_
  refine as_aload_n (pc := 40) X dX3_rateAll_40 rfl ?_
  refine as_getR (ci := 3) (j := 0) (pc := 41) X (Cn := RX3) (Tf := TX3) (N := 17) rfl rfl (by decide) iw_X3 aw_159 rfl dX3_rateAll_41 ?_
  refine as_getI (ci := 1) (j := 4) (pc := 44) X (Cn := RX1) (Tf := TX1) (N := 14) rfl rfl (by decide) iw_X1 aw_99 rfl dX3_rateAll_44 ?_
  refine as_ic_ge (pc := 47) X 154 dX3_rateAll_47 (by decide) (s_X3_rateAll_154 X) ?_
  refine as_aload_n (pc := 50) X dX3_rateAll_50 rfl ?_
  refine as_getR (ci := 3) (j := 1) (pc := 51) X (Cn := RX3) (Tf := TX3) (N := 17) rfl rfl (by decide) iw_X3 aw_161 rfl dX3_rateAll_51 ?_
  refine as_iload_n (pc := 54) X dX3_rateAll_54 rfl ?_
  refine as_iald (pc := 55) X dX3_rateAll_55 ?_
  refine as_istore_n (pc := 56) X dX3_rateAll_56 rfl ?_ (by decide)
  refine as_iconst (pc := 57) X dX3_rateAll_57 (by decide) ?_
  refine as_istore_n (pc := 58) X dX3_rateAll_58 rfl ?_ (by decide)
  exact as_head
theorem s_X3_rateAll_37 {G : am_G} {bc bs : Nat} (X : am_Cx G cX3_rateAll RX3 "rateAll" rm_X3_rateAll none 4 bc bs true) : am_S G 37 (t_X3_rateAll_37) := by
  unfold t_X3_rateAll_37
  refine as_iconst (pc := 37) X dX3_rateAll_37 (by decide) ?_
  refine as_istore_n (pc := 38) X dX3_rateAll_38 rfl ?_ (by decide)
  exact as_head
theorem s_X3_rateAll_6 {G : am_G} {bc bs : Nat} (X : am_Cx G cX3_rateAll RX3 "rateAll" rm_X3_rateAll none 4 bc bs true) : am_S G 6 (t_X3_rateAll_6) := by
  unfold t_X3_rateAll_6
  refine as_iload_n (pc := 6) X dX3_rateAll_6 rfl ?_
  refine as_aload_n (pc := 7) X dX3_rateAll_7 rfl ?_
  refine as_getR (ci := 3) (j := 0) (pc := 8) X (Cn := RX3) (Tf := TX3) (N := 17) rfl rfl (by decide) iw_X3 aw_159 rfl dX3_rateAll_8 ?_
  refine as_getI (ci := 1) (j := 4) (pc := 11) X (Cn := RX1) (Tf := TX1) (N := 14) rfl rfl (by decide) iw_X1 aw_99 rfl dX3_rateAll_11 ?_
  refine as_ic_ge (pc := 14) X 37 dX3_rateAll_14 (by decide) (s_X3_rateAll_37 X) ?_
  refine as_aload_n (pc := 17) X dX3_rateAll_17 rfl ?_
  refine as_getR (ci := 3) (j := 3) (pc := 18) X (Cn := RX3) (Tf := TX3) (N := 17) rfl rfl (by decide) iw_X3 aw_165 rfl dX3_rateAll_18 ?_
  refine as_iload_n (pc := 21) X dX3_rateAll_21 rfl ?_
  refine as_aload_n (pc := 22) X dX3_rateAll_22 rfl ?_
  refine as_getR (ci := 3) (j := 0) (pc := 23) X (Cn := RX3) (Tf := TX3) (N := 17) rfl rfl (by decide) iw_X3 aw_159 rfl dX3_rateAll_23 ?_
  refine as_iload_n (pc := 26) X dX3_rateAll_26 rfl ?_
  refine as_callV (ci := 1) (np := 1) (ix := 74) (pc := 27) X ct_X1_personsNamedIn (Cn := (RX1, TX1, 14)) rfl ⟨rfl, rfl⟩ aw_401 aw_402 aw_403 aw_404 aw_61 (by decide +kernel) (by decide) dX3_rateAll_27 ?_
  refine as_iast (pc := 30) X dX3_rateAll_30 ?_
  refine as_iinc (pc := 31) X dX3_rateAll_31 (by decide) (by decide) ?_
  exact as_goto (pc := 34) X 6 dX3_rateAll_34 (by decide) (as_head)
theorem s_X3_rateAll_0 {G : am_G} {bc bs : Nat} (X : am_Cx G cX3_rateAll RX3 "rateAll" rm_X3_rateAll none 4 bc bs true) : am_S G 0 (t_X3_rateAll_0) := by
  unfold t_X3_rateAll_0
  refine as_aload_n (pc := 0) X dX3_rateAll_0 rfl ?_
  refine as_callV (ci := 3) (np := 0) (ix := 68) (pc := 1) X ct_X3_putInOrder (Cn := (RX3, TX3, 17)) rfl ⟨rfl, rfl⟩ aw_397 aw_399 aw_3 aw_400 aw_60 (by decide +kernel) (by decide) dX3_rateAll_1 ?_
  refine as_iconst (pc := 4) X dX3_rateAll_4 (by decide) ?_
  refine as_istore_n (pc := 5) X dX3_rateAll_5 rfl ?_ (by decide)
  exact as_head
theorem s_X3_rateAll {G : am_G} {bc bs : Nat} (X : am_Cx G cX3_rateAll RX3 "rateAll" rm_X3_rateAll none 4 bc bs true) (h : Nat) : am_S G h (h_X3_rateAll h) := by
  unfold h_X3_rateAll
  split
  · next e => rw [e]; exact s_X3_rateAll_0 X
  split
  · next e => rw [e]; exact s_X3_rateAll_6 X
  split
  · next e => rw [e]; exact s_X3_rateAll_39 X
  split
  · next e => rw [e]; exact s_X3_rateAll_59 X
  exact as_bad
theorem ct_X3_rateAll : am_Ct yX3_rateAll cX3_rateAll 4 none rm_X3_rateAll sp_X3_rateAll := am_met (own := RX3) (nm := "rateAll") (by decide) rfl rfl (Or.inl rfl) (fun _ _ => h_X3_rateAll) (fun _ _ _ X => s_X3_rateAll X) (fun _ _ _ _ h => h)
-- X3_isPassed
theorem dX3_isPassed_0 : decode cX3_isPassed 0 = .ok (.iload_n 2, 1) := by decide +kernel
theorem dX3_isPassed_1 : decode cX3_isPassed 1 = .ok (.iconst (-1), 1) := by decide +kernel
theorem dX3_isPassed_2 : decode cX3_isPassed 2 = .ok (.if_icmp .eq 25, 3) := by decide +kernel
theorem dX3_isPassed_5 : decode cX3_isPassed 5 = .ok (.aload_n 0, 1) := by decide +kernel
theorem dX3_isPassed_6 : decode cX3_isPassed 6 = .ok (.iload_n 1, 1) := by decide +kernel
theorem dX3_isPassed_7 : decode cX3_isPassed 7 = .ok (.iload_n 2, 1) := by decide +kernel
theorem dX3_isPassed_8 : decode cX3_isPassed 8 = .ok (.invokevirtual 137, 3) := by decide +kernel
theorem dX3_isPassed_11 : decode cX3_isPassed 11 = .ok (.aload_n 0, 1) := by decide +kernel
theorem dX3_isPassed_12 : decode cX3_isPassed 12 = .ok (.getfield 12, 3) := by decide +kernel
theorem dX3_isPassed_15 : decode cX3_isPassed 15 = .ok (.getfield 105, 3) := by decide +kernel
theorem dX3_isPassed_18 : decode cX3_isPassed 18 = .ok (.iconst 1, 1) := by decide +kernel
theorem dX3_isPassed_19 : decode cX3_isPassed 19 = .ok (.iaload, 1) := by decide +kernel
theorem dX3_isPassed_20 : decode cX3_isPassed 20 = .ok (.if_icmp .lt 7, 3) := by decide +kernel
theorem dX3_isPassed_23 : decode cX3_isPassed 23 = .ok (.iconst 1, 1) := by decide +kernel
theorem dX3_isPassed_24 : decode cX3_isPassed 24 = .ok (.goto 4, 3) := by decide +kernel
theorem dX3_isPassed_27 : decode cX3_isPassed 27 = .ok (.iconst 0, 1) := by decide +kernel
theorem dX3_isPassed_28 : decode cX3_isPassed 28 = .ok (.ireturn, 1) := by decide +kernel
def t_X3_isPassed_28 : am_T := tb_zret
def t_X3_isPassed_27 : am_T := tb_const 0 <|
  t_X3_isPassed_28
def t_X3_isPassed_0 : am_T := tb_iload 2 <|
  tb_const (-1) <|
  tb_ic (fun x y => x = y) (t_X3_isPassed_27) <|
  tb_aload 0 <|
  tb_iload 1 <|
  tb_iload 2 <|
  tb_callV 3 sp_X3_scoreFor 3 <|
  tb_aload 0 <|
  tb_getR 3 0 <|
  tb_getR 1 13 <|
  tb_const 1 <|
  tb_iald <|
  tb_ic (fun x y => x < y) (t_X3_isPassed_27) <|
  tb_const 1 <|
  t_X3_isPassed_28
def h_X3_isPassed : am_Hd := fun h => if h = 0 then t_X3_isPassed_0 else tb_bad
theorem h_X3_isPassed_0 : h_X3_isPassed 0 = t_X3_isPassed_0 := rfl
def rm_X3_isPassed : Room := { frames := 1, cells := 0, slots := 0, locals := 22 }
def sp_X3_isPassed : am_sp := fun as M Q => as.length ≤ 3 ∧ am_OK h_X3_isPassed Q 0 (am_in 3 as) M
theorem s_X3_isPassed_28 {G : am_G} {bc bs : Nat} (X : am_Cx G cX3_isPassed RX3 "isPassed" rm_X3_isPassed (some .boolean) 3 bc bs true) : am_S G 28 (t_X3_isPassed_28) := by
  unfold t_X3_isPassed_28
  exact as_zret (pc := 28) X ⟨rfl, rfl⟩ rfl dX3_isPassed_28
theorem s_X3_isPassed_27 {G : am_G} {bc bs : Nat} (X : am_Cx G cX3_isPassed RX3 "isPassed" rm_X3_isPassed (some .boolean) 3 bc bs true) : am_S G 27 (t_X3_isPassed_27) := by
  unfold t_X3_isPassed_27
  refine as_iconst (pc := 27) X dX3_isPassed_27 (by decide) ?_
  exact s_X3_isPassed_28 X
theorem s_X3_isPassed_0 {G : am_G} {bc bs : Nat} (X : am_Cx G cX3_isPassed RX3 "isPassed" rm_X3_isPassed (some .boolean) 3 bc bs true) : am_S G 0 (t_X3_isPassed_0) := by
  unfold t_X3_isPassed_0
  refine as_iload_n (pc := 0) X dX3_isPassed_0 rfl ?_
  refine as_iconst (pc := 1) X dX3_isPassed_1 (by decide) ?_
  refine as_ic_eq (pc := 2) X 27 dX3_isPassed_2 (by decide) (s_X3_isPassed_27 X) ?_
  refine as_aload_n (pc := 5) X dX3_isPassed_5 rfl ?_
  refine as_iload_n (pc := 6) X dX3_isPassed_6 rfl ?_
  refine as_iload_n (pc := 7) X dX3_isPassed_7 rfl ?_
  refine as_callV (ci := 3) (np := 2) (ix := 137) (pc := 8) X ct_X3_scoreFor (Cn := (RX3, TX3, 17)) rfl ⟨rfl, rfl⟩ aw_443 aw_444 aw_445 aw_446 aw_60 (by decide +kernel) (by decide) dX3_isPassed_8 ?_
  refine as_aload_n (pc := 11) X dX3_isPassed_11 rfl ?_
  refine as_getR (ci := 3) (j := 0) (pc := 12) X (Cn := RX3) (Tf := TX3) (N := 17) rfl rfl (by decide) iw_X3 aw_159 rfl dX3_isPassed_12 ?_
  refine as_getR (ci := 1) (j := 13) (pc := 15) X (Cn := RX1) (Tf := TX1) (N := 14) rfl rfl (by decide) iw_X1 aw_127 rfl dX3_isPassed_15 ?_
  refine as_iconst (pc := 18) X dX3_isPassed_18 (by decide) ?_
  refine as_iald (pc := 19) X dX3_isPassed_19 ?_
  refine as_ic_lt (pc := 20) X 27 dX3_isPassed_20 (by decide) (s_X3_isPassed_27 X) ?_
  refine as_iconst (pc := 23) X dX3_isPassed_23 (by decide) ?_
  exact as_goto (pc := 24) X 28 dX3_isPassed_24 (by decide) (s_X3_isPassed_28 X)
theorem s_X3_isPassed {G : am_G} {bc bs : Nat} (X : am_Cx G cX3_isPassed RX3 "isPassed" rm_X3_isPassed (some .boolean) 3 bc bs true) (h : Nat) : am_S G h (h_X3_isPassed h) := by
  unfold h_X3_isPassed
  split
  · next e => rw [e]; exact s_X3_isPassed_0 X
  exact as_bad
theorem ct_X3_isPassed : am_Ct yX3_isPassed cX3_isPassed 3 (some .boolean) rm_X3_isPassed sp_X3_isPassed := am_met (own := RX3) (nm := "isPassed") (by decide) rfl rfl (Or.inr (Or.inr (Or.inl rfl))) (fun _ _ => h_X3_isPassed) (fun _ _ _ X => s_X3_isPassed X) (fun _ _ _ _ h => h)
-- X3_answerOf
theorem dX3_answerOf_0 : decode cX3_answerOf 0 = .ok (.aload_n 0, 1) := by decide +kernel
theorem dX3_answerOf_1 : decode cX3_answerOf 1 = .ok (.getfield 31, 3) := by decide +kernel
theorem dX3_answerOf_4 : decode cX3_answerOf 4 = .ok (.iload_n 1, 1) := by decide +kernel
theorem dX3_answerOf_5 : decode cX3_answerOf 5 = .ok (.iaload, 1) := by decide +kernel
theorem dX3_answerOf_6 : decode cX3_answerOf 6 = .ok (.iconst (-1), 1) := by decide +kernel
theorem dX3_answerOf_7 : decode cX3_answerOf 7 = .ok (.if_icmp .eq 18, 3) := by decide +kernel
theorem dX3_answerOf_10 : decode cX3_answerOf 10 = .ok (.aload_n 0, 1) := by decide +kernel
theorem dX3_answerOf_11 : decode cX3_answerOf 11 = .ok (.getfield 12, 3) := by decide +kernel
theorem dX3_answerOf_14 : decode cX3_answerOf 14 = .ok (.getfield 134, 3) := by decide +kernel
theorem dX3_answerOf_17 : decode cX3_answerOf 17 = .ok (.aload_n 0, 1) := by decide +kernel
theorem dX3_answerOf_18 : decode cX3_answerOf 18 = .ok (.getfield 31, 3) := by decide +kernel
theorem dX3_answerOf_21 : decode cX3_answerOf 21 = .ok (.iload_n 1, 1) := by decide +kernel
theorem dX3_answerOf_22 : decode cX3_answerOf 22 = .ok (.iaload, 1) := by decide +kernel
theorem dX3_answerOf_23 : decode cX3_answerOf 23 = .ok (.iaload, 1) := by decide +kernel
theorem dX3_answerOf_24 : decode cX3_answerOf 24 = .ok (.ireturn, 1) := by decide +kernel
theorem dX3_answerOf_25 : decode cX3_answerOf 25 = .ok (.aload_n 0, 1) := by decide +kernel
theorem dX3_answerOf_26 : decode cX3_answerOf 26 = .ok (.iload_n 1, 1) := by decide +kernel
theorem dX3_answerOf_27 : decode cX3_answerOf 27 = .ok (.aload_n 0, 1) := by decide +kernel
theorem dX3_answerOf_28 : decode cX3_answerOf 28 = .ok (.getfield 37, 3) := by decide +kernel
theorem dX3_answerOf_31 : decode cX3_answerOf 31 = .ok (.iload_n 1, 1) := by decide +kernel
theorem dX3_answerOf_32 : decode cX3_answerOf 32 = .ok (.iaload, 1) := by decide +kernel
theorem dX3_answerOf_33 : decode cX3_answerOf 33 = .ok (.invokevirtual 153, 3) := by decide +kernel
theorem dX3_answerOf_36 : decode cX3_answerOf 36 = .ok (.ifCond .eq 12, 3) := by decide +kernel
theorem dX3_answerOf_39 : decode cX3_answerOf 39 = .ok (.aload_n 0, 1) := by decide +kernel
theorem dX3_answerOf_40 : decode cX3_answerOf 40 = .ok (.getfield 37, 3) := by decide +kernel
theorem dX3_answerOf_43 : decode cX3_answerOf 43 = .ok (.iload_n 1, 1) := by decide +kernel
theorem dX3_answerOf_44 : decode cX3_answerOf 44 = .ok (.iaload, 1) := by decide +kernel
theorem dX3_answerOf_45 : decode cX3_answerOf 45 = .ok (.goto 4, 3) := by decide +kernel
theorem dX3_answerOf_48 : decode cX3_answerOf 48 = .ok (.iconst (-1), 1) := by decide +kernel
theorem dX3_answerOf_49 : decode cX3_answerOf 49 = .ok (.ireturn, 1) := by decide +kernel
def t_X3_answerOf_49 : am_T := tb_iret
def t_X3_answerOf_48 : am_T := tb_const (-1) <|
  t_X3_answerOf_49
def t_X3_answerOf_25 : am_T := tb_aload 0 <|
  tb_iload 1 <|
  tb_aload 0 <|
  tb_getR 3 7 <|
  tb_iload 1 <|
  tb_iald <|
  tb_callV 3 sp_X3_isPassed 3 <|
  tb_if (fun x => x = 0) (t_X3_answerOf_48) <|
  tb_aload 0 <|
  tb_getR 3 7 <|
  tb_iload 1 <|
  tb_iald <|
  t_X3_answerOf_49
def t_X3_answerOf_0 : am_T := tb_aload 0 <|
  tb_getR 3 5 <|
  tb_iload 1 <|
  tb_iald <|
  tb_const (-1) <|
  tb_ic (fun x y => x = y) (t_X3_answerOf_25) <|
  tb_aload 0 <|
  tb_getR 3 0 <|
  tb_getR 1 12 <|
  tb_aload 0 <|
  tb_getR 3 5 <|
  tb_iload 1 <|
  tb_iald <|
  tb_iald <|
  tb_iret
def h_X3_answerOf : am_Hd := fun h => if h = 0 then t_X3_answerOf_0 else tb_bad
theorem h_X3_answerOf_0 : h_X3_answerOf 0 = t_X3_answerOf_0 := rfl
def rm_X3_answerOf : Room := { frames := 2, cells := 0, slots := 0, locals := 44 }
def sp_X3_answerOf : am_sp := fun as M Q => as.length ≤ 2 ∧ am_OK h_X3_answerOf Q 0 (am_in 2 as) M
theorem s_X3_answerOf_49 {G : am_G} {bc bs : Nat} (X : am_Cx G cX3_answerOf RX3 "answerOf" rm_X3_answerOf (some .int) 2 bc bs true) : am_S G 49 (t_X3_answerOf_49) := by
  unfold t_X3_answerOf_49
  exact as_iret (pc := 49) X ⟨rfl, rfl⟩ rfl dX3_answerOf_49
theorem s_X3_answerOf_48 {G : am_G} {bc bs : Nat} (X : am_Cx G cX3_answerOf RX3 "answerOf" rm_X3_answerOf (some .int) 2 bc bs true) : am_S G 48 (t_X3_answerOf_48) := by
  unfold t_X3_answerOf_48
  refine as_iconst (pc := 48) X dX3_answerOf_48 (by decide) ?_
  exact s_X3_answerOf_49 X
theorem s_X3_answerOf_25 {G : am_G} {bc bs : Nat} (X : am_Cx G cX3_answerOf RX3 "answerOf" rm_X3_answerOf (some .int) 2 bc bs true) : am_S G 25 (t_X3_answerOf_25) := by
  unfold t_X3_answerOf_25
  refine as_aload_n (pc := 25) X dX3_answerOf_25 rfl ?_
  refine as_iload_n (pc := 26) X dX3_answerOf_26 rfl ?_
  refine as_aload_n (pc := 27) X dX3_answerOf_27 rfl ?_
  refine as_getR (ci := 3) (j := 7) (pc := 28) X (Cn := RX3) (Tf := TX3) (N := 17) rfl rfl (by decide) iw_X3 aw_170 rfl dX3_answerOf_28 ?_
  refine as_iload_n (pc := 31) X dX3_answerOf_31 rfl ?_
  refine as_iald (pc := 32) X dX3_answerOf_32 ?_
  refine as_callV (ci := 3) (np := 2) (ix := 153) (pc := 33) X ct_X3_isPassed (Cn := (RX3, TX3, 17)) rfl ⟨rfl, rfl⟩ aw_463 aw_465 aw_12 aw_466 aw_60 (by decide +kernel) (by decide) dX3_answerOf_33 ?_
  refine as_if_eq (pc := 36) X 48 dX3_answerOf_36 (by decide) (s_X3_answerOf_48 X) ?_
  refine as_aload_n (pc := 39) X dX3_answerOf_39 rfl ?_
  refine as_getR (ci := 3) (j := 7) (pc := 40) X (Cn := RX3) (Tf := TX3) (N := 17) rfl rfl (by decide) iw_X3 aw_170 rfl dX3_answerOf_40 ?_
  refine as_iload_n (pc := 43) X dX3_answerOf_43 rfl ?_
  refine as_iald (pc := 44) X dX3_answerOf_44 ?_
  exact as_goto (pc := 45) X 49 dX3_answerOf_45 (by decide) (s_X3_answerOf_49 X)
theorem s_X3_answerOf_0 {G : am_G} {bc bs : Nat} (X : am_Cx G cX3_answerOf RX3 "answerOf" rm_X3_answerOf (some .int) 2 bc bs true) : am_S G 0 (t_X3_answerOf_0) := by
  unfold t_X3_answerOf_0
  refine as_aload_n (pc := 0) X dX3_answerOf_0 rfl ?_
  refine as_getR (ci := 3) (j := 5) (pc := 1) X (Cn := RX3) (Tf := TX3) (N := 17) rfl rfl (by decide) iw_X3 aw_168 rfl dX3_answerOf_1 ?_
  refine as_iload_n (pc := 4) X dX3_answerOf_4 rfl ?_
  refine as_iald (pc := 5) X dX3_answerOf_5 ?_
  refine as_iconst (pc := 6) X dX3_answerOf_6 (by decide) ?_
  refine as_ic_eq (pc := 7) X 25 dX3_answerOf_7 (by decide) (s_X3_answerOf_25 X) ?_
  refine as_aload_n (pc := 10) X dX3_answerOf_10 rfl ?_
  refine as_getR (ci := 3) (j := 0) (pc := 11) X (Cn := RX3) (Tf := TX3) (N := 17) rfl rfl (by decide) iw_X3 aw_159 rfl dX3_answerOf_11 ?_
  refine as_getR (ci := 1) (j := 12) (pc := 14) X (Cn := RX1) (Tf := TX1) (N := 14) rfl rfl (by decide) iw_X1 aw_124 rfl dX3_answerOf_14 ?_
  refine as_aload_n (pc := 17) X dX3_answerOf_17 rfl ?_
  refine as_getR (ci := 3) (j := 5) (pc := 18) X (Cn := RX3) (Tf := TX3) (N := 17) rfl rfl (by decide) iw_X3 aw_168 rfl dX3_answerOf_18 ?_
  refine as_iload_n (pc := 21) X dX3_answerOf_21 rfl ?_
  refine as_iald (pc := 22) X dX3_answerOf_22 ?_
  refine as_iald (pc := 23) X dX3_answerOf_23 ?_
  exact as_iret (pc := 24) X ⟨rfl, rfl⟩ rfl dX3_answerOf_24
theorem s_X3_answerOf {G : am_G} {bc bs : Nat} (X : am_Cx G cX3_answerOf RX3 "answerOf" rm_X3_answerOf (some .int) 2 bc bs true) (h : Nat) : am_S G h (h_X3_answerOf h) := by
  unfold h_X3_answerOf
  split
  · next e => rw [e]; exact s_X3_answerOf_0 X
  exact as_bad
theorem ct_X3_answerOf : am_Ct yX3_answerOf cX3_answerOf 2 (some .int) rm_X3_answerOf sp_X3_answerOf := am_met (own := RX3) (nm := "answerOf") (by decide) rfl rfl (Or.inr (Or.inl rfl)) (fun _ _ => h_X3_answerOf) (fun _ _ _ X => s_X3_answerOf X) (fun _ _ _ _ h => h)
-- X3_join
theorem dX3_join_0 : decode cX3_join 0 = .ok (.iload_n 1, 1) := by decide +kernel
theorem dX3_join_1 : decode cX3_join 1 = .ok (.iload_n 2, 1) := by decide +kernel
theorem dX3_join_2 : decode cX3_join 2 = .ok (.invokestatic 160, 3) := by decide +kernel
theorem dX3_join_5 : decode cX3_join 5 = .ok (.istore 4, 2) := by decide +kernel
theorem dX3_join_7 : decode cX3_join 7 = .ok (.iload_n 1, 1) := by decide +kernel
theorem dX3_join_8 : decode cX3_join 8 = .ok (.iload_n 2, 1) := by decide +kernel
theorem dX3_join_9 : decode cX3_join 9 = .ok (.invokestatic 165, 3) := by decide +kernel
theorem dX3_join_12 : decode cX3_join 12 = .ok (.istore 5, 2) := by decide +kernel
theorem dX3_join_14 : decode cX3_join 14 = .ok (.iconst 0, 1) := by decide +kernel
theorem dX3_join_15 : decode cX3_join 15 = .ok (.istore 6, 2) := by decide +kernel
theorem dX3_join_17 : decode cX3_join 17 = .ok (.iload 6, 2) := by decide +kernel
theorem dX3_join_19 : decode cX3_join 19 = .ok (.iload_n 3, 1) := by decide +kernel
theorem dX3_join_20 : decode cX3_join 20 = .ok (.if_icmp .gt 40, 3) := by decide +kernel
theorem dX3_join_23 : decode cX3_join 23 = .ok (.aload_n 0, 1) := by decide +kernel
theorem dX3_join_24 : decode cX3_join 24 = .ok (.getfield 52, 3) := by decide +kernel
theorem dX3_join_27 : decode cX3_join 27 = .ok (.aload_n 0, 1) := by decide +kernel
theorem dX3_join_28 : decode cX3_join 28 = .ok (.getfield 18, 3) := by decide +kernel
theorem dX3_join_31 : decode cX3_join 31 = .ok (.iload 6, 2) := by decide +kernel
theorem dX3_join_33 : decode cX3_join 33 = .ok (.iaload, 1) := by decide +kernel
theorem dX3_join_34 : decode cX3_join 34 = .ok (.iaload, 1) := by decide +kernel
theorem dX3_join_35 : decode cX3_join 35 = .ok (.iload 5, 2) := by decide +kernel
theorem dX3_join_37 : decode cX3_join 37 = .ok (.if_icmp .ne 17, 3) := by decide +kernel
theorem dX3_join_40 : decode cX3_join 40 = .ok (.aload_n 0, 1) := by decide +kernel
theorem dX3_join_41 : decode cX3_join 41 = .ok (.getfield 52, 3) := by decide +kernel
theorem dX3_join_44 : decode cX3_join 44 = .ok (.aload_n 0, 1) := by decide +kernel
theorem dX3_join_45 : decode cX3_join 45 = .ok (.getfield 18, 3) := by decide +kernel
theorem dX3_join_48 : decode cX3_join 48 = .ok (.iload 6, 2) := by decide +kernel
theorem dX3_join_50 : decode cX3_join 50 = .ok (.iaload, 1) := by decide +kernel
theorem dX3_join_51 : decode cX3_join 51 = .ok (.iload 4, 2) := by decide +kernel
theorem dX3_join_53 : decode cX3_join 53 = .ok (.iastore, 1) := by decide +kernel
theorem dX3_join_54 : decode cX3_join 54 = .ok (.iinc 6 1, 3) := by decide +kernel
theorem dX3_join_57 : decode cX3_join 57 = .ok (.goto (-40), 3) := by decide +kernel
theorem dX3_join_60 : decode cX3_join 60 = .ok (.return_, 1) := by decide +kernel
def t_X3_join_60 : am_T := tb_ret
def t_X3_join_54 : am_T := tb_iinc 6 1 <|
  tb_head 17
def t_X3_join_17 : am_T := tb_iload 6 <|
  tb_iload 3 <|
  tb_ic (fun x y => y < x) (t_X3_join_60) <|
  tb_aload 0 <|
  tb_getR 3 12 <|
  tb_aload 0 <|
  tb_getR 3 1 <|
  tb_iload 6 <|
  tb_iald <|
  tb_iald <|
  tb_iload 5 <|
  tb_ic (fun x y => x ≠ y) (t_X3_join_54) <|
  tb_aload 0 <|
  tb_getR 3 12 <|
  tb_aload 0 <|
  tb_getR 3 1 <|
  tb_iload 6 <|
  tb_iald <|
  tb_iload 4 <|
  tb_iast <|
  t_X3_join_54
def t_X3_join_0 : am_T := tb_iload 1 <|
  tb_iload 2 <|
  tb_mm (fun x y => if y < x then y else x) <|
  tb_istore 4 <|
  tb_iload 1 <|
  tb_iload 2 <|
  tb_mm (fun x y => if x < y then y else x) <|
  tb_istore 5 <|
  tb_const 0 <|
  tb_istore 6 <|
  tb_head 17
def h_X3_join : am_Hd := fun h => if h = 0 then t_X3_join_0 else if h = 17 then t_X3_join_17 else tb_bad
theorem h_X3_join_0 : h_X3_join 0 = t_X3_join_0 := rfl
theorem h_X3_join_17 : h_X3_join 17 = t_X3_join_17 := rfl
def rm_X3_join : Room := { frames := 1, cells := 0, slots := 0, locals := 21 }
def sp_X3_join : am_sp := fun as M Q => as.length ≤ 7 ∧ am_OK h_X3_join Q 0 (am_in 7 as) M
theorem s_X3_join_60 {G : am_G} {bc bs : Nat} (X : am_Cx G cX3_join RX3 "join" rm_X3_join none 7 bc bs true) : am_S G 60 (t_X3_join_60) := by
  unfold t_X3_join_60
  exact as_ret (pc := 60) X ⟨rfl, rfl⟩ rfl dX3_join_60
theorem s_X3_join_54 {G : am_G} {bc bs : Nat} (X : am_Cx G cX3_join RX3 "join" rm_X3_join none 7 bc bs true) : am_S G 54 (t_X3_join_54) := by
  unfold t_X3_join_54
  refine as_iinc (pc := 54) X dX3_join_54 (by decide) (by decide) ?_
  exact as_goto (pc := 57) X 17 dX3_join_57 (by decide) (as_head)
theorem s_X3_join_17 {G : am_G} {bc bs : Nat} (X : am_Cx G cX3_join RX3 "join" rm_X3_join none 7 bc bs true) : am_S G 17 (t_X3_join_17) := by
  unfold t_X3_join_17
  refine as_iload (pc := 17) X dX3_join_17 ?_
  refine as_iload_n (pc := 19) X dX3_join_19 rfl ?_
  refine as_ic_gt (pc := 20) X 60 dX3_join_20 (by decide) (s_X3_join_60 X) ?_
  refine as_aload_n (pc := 23) X dX3_join_23 rfl ?_
  refine as_getR (ci := 3) (j := 12) (pc := 24) X (Cn := RX3) (Tf := TX3) (N := 17) rfl rfl (by decide) iw_X3 aw_177 rfl dX3_join_24 ?_
  refine as_aload_n (pc := 27) X dX3_join_27 rfl ?_
  refine as_getR (ci := 3) (j := 1) (pc := 28) X (Cn := RX3) (Tf := TX3) (N := 17) rfl rfl (by decide) iw_X3 aw_161 rfl dX3_join_28 ?_
  refine as_iload (pc := 31) X dX3_join_31 ?_
  refine as_iald (pc := 33) X dX3_join_33 ?_
  refine as_iald (pc := 34) X dX3_join_34 ?_
  refine as_iload (pc := 35) X dX3_join_35 ?_
  refine as_ic_ne (pc := 37) X 54 dX3_join_37 (by decide) (s_X3_join_54 X) ?_
  refine as_aload_n (pc := 40) X dX3_join_40 rfl ?_
  refine as_getR (ci := 3) (j := 12) (pc := 41) X (Cn := RX3) (Tf := TX3) (N := 17) rfl rfl (by decide) iw_X3 aw_177 rfl dX3_join_41 ?_
  refine as_aload_n (pc := 44) X dX3_join_44 rfl ?_
  refine as_getR (ci := 3) (j := 1) (pc := 45) X (Cn := RX3) (Tf := TX3) (N := 17) rfl rfl (by decide) iw_X3 aw_161 rfl dX3_join_45 ?_
  refine as_iload (pc := 48) X dX3_join_48 ?_
  refine as_iald (pc := 50) X dX3_join_50 ?_
  refine as_iload (pc := 51) X dX3_join_51 ?_
  refine as_iast (pc := 53) X dX3_join_53 ?_
  exact s_X3_join_54 X
theorem s_X3_join_0 {G : am_G} {bc bs : Nat} (X : am_Cx G cX3_join RX3 "join" rm_X3_join none 7 bc bs true) : am_S G 0 (t_X3_join_0) := by
  unfold t_X3_join_0
  refine as_iload_n (pc := 0) X dX3_join_0 rfl ?_
  refine as_iload_n (pc := 1) X dX3_join_1 rfl ?_
  refine as_mmin (pc := 2) X aw_475 aw_476 aw_67 aw_477 (by decide) (by decide) dX3_join_2 ?_
  refine as_istore (pc := 5) X dX3_join_5 ?_ (by decide)
  refine as_iload_n (pc := 7) X dX3_join_7 rfl ?_
  refine as_iload_n (pc := 8) X dX3_join_8 rfl ?_
  refine as_mmax (pc := 9) X aw_478 aw_479 aw_67 aw_480 (by decide) (by decide) dX3_join_9 ?_
  refine as_istore (pc := 12) X dX3_join_12 ?_ (by decide)
  refine as_iconst (pc := 14) X dX3_join_14 (by decide) ?_
  refine as_istore (pc := 15) X dX3_join_15 ?_ (by decide)
  exact as_head
theorem s_X3_join {G : am_G} {bc bs : Nat} (X : am_Cx G cX3_join RX3 "join" rm_X3_join none 7 bc bs true) (h : Nat) : am_S G h (h_X3_join h) := by
  unfold h_X3_join
  split
  · next e => rw [e]; exact s_X3_join_0 X
  split
  · next e => rw [e]; exact s_X3_join_17 X
  exact as_bad
theorem ct_X3_join : am_Ct yX3_join cX3_join 7 none rm_X3_join sp_X3_join := am_met (own := RX3) (nm := "join") (by decide) rfl rfl (Or.inl rfl) (fun _ _ => h_X3_join) (fun _ _ _ X => s_X3_join X) (fun _ _ _ _ h => h)
-- X3_joinRivals
theorem dX3_joinRivals_0 : decode cX3_joinRivals 0 = .ok (.iconst 0, 1) := by decide +kernel
theorem dX3_joinRivals_1 : decode cX3_joinRivals 1 = .ok (.istore_n 2, 1) := by decide +kernel
theorem dX3_joinRivals_2 : decode cX3_joinRivals 2 = .ok (.iload_n 2, 1) := by decide +kernel
theorem dX3_joinRivals_3 : decode cX3_joinRivals 3 = .ok (.aload_n 0, 1) := by decide +kernel
theorem dX3_joinRivals_4 : decode cX3_joinRivals 4 = .ok (.getfield 22, 3) := by decide +kernel
theorem dX3_joinRivals_7 : decode cX3_joinRivals 7 = .ok (.iload_n 1, 1) := by decide +kernel
theorem dX3_joinRivals_8 : decode cX3_joinRivals 8 = .ok (.iaload, 1) := by decide +kernel
theorem dX3_joinRivals_9 : decode cX3_joinRivals 9 = .ok (.if_icmp .ge 85, 3) := by decide +kernel
theorem dX3_joinRivals_12 : decode cX3_joinRivals 12 = .ok (.aload_n 0, 1) := by decide +kernel
theorem dX3_joinRivals_13 : decode cX3_joinRivals 13 = .ok (.getfield 18, 3) := by decide +kernel
theorem dX3_joinRivals_16 : decode cX3_joinRivals 16 = .ok (.iload_n 2, 1) := by decide +kernel
theorem dX3_joinRivals_17 : decode cX3_joinRivals 17 = .ok (.iaload, 1) := by decide +kernel
theorem dX3_joinRivals_18 : decode cX3_joinRivals 18 = .ok (.istore_n 3, 1) := by decide +kernel
theorem dX3_joinRivals_19 : decode cX3_joinRivals 19 = .ok (.aload_n 0, 1) := by decide +kernel
theorem dX3_joinRivals_20 : decode cX3_joinRivals 20 = .ok (.getfield 40, 3) := by decide +kernel
theorem dX3_joinRivals_23 : decode cX3_joinRivals 23 = .ok (.iload_n 1, 1) := by decide +kernel
theorem dX3_joinRivals_24 : decode cX3_joinRivals 24 = .ok (.iaload, 1) := by decide +kernel
theorem dX3_joinRivals_25 : decode cX3_joinRivals 25 = .ok (.iload_n 3, 1) := by decide +kernel
theorem dX3_joinRivals_26 : decode cX3_joinRivals 26 = .ok (.invokestatic 119, 3) := by decide +kernel
theorem dX3_joinRivals_29 : decode cX3_joinRivals 29 = .ok (.ifCond .eq 59, 3) := by decide +kernel
theorem dX3_joinRivals_32 : decode cX3_joinRivals 32 = .ok (.aload_n 0, 1) := by decide +kernel
theorem dX3_joinRivals_33 : decode cX3_joinRivals 33 = .ok (.getfield 52, 3) := by decide +kernel
theorem dX3_joinRivals_36 : decode cX3_joinRivals 36 = .ok (.iload_n 3, 1) := by decide +kernel
theorem dX3_joinRivals_37 : decode cX3_joinRivals 37 = .ok (.iaload, 1) := by decide +kernel
theorem dX3_joinRivals_38 : decode cX3_joinRivals 38 = .ok (.aload_n 0, 1) := by decide +kernel
theorem dX3_joinRivals_39 : decode cX3_joinRivals 39 = .ok (.getfield 52, 3) := by decide +kernel
theorem dX3_joinRivals_42 : decode cX3_joinRivals 42 = .ok (.iload_n 1, 1) := by decide +kernel
theorem dX3_joinRivals_43 : decode cX3_joinRivals 43 = .ok (.iaload, 1) := by decide +kernel
theorem dX3_joinRivals_44 : decode cX3_joinRivals 44 = .ok (.if_icmp .eq 44, 3) := by decide +kernel
theorem dX3_joinRivals_47 : decode cX3_joinRivals 47 = .ok (.aload_n 0, 1) := by decide +kernel
theorem dX3_joinRivals_48 : decode cX3_joinRivals 48 = .ok (.iload_n 1, 1) := by decide +kernel
theorem dX3_joinRivals_49 : decode cX3_joinRivals 49 = .ok (.iload_n 3, 1) := by decide +kernel
theorem dX3_joinRivals_50 : decode cX3_joinRivals 50 = .ok (.invokevirtual 153, 3) := by decide +kernel
theorem dX3_joinRivals_53 : decode cX3_joinRivals 53 = .ok (.ifCond .eq 35, 3) := by decide +kernel
theorem dX3_joinRivals_56 : decode cX3_joinRivals 56 = .ok (.aload_n 0, 1) := by decide +kernel
theorem dX3_joinRivals_57 : decode cX3_joinRivals 57 = .ok (.aload_n 0, 1) := by decide +kernel
theorem dX3_joinRivals_58 : decode cX3_joinRivals 58 = .ok (.getfield 52, 3) := by decide +kernel
theorem dX3_joinRivals_61 : decode cX3_joinRivals 61 = .ok (.iload_n 1, 1) := by decide +kernel
theorem dX3_joinRivals_62 : decode cX3_joinRivals 62 = .ok (.iaload, 1) := by decide +kernel
theorem dX3_joinRivals_63 : decode cX3_joinRivals 63 = .ok (.aload_n 0, 1) := by decide +kernel
theorem dX3_joinRivals_64 : decode cX3_joinRivals 64 = .ok (.getfield 52, 3) := by decide +kernel
theorem dX3_joinRivals_67 : decode cX3_joinRivals 67 = .ok (.iload_n 3, 1) := by decide +kernel
theorem dX3_joinRivals_68 : decode cX3_joinRivals 68 = .ok (.iaload, 1) := by decide +kernel
theorem dX3_joinRivals_69 : decode cX3_joinRivals 69 = .ok (.aload_n 0, 1) := by decide +kernel
theorem dX3_joinRivals_70 : decode cX3_joinRivals 70 = .ok (.getfield 22, 3) := by decide +kernel
theorem dX3_joinRivals_73 : decode cX3_joinRivals 73 = .ok (.iload_n 1, 1) := by decide +kernel
theorem dX3_joinRivals_74 : decode cX3_joinRivals 74 = .ok (.iaload, 1) := by decide +kernel
theorem dX3_joinRivals_75 : decode cX3_joinRivals 75 = .ok (.invokevirtual 156, 3) := by decide +kernel
theorem dX3_joinRivals_78 : decode cX3_joinRivals 78 = .ok (.aload_n 0, 1) := by decide +kernel
theorem dX3_joinRivals_79 : decode cX3_joinRivals 79 = .ok (.getfield 46, 3) := by decide +kernel
theorem dX3_joinRivals_82 : decode cX3_joinRivals 82 = .ok (.iload_n 1, 1) := by decide +kernel
theorem dX3_joinRivals_83 : decode cX3_joinRivals 83 = .ok (.dup2, 1) := by decide +kernel
theorem dX3_joinRivals_84 : decode cX3_joinRivals 84 = .ok (.iaload, 1) := by decide +kernel
theorem dX3_joinRivals_85 : decode cX3_joinRivals 85 = .ok (.iconst 1, 1) := by decide +kernel
theorem dX3_joinRivals_86 : decode cX3_joinRivals 86 = .ok (.iadd, 1) := by decide +kernel
theorem dX3_joinRivals_87 : decode cX3_joinRivals 87 = .ok (.iastore, 1) := by decide +kernel
theorem dX3_joinRivals_88 : decode cX3_joinRivals 88 = .ok (.iinc 2 1, 3) := by decide +kernel
theorem dX3_joinRivals_91 : decode cX3_joinRivals 91 = .ok (.goto (-89), 3) := by decide +kernel
theorem dX3_joinRivals_94 : decode cX3_joinRivals 94 = .ok (.return_, 1) := by decide +kernel
def t_X3_joinRivals_94 : am_T := tb_ret
def t_X3_joinRivals_88 : am_T := tb_iinc 2 1 <|
  tb_head 2
def t_X3_joinRivals_2 : am_T := tb_iload 2 <|
  tb_aload 0 <|
  tb_getR 3 2 <|
  tb_iload 1 <|
  tb_iald <|
  tb_ic (fun x y => y ≤ x) (t_X3_joinRivals_94) <|
  tb_aload 0 <|
  tb_getR 3 1 <|
  tb_iload 2 <|
  tb_iald <|
  tb_istore 3 <|
  tb_aload 0 <|
  tb_getR 3 8 <|
  tb_iload 1 <|
  tb_iald <|
  tb_iload 3 <|
  tb_callS sp_X4_isIn 2 <|
  tb_if (fun x => x = 0) (t_X3_joinRivals_88) <|
  tb_aload 0 <|
  tb_getR 3 12 <|
  tb_iload 3 <|
  tb_iald <|
  tb_aload 0 <|
  tb_getR 3 12 <|
  tb_iload 1 <|
  tb_iald <|
  tb_ic (fun x y => x = y) (t_X3_joinRivals_88) <|
  tb_aload 0 <|
  tb_iload 1 <|
  tb_iload 3 <|
  tb_callV 3 sp_X3_isPassed 3 <|
  tb_if (fun x => x = 0) (t_X3_joinRivals_88) <|
  tb_aload 0 <|
  tb_aload 0 <|
  tb_getR 3 12 <|
  tb_iload 1 <|
  tb_iald <|
  tb_aload 0 <|
  tb_getR 3 12 <|
  tb_iload 3 <|
  tb_iald <|
  tb_aload 0 <|
  tb_getR 3 2 <|
  tb_iload 1 <|
  tb_iald <|
  tb_callV 3 sp_X3_join 4 <|
  tb_aload 0 <|
  tb_getR 3 10 <|
  tb_iload 1 <|
  tb_dup2 <|
  tb_iald <|
  tb_const 1 <|
  tb_bin (fun x y => x + y) <|
  tb_iast <|
  t_X3_joinRivals_88
def t_X3_joinRivals_0 : am_T := tb_const 0 <|
  tb_istore 2 <|
  tb_head 2
def h_X3_joinRivals : am_Hd := fun h => if h = 0 then t_X3_joinRivals_0 else if h = 2 then t_X3_joinRivals_2 else tb_bad
theorem h_X3_joinRivals_0 : h_X3_joinRivals 0 = t_X3_joinRivals_0 := rfl
theorem h_X3_joinRivals_2 : h_X3_joinRivals 2 = t_X3_joinRivals_2 := rfl
def rm_X3_joinRivals : Room := { frames := 2, cells := 0, slots := 0, locals := 47 }
def sp_X3_joinRivals : am_sp := fun as M Q => as.length ≤ 4 ∧ am_OK h_X3_joinRivals Q 0 (am_in 4 as) M
theorem s_X3_joinRivals_94 {G : am_G} {bc bs : Nat} (X : am_Cx G cX3_joinRivals RX3 "joinRivals" rm_X3_joinRivals none 4 bc bs true) : am_S G 94 (t_X3_joinRivals_94) := by
  unfold t_X3_joinRivals_94
  exact as_ret (pc := 94) X ⟨rfl, rfl⟩ rfl dX3_joinRivals_94
theorem s_X3_joinRivals_88 {G : am_G} {bc bs : Nat} (X : am_Cx G cX3_joinRivals RX3 "joinRivals" rm_X3_joinRivals none 4 bc bs true) : am_S G 88 (t_X3_joinRivals_88) := by
  unfold t_X3_joinRivals_88
  refine as_iinc (pc := 88) X dX3_joinRivals_88 (by decide) (by decide) ?_
  exact as_goto (pc := 91) X 2 dX3_joinRivals_91 (by decide) (as_head)
theorem s_X3_joinRivals_2 {G : am_G} {bc bs : Nat} (X : am_Cx G cX3_joinRivals RX3 "joinRivals" rm_X3_joinRivals none 4 bc bs true) : am_S G 2 (t_X3_joinRivals_2) := by
  unfold t_X3_joinRivals_2
  refine as_iload_n (pc := 2) X dX3_joinRivals_2 rfl ?_
  refine as_aload_n (pc := 3) X dX3_joinRivals_3 rfl ?_
  refine as_getR (ci := 3) (j := 2) (pc := 4) X (Cn := RX3) (Tf := TX3) (N := 17) rfl rfl (by decide) iw_X3 aw_163 rfl dX3_joinRivals_4 ?_
  refine as_iload_n (pc := 7) X dX3_joinRivals_7 rfl ?_
  refine as_iald (pc := 8) X dX3_joinRivals_8 ?_
  refine as_ic_ge (pc := 9) X 94 dX3_joinRivals_9 (by decide) (s_X3_joinRivals_94 X) ?_
  refine as_aload_n (pc := 12) X dX3_joinRivals_12 rfl ?_
  refine as_getR (ci := 3) (j := 1) (pc := 13) X (Cn := RX3) (Tf := TX3) (N := 17) rfl rfl (by decide) iw_X3 aw_161 rfl dX3_joinRivals_13 ?_
  refine as_iload_n (pc := 16) X dX3_joinRivals_16 rfl ?_
  refine as_iald (pc := 17) X dX3_joinRivals_17 ?_
  refine as_istore_n (pc := 18) X dX3_joinRivals_18 rfl ?_ (by decide)
  refine as_aload_n (pc := 19) X dX3_joinRivals_19 rfl ?_
  refine as_getR (ci := 3) (j := 8) (pc := 20) X (Cn := RX3) (Tf := TX3) (N := 17) rfl rfl (by decide) iw_X3 aw_171 rfl dX3_joinRivals_20 ?_
  refine as_iload_n (pc := 23) X dX3_joinRivals_23 rfl ?_
  refine as_iald (pc := 24) X dX3_joinRivals_24 ?_
  refine as_iload_n (pc := 25) X dX3_joinRivals_25 rfl ?_
  refine as_callSN (np := 2) (ix := 119) (pc := 26) X ct_X4_isIn ⟨rfl, rfl⟩ (host := RX4) (by simp [am_NW]) aw_406 aw_407 aw_59 (by decide +kernel) (by decide) dX3_joinRivals_26 ?_
  refine as_if_eq (pc := 29) X 88 dX3_joinRivals_29 (by decide) (s_X3_joinRivals_88 X) ?_
  refine as_aload_n (pc := 32) X dX3_joinRivals_32 rfl ?_
  refine as_getR (ci := 3) (j := 12) (pc := 33) X (Cn := RX3) (Tf := TX3) (N := 17) rfl rfl (by decide) iw_X3 aw_177 rfl dX3_joinRivals_33 ?_
  refine as_iload_n (pc := 36) X dX3_joinRivals_36 rfl ?_
  refine as_iald (pc := 37) X dX3_joinRivals_37 ?_
  refine as_aload_n (pc := 38) X dX3_joinRivals_38 rfl ?_
  refine as_getR (ci := 3) (j := 12) (pc := 39) X (Cn := RX3) (Tf := TX3) (N := 17) rfl rfl (by decide) iw_X3 aw_177 rfl dX3_joinRivals_39 ?_
  refine as_iload_n (pc := 42) X dX3_joinRivals_42 rfl ?_
  refine as_iald (pc := 43) X dX3_joinRivals_43 ?_
  refine as_ic_eq (pc := 44) X 88 dX3_joinRivals_44 (by decide) (s_X3_joinRivals_88 X) ?_
  refine as_aload_n (pc := 47) X dX3_joinRivals_47 rfl ?_
  refine as_iload_n (pc := 48) X dX3_joinRivals_48 rfl ?_
  refine as_iload_n (pc := 49) X dX3_joinRivals_49 rfl ?_
  refine as_callV (ci := 3) (np := 2) (ix := 153) (pc := 50) X ct_X3_isPassed (Cn := (RX3, TX3, 17)) rfl ⟨rfl, rfl⟩ aw_463 aw_465 aw_12 aw_466 aw_60 (by decide +kernel) (by decide) dX3_joinRivals_50 ?_
  refine as_if_eq (pc := 53) X 88 dX3_joinRivals_53 (by decide) (s_X3_joinRivals_88 X) ?_
  refine as_aload_n (pc := 56) X dX3_joinRivals_56 rfl ?_
  refine as_aload_n (pc := 57) X dX3_joinRivals_57 rfl ?_
  refine as_getR (ci := 3) (j := 12) (pc := 58) X (Cn := RX3) (Tf := TX3) (N := 17) rfl rfl (by decide) iw_X3 aw_177 rfl dX3_joinRivals_58 ?_
  refine as_iload_n (pc := 61) X dX3_joinRivals_61 rfl ?_
  refine as_iald (pc := 62) X dX3_joinRivals_62 ?_
  refine as_aload_n (pc := 63) X dX3_joinRivals_63 rfl ?_
  refine as_getR (ci := 3) (j := 12) (pc := 64) X (Cn := RX3) (Tf := TX3) (N := 17) rfl rfl (by decide) iw_X3 aw_177 rfl dX3_joinRivals_64 ?_
  refine as_iload_n (pc := 67) X dX3_joinRivals_67 rfl ?_
  refine as_iald (pc := 68) X dX3_joinRivals_68 ?_
  refine as_aload_n (pc := 69) X dX3_joinRivals_69 rfl ?_
  refine as_getR (ci := 3) (j := 2) (pc := 70) X (Cn := RX3) (Tf := TX3) (N := 17) rfl rfl (by decide) iw_X3 aw_163 rfl dX3_joinRivals_70 ?_
  refine as_iload_n (pc := 73) X dX3_joinRivals_73 rfl ?_
  refine as_iald (pc := 74) X dX3_joinRivals_74 ?_
  refine as_callV (ci := 3) (np := 3) (ix := 156) (pc := 75) X ct_X3_join (Cn := (RX3, TX3, 17)) rfl ⟨rfl, rfl⟩ aw_471 aw_473 aw_14 aw_474 aw_60 (by decide +kernel) (by decide) dX3_joinRivals_75 ?_
  refine as_aload_n (pc := 78) X dX3_joinRivals_78 rfl ?_
  refine as_getR (ci := 3) (j := 10) (pc := 79) X (Cn := RX3) (Tf := TX3) (N := 17) rfl rfl (by decide) iw_X3 aw_174 rfl dX3_joinRivals_79 ?_
  refine as_iload_n (pc := 82) X dX3_joinRivals_82 rfl ?_
  refine as_dup2 (pc := 83) X dX3_joinRivals_83 ?_
  refine as_iald (pc := 84) X dX3_joinRivals_84 ?_
  refine as_iconst (pc := 85) X dX3_joinRivals_85 (by decide) ?_
  refine as_iadd (pc := 86) X dX3_joinRivals_86 ?_
  refine as_iast (pc := 87) X dX3_joinRivals_87 ?_
  exact s_X3_joinRivals_88 X
theorem s_X3_joinRivals_0 {G : am_G} {bc bs : Nat} (X : am_Cx G cX3_joinRivals RX3 "joinRivals" rm_X3_joinRivals none 4 bc bs true) : am_S G 0 (t_X3_joinRivals_0) := by
  unfold t_X3_joinRivals_0
  refine as_iconst (pc := 0) X dX3_joinRivals_0 (by decide) ?_
  refine as_istore_n (pc := 1) X dX3_joinRivals_1 rfl ?_ (by decide)
  exact as_head
theorem s_X3_joinRivals {G : am_G} {bc bs : Nat} (X : am_Cx G cX3_joinRivals RX3 "joinRivals" rm_X3_joinRivals none 4 bc bs true) (h : Nat) : am_S G h (h_X3_joinRivals h) := by
  unfold h_X3_joinRivals
  split
  · next e => rw [e]; exact s_X3_joinRivals_0 X
  split
  · next e => rw [e]; exact s_X3_joinRivals_2 X
  exact as_bad
theorem ct_X3_joinRivals : am_Ct yX3_joinRivals cX3_joinRivals 4 none rm_X3_joinRivals sp_X3_joinRivals := am_met (own := RX3) (nm := "joinRivals") (by decide) rfl rfl (Or.inl rfl) (fun _ _ => h_X3_joinRivals) (fun _ _ _ X => s_X3_joinRivals X) (fun _ _ _ _ h => h)
