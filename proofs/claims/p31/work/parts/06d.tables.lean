-- X1_removeLine
theorem dX1_removeLine_0 : decode cX1_removeLine 0 = .ok (.aload_n 0, 1) := by decide +kernel
theorem dX1_removeLine_1 : decode cX1_removeLine 1 = .ok (.getfield 40, 3) := by decide +kernel
theorem dX1_removeLine_4 : decode cX1_removeLine 4 = .ok (.iconst 1, 1) := by decide +kernel
theorem dX1_removeLine_5 : decode cX1_removeLine 5 = .ok (.isub, 1) := by decide +kernel
theorem dX1_removeLine_6 : decode cX1_removeLine 6 = .ok (.istore_n 2, 1) := by decide +kernel
theorem dX1_removeLine_7 : decode cX1_removeLine 7 = .ok (.iload_n 2, 1) := by decide +kernel
theorem dX1_removeLine_8 : decode cX1_removeLine 8 = .ok (.ifCond .lt 34, 3) := by decide +kernel
theorem dX1_removeLine_11 : decode cX1_removeLine 11 = .ok (.aload_n 0, 1) := by decide +kernel
theorem dX1_removeLine_12 : decode cX1_removeLine 12 = .ok (.getfield 46, 3) := by decide +kernel
theorem dX1_removeLine_15 : decode cX1_removeLine 15 = .ok (.iload_n 2, 1) := by decide +kernel
theorem dX1_removeLine_16 : decode cX1_removeLine 16 = .ok (.iaload, 1) := by decide +kernel
theorem dX1_removeLine_17 : decode cX1_removeLine 17 = .ok (.iload_n 1, 1) := by decide +kernel
theorem dX1_removeLine_18 : decode cX1_removeLine 18 = .ok (.if_icmp .eq 13, 3) := by decide +kernel
theorem dX1_removeLine_21 : decode cX1_removeLine 21 = .ok (.aload_n 0, 1) := by decide +kernel
theorem dX1_removeLine_22 : decode cX1_removeLine 22 = .ok (.getfield 49, 3) := by decide +kernel
theorem dX1_removeLine_25 : decode cX1_removeLine 25 = .ok (.iload_n 2, 1) := by decide +kernel
theorem dX1_removeLine_26 : decode cX1_removeLine 26 = .ok (.iaload, 1) := by decide +kernel
theorem dX1_removeLine_27 : decode cX1_removeLine 27 = .ok (.iload_n 1, 1) := by decide +kernel
theorem dX1_removeLine_28 : decode cX1_removeLine 28 = .ok (.if_icmp .ne 8, 3) := by decide +kernel
theorem dX1_removeLine_31 : decode cX1_removeLine 31 = .ok (.aload_n 0, 1) := by decide +kernel
theorem dX1_removeLine_32 : decode cX1_removeLine 32 = .ok (.iload_n 2, 1) := by decide +kernel
theorem dX1_removeLine_33 : decode cX1_removeLine 33 = .ok (.invokevirtual 72, 3) := by decide +kernel
theorem dX1_removeLine_36 : decode cX1_removeLine 36 = .ok (.iinc 2 (-1), 3) := by decide +kernel
theorem dX1_removeLine_39 : decode cX1_removeLine 39 = .ok (.goto (-32), 3) := by decide +kernel
theorem dX1_removeLine_42 : decode cX1_removeLine 42 = .ok (.iconst 0, 1) := by decide +kernel
theorem dX1_removeLine_43 : decode cX1_removeLine 43 = .ok (.istore_n 2, 1) := by decide +kernel
theorem dX1_removeLine_44 : decode cX1_removeLine 44 = .ok (.iload_n 2, 1) := by decide +kernel
theorem dX1_removeLine_45 : decode cX1_removeLine 45 = .ok (.aload_n 0, 1) := by decide +kernel
theorem dX1_removeLine_46 : decode cX1_removeLine 46 = .ok (.getfield 40, 3) := by decide +kernel
theorem dX1_removeLine_49 : decode cX1_removeLine 49 = .ok (.if_icmp .ge 41, 3) := by decide +kernel
theorem dX1_removeLine_52 : decode cX1_removeLine 52 = .ok (.aload_n 0, 1) := by decide +kernel
theorem dX1_removeLine_53 : decode cX1_removeLine 53 = .ok (.getfield 46, 3) := by decide +kernel
theorem dX1_removeLine_56 : decode cX1_removeLine 56 = .ok (.iload_n 2, 1) := by decide +kernel
theorem dX1_removeLine_57 : decode cX1_removeLine 57 = .ok (.iload_n 1, 1) := by decide +kernel
theorem dX1_removeLine_58 : decode cX1_removeLine 58 = .ok (.aload_n 0, 1) := by decide +kernel
theorem dX1_removeLine_59 : decode cX1_removeLine 59 = .ok (.getfield 46, 3) := by decide +kernel
theorem dX1_removeLine_62 : decode cX1_removeLine 62 = .ok (.iload_n 2, 1) := by decide +kernel
theorem dX1_removeLine_63 : decode cX1_removeLine 63 = .ok (.iaload, 1) := by decide +kernel
theorem dX1_removeLine_64 : decode cX1_removeLine 64 = .ok (.invokestatic 76, 3) := by decide +kernel
theorem dX1_removeLine_67 : decode cX1_removeLine 67 = .ok (.iastore, 1) := by decide +kernel
theorem dX1_removeLine_68 : decode cX1_removeLine 68 = .ok (.aload_n 0, 1) := by decide +kernel
theorem dX1_removeLine_69 : decode cX1_removeLine 69 = .ok (.getfield 49, 3) := by decide +kernel
theorem dX1_removeLine_72 : decode cX1_removeLine 72 = .ok (.iload_n 2, 1) := by decide +kernel
theorem dX1_removeLine_73 : decode cX1_removeLine 73 = .ok (.iload_n 1, 1) := by decide +kernel
theorem dX1_removeLine_74 : decode cX1_removeLine 74 = .ok (.aload_n 0, 1) := by decide +kernel
theorem dX1_removeLine_75 : decode cX1_removeLine 75 = .ok (.getfield 49, 3) := by decide +kernel
theorem dX1_removeLine_78 : decode cX1_removeLine 78 = .ok (.iload_n 2, 1) := by decide +kernel
theorem dX1_removeLine_79 : decode cX1_removeLine 79 = .ok (.iaload, 1) := by decide +kernel
theorem dX1_removeLine_80 : decode cX1_removeLine 80 = .ok (.invokestatic 76, 3) := by decide +kernel
theorem dX1_removeLine_83 : decode cX1_removeLine 83 = .ok (.iastore, 1) := by decide +kernel
theorem dX1_removeLine_84 : decode cX1_removeLine 84 = .ok (.iinc 2 1, 3) := by decide +kernel
theorem dX1_removeLine_87 : decode cX1_removeLine 87 = .ok (.goto (-43), 3) := by decide +kernel
theorem dX1_removeLine_90 : decode cX1_removeLine 90 = .ok (.iload_n 1, 1) := by decide +kernel
theorem dX1_removeLine_91 : decode cX1_removeLine 91 = .ok (.iconst 1, 1) := by decide +kernel
theorem dX1_removeLine_92 : decode cX1_removeLine 92 = .ok (.iadd, 1) := by decide +kernel
theorem dX1_removeLine_93 : decode cX1_removeLine 93 = .ok (.istore_n 2, 1) := by decide +kernel
theorem dX1_removeLine_94 : decode cX1_removeLine 94 = .ok (.iload_n 2, 1) := by decide +kernel
theorem dX1_removeLine_95 : decode cX1_removeLine 95 = .ok (.aload_n 0, 1) := by decide +kernel
theorem dX1_removeLine_96 : decode cX1_removeLine 96 = .ok (.getfield 25, 3) := by decide +kernel
theorem dX1_removeLine_99 : decode cX1_removeLine 99 = .ok (.if_icmp .ge 65, 3) := by decide +kernel
theorem dX1_removeLine_102 : decode cX1_removeLine 102 = .ok (.aload_n 0, 1) := by decide +kernel
theorem dX1_removeLine_103 : decode cX1_removeLine 103 = .ok (.getfield 28, 3) := by decide +kernel
theorem dX1_removeLine_106 : decode cX1_removeLine 106 = .ok (.iload_n 2, 1) := by decide +kernel
theorem dX1_removeLine_107 : decode cX1_removeLine 107 = .ok (.iconst 1, 1) := by decide +kernel
theorem dX1_removeLine_108 : decode cX1_removeLine 108 = .ok (.isub, 1) := by decide +kernel
theorem dX1_removeLine_109 : decode cX1_removeLine 109 = .ok (.aload_n 0, 1) := by decide +kernel
theorem dX1_removeLine_110 : decode cX1_removeLine 110 = .ok (.getfield 28, 3) := by decide +kernel
theorem dX1_removeLine_113 : decode cX1_removeLine 113 = .ok (.iload_n 2, 1) := by decide +kernel
theorem dX1_removeLine_114 : decode cX1_removeLine 114 = .ok (.iaload, 1) := by decide +kernel
theorem dX1_removeLine_115 : decode cX1_removeLine 115 = .ok (.iastore, 1) := by decide +kernel
theorem dX1_removeLine_116 : decode cX1_removeLine 116 = .ok (.aload_n 0, 1) := by decide +kernel
theorem dX1_removeLine_117 : decode cX1_removeLine 117 = .ok (.getfield 31, 3) := by decide +kernel
theorem dX1_removeLine_120 : decode cX1_removeLine 120 = .ok (.iload_n 2, 1) := by decide +kernel
theorem dX1_removeLine_121 : decode cX1_removeLine 121 = .ok (.iconst 1, 1) := by decide +kernel
theorem dX1_removeLine_122 : decode cX1_removeLine 122 = .ok (.isub, 1) := by decide +kernel
theorem dX1_removeLine_123 : decode cX1_removeLine 123 = .ok (.aload_n 0, 1) := by decide +kernel
theorem dX1_removeLine_124 : decode cX1_removeLine 124 = .ok (.getfield 31, 3) := by decide +kernel
theorem dX1_removeLine_127 : decode cX1_removeLine 127 = .ok (.iload_n 2, 1) := by decide +kernel
theorem dX1_removeLine_128 : decode cX1_removeLine 128 = .ok (.iaload, 1) := by decide +kernel
theorem dX1_removeLine_129 : decode cX1_removeLine 129 = .ok (.iastore, 1) := by decide +kernel
theorem dX1_removeLine_130 : decode cX1_removeLine 130 = .ok (.aload_n 0, 1) := by decide +kernel
theorem dX1_removeLine_131 : decode cX1_removeLine 131 = .ok (.getfield 34, 3) := by decide +kernel
theorem dX1_removeLine_134 : decode cX1_removeLine 134 = .ok (.iload_n 2, 1) := by decide +kernel
theorem dX1_removeLine_135 : decode cX1_removeLine 135 = .ok (.iconst 1, 1) := by decide +kernel
theorem dX1_removeLine_136 : decode cX1_removeLine 136 = .ok (.isub, 1) := by decide +kernel
theorem dX1_removeLine_137 : decode cX1_removeLine 137 = .ok (.aload_n 0, 1) := by decide +kernel
theorem dX1_removeLine_138 : decode cX1_removeLine 138 = .ok (.getfield 34, 3) := by decide +kernel
theorem dX1_removeLine_141 : decode cX1_removeLine 141 = .ok (.iload_n 2, 1) := by decide +kernel
theorem dX1_removeLine_142 : decode cX1_removeLine 142 = .ok (.iaload, 1) := by decide +kernel
theorem dX1_removeLine_143 : decode cX1_removeLine 143 = .ok (.iastore, 1) := by decide +kernel
theorem dX1_removeLine_144 : decode cX1_removeLine 144 = .ok (.aload_n 0, 1) := by decide +kernel
theorem dX1_removeLine_145 : decode cX1_removeLine 145 = .ok (.getfield 37, 3) := by decide +kernel
theorem dX1_removeLine_148 : decode cX1_removeLine 148 = .ok (.iload_n 2, 1) := by decide +kernel
theorem dX1_removeLine_149 : decode cX1_removeLine 149 = .ok (.iconst 1, 1) := by decide +kernel
theorem dX1_removeLine_150 : decode cX1_removeLine 150 = .ok (.isub, 1) := by decide +kernel
theorem dX1_removeLine_151 : decode cX1_removeLine 151 = .ok (.aload_n 0, 1) := by decide +kernel
theorem dX1_removeLine_152 : decode cX1_removeLine 152 = .ok (.getfield 37, 3) := by decide +kernel
theorem dX1_removeLine_155 : decode cX1_removeLine 155 = .ok (.iload_n 2, 1) := by decide +kernel
theorem dX1_removeLine_156 : decode cX1_removeLine 156 = .ok (.iaload, 1) := by decide +kernel
theorem dX1_removeLine_157 : decode cX1_removeLine 157 = .ok (.iastore, 1) := by decide +kernel
theorem dX1_removeLine_158 : decode cX1_removeLine 158 = .ok (.iinc 2 1, 3) := by decide +kernel
theorem dX1_removeLine_161 : decode cX1_removeLine 161 = .ok (.goto (-67), 3) := by decide +kernel
theorem dX1_removeLine_164 : decode cX1_removeLine 164 = .ok (.aload_n 0, 1) := by decide +kernel
theorem dX1_removeLine_165 : decode cX1_removeLine 165 = .ok (.dup, 1) := by decide +kernel
theorem dX1_removeLine_166 : decode cX1_removeLine 166 = .ok (.getfield 25, 3) := by decide +kernel
theorem dX1_removeLine_169 : decode cX1_removeLine 169 = .ok (.iconst 1, 1) := by decide +kernel
theorem dX1_removeLine_170 : decode cX1_removeLine 170 = .ok (.isub, 1) := by decide +kernel
theorem dX1_removeLine_171 : decode cX1_removeLine 171 = .ok (.putfield 25, 3) := by decide +kernel
theorem dX1_removeLine_174 : decode cX1_removeLine 174 = .ok (.return_, 1) := by decide +kernel
def t_X1_removeLine_164 : am_T := tb_aload 0 <|
  tb_dup <|
  tb_getI 1 4 <|
  tb_const 1 <|
  tb_bin (fun x y => x - y) <|
  tb_putI 1 4 <|
  tb_ret
def t_X1_removeLine_94 : am_T := tb_iload 2 <|
  tb_aload 0 <|
  tb_getI 1 4 <|
  tb_ic (fun x y => y ≤ x) (t_X1_removeLine_164) <|
  tb_aload 0 <|
  tb_getR 1 5 <|
  tb_iload 2 <|
  tb_const 1 <|
  tb_bin (fun x y => x - y) <|
  tb_aload 0 <|
  tb_getR 1 5 <|
  tb_iload 2 <|
  tb_iald <|
  tb_iast <|
  tb_aload 0 <|
  tb_getR 1 6 <|
  tb_iload 2 <|
  tb_const 1 <|
  tb_bin (fun x y => x - y) <|
  tb_aload 0 <|
  tb_getR 1 6 <|
  tb_iload 2 <|
  tb_iald <|
  tb_iast <|
  tb_aload 0 <|
  tb_getR 1 7 <|
  tb_iload 2 <|
  tb_const 1 <|
  tb_bin (fun x y => x - y) <|
  tb_aload 0 <|
  tb_getR 1 7 <|
  tb_iload 2 <|
  tb_iald <|
  tb_iast <|
  tb_aload 0 <|
  tb_getR 1 8 <|
  tb_iload 2 <|
  tb_const 1 <|
  tb_bin (fun x y => x - y) <|
  tb_aload 0 <|
  tb_getR 1 8 <|
  tb_iload 2 <|
  tb_iald <|
  tb_iast <|
  tb_iinc 2 1 <|
  tb_head 94
def t_X1_removeLine_90 : am_T := tb_iload 1 <|
  tb_const 1 <|
  tb_bin (fun x y => x + y) <|
  tb_istore 2 <|
  tb_head 94
def t_X1_removeLine_44 : am_T := tb_iload 2 <|
  tb_aload 0 <|
  tb_getI 1 9 <|
  tb_ic (fun x y => y ≤ x) (t_X1_removeLine_90) <|
  tb_aload 0 <|
  tb_getR 1 11 <|
  tb_iload 2 <|
  tb_iload 1 <|
  tb_aload 0 <|
  tb_getR 1 11 <|
  tb_iload 2 <|
  tb_iald <|
  tb_callS sp_X1_numberWithout 2 <|
  tb_iast <|
  tb_aload 0 <|
  tb_getR 1 12 <|
  tb_iload 2 <|
  tb_iload 1 <|
  tb_aload 0 <|
  tb_getR 1 12 <|
  tb_iload 2 <|
  tb_iald <|
  tb_callS sp_X1_numberWithout 2 <|
  tb_iast <|
  tb_iinc 2 1 <|
  tb_head 44
def t_X1_removeLine_42 : am_T := tb_const 0 <|
  tb_istore 2 <|
  tb_head 44
def t_X1_removeLine_36 : am_T := tb_iinc 2 (-1) <|
  tb_head 7
def t_X1_removeLine_31 : am_T := tb_aload 0 <|
  tb_iload 2 <|
  tb_callV 1 sp_X1_removeFix 2 <|
  t_X1_removeLine_36
def t_X1_removeLine_7 : am_T := tb_iload 2 <|
  tb_if (fun x => x < 0) (t_X1_removeLine_42) <|
  tb_aload 0 <|
  tb_getR 1 11 <|
  tb_iload 2 <|
  tb_iald <|
  tb_iload 1 <|
  tb_ic (fun x y => x = y) (t_X1_removeLine_31) <|
  tb_aload 0 <|
  tb_getR 1 12 <|
  tb_iload 2 <|
  tb_iald <|
  tb_iload 1 <|
  tb_ic (fun x y => x ≠ y) (t_X1_removeLine_36) <|
  t_X1_removeLine_31
def t_X1_removeLine_0 : am_T := tb_aload 0 <|
  tb_getI 1 9 <|
  tb_const 1 <|
  tb_bin (fun x y => x - y) <|
  tb_istore 2 <|
  tb_head 7
def h_X1_removeLine : am_Hd := fun h => if h = 0 then t_X1_removeLine_0 else if h = 7 then t_X1_removeLine_7 else if h = 44 then t_X1_removeLine_44 else if h = 94 then t_X1_removeLine_94 else tb_bad
theorem h_X1_removeLine_0 : h_X1_removeLine 0 = t_X1_removeLine_0 := rfl
theorem h_X1_removeLine_7 : h_X1_removeLine 7 = t_X1_removeLine_7 := rfl
theorem h_X1_removeLine_44 : h_X1_removeLine 44 = t_X1_removeLine_44 := rfl
theorem h_X1_removeLine_94 : h_X1_removeLine 94 = t_X1_removeLine_94 := rfl
def rm_X1_removeLine : Room := { frames := 1, cells := 0, slots := 0, locals := 22 }
def sp_X1_removeLine : am_sp := fun as M Q => as.length ≤ 3 ∧ am_OK h_X1_removeLine Q 0 (am_in 3 as) M
theorem s_X1_removeLine_164 {G : am_G} {bc bs : Nat} (X : am_Cx G cX1_removeLine RX1 "removeLine" rm_X1_removeLine none 3 bc bs true) : am_S G 164 (t_X1_removeLine_164) := by
  unfold t_X1_removeLine_164
  refine as_aload_n (pc := 164) X dX1_removeLine_164 rfl ?_
  refine as_dup (pc := 165) X dX1_removeLine_165 ?_
  refine as_getI (ci := 1) (j := 4) (pc := 166) X (Cn := RX1) (Tf := TX1) (N := 14) rfl rfl (by decide) iw_X1 aw_55 rfl dX1_removeLine_166 ?_
  refine as_iconst (pc := 169) X dX1_removeLine_169 (by decide) ?_
  refine as_isub (pc := 170) X dX1_removeLine_170 ?_
  refine as_putI (ci := 1) (j := 4) (pc := 171) X (Cn := RX1) (Tf := TX1) (N := 14) rfl rfl (by decide) iw_X1 aw_55 tyX1 tyX1_ok nmX1 rfl rfl (by decide +kernel) dX1_removeLine_171 ?_
  exact as_ret (pc := 174) X ⟨rfl, rfl⟩ rfl dX1_removeLine_174
theorem s_X1_removeLine_94 {G : am_G} {bc bs : Nat} (X : am_Cx G cX1_removeLine RX1 "removeLine" rm_X1_removeLine none 3 bc bs true) : am_S G 94 (t_X1_removeLine_94) := by
  unfold t_X1_removeLine_94
  refine as_iload_n (pc := 94) X dX1_removeLine_94 rfl ?_
  refine as_aload_n (pc := 95) X dX1_removeLine_95 rfl ?_
  refine as_getI (ci := 1) (j := 4) (pc := 96) X (Cn := RX1) (Tf := TX1) (N := 14) rfl rfl (by decide) iw_X1 aw_55 rfl dX1_removeLine_96 ?_
  refine as_ic_ge (pc := 99) X 164 dX1_removeLine_99 (by decide) (s_X1_removeLine_164 X) ?_
  refine as_aload_n (pc := 102) X dX1_removeLine_102 rfl ?_
  refine as_getR (ci := 1) (j := 5) (pc := 103) X (Cn := RX1) (Tf := TX1) (N := 14) rfl rfl (by decide) iw_X1 aw_58 rfl dX1_removeLine_103 ?_
  refine as_iload_n (pc := 106) X dX1_removeLine_106 rfl ?_
  refine as_iconst (pc := 107) X dX1_removeLine_107 (by decide) ?_
  refine as_isub (pc := 108) X dX1_removeLine_108 ?_
  refine as_aload_n (pc := 109) X dX1_removeLine_109 rfl ?_
  refine as_getR (ci := 1) (j := 5) (pc := 110) X (Cn := RX1) (Tf := TX1) (N := 14) rfl rfl (by decide) iw_X1 aw_58 rfl dX1_removeLine_110 ?_
  refine as_iload_n (pc := 113) X dX1_removeLine_113 rfl ?_
  refine as_iald (pc := 114) X dX1_removeLine_114 ?_
  refine as_iast (pc := 115) X dX1_removeLine_115 ?_
  refine as_aload_n (pc := 116) X dX1_removeLine_116 rfl ?_
  refine as_getR (ci := 1) (j := 6) (pc := 117) X (Cn := RX1) (Tf := TX1) (N := 14) rfl rfl (by decide) iw_X1 aw_61 rfl dX1_removeLine_117 ?_
  refine as_iload_n (pc := 120) X dX1_removeLine_120 rfl ?_
  refine as_iconst (pc := 121) X dX1_removeLine_121 (by decide) ?_
  refine as_isub (pc := 122) X dX1_removeLine_122 ?_
  refine as_aload_n (pc := 123) X dX1_removeLine_123 rfl ?_
  refine as_getR (ci := 1) (j := 6) (pc := 124) X (Cn := RX1) (Tf := TX1) (N := 14) rfl rfl (by decide) iw_X1 aw_61 rfl dX1_removeLine_124 ?_
  refine as_iload_n (pc := 127) X dX1_removeLine_127 rfl ?_
  refine as_iald (pc := 128) X dX1_removeLine_128 ?_
  refine as_iast (pc := 129) X dX1_removeLine_129 ?_
  refine as_aload_n (pc := 130) X dX1_removeLine_130 rfl ?_
  refine as_getR (ci := 1) (j := 7) (pc := 131) X (Cn := RX1) (Tf := TX1) (N := 14) rfl rfl (by decide) iw_X1 aw_64 rfl dX1_removeLine_131 ?_
  refine as_iload_n (pc := 134) X dX1_removeLine_134 rfl ?_
  refine as_iconst (pc := 135) X dX1_removeLine_135 (by decide) ?_
  refine as_isub (pc := 136) X dX1_removeLine_136 ?_
  refine as_aload_n (pc := 137) X dX1_removeLine_137 rfl ?_
  refine as_getR (ci := 1) (j := 7) (pc := 138) X (Cn := RX1) (Tf := TX1) (N := 14) rfl rfl (by decide) iw_X1 aw_64 rfl dX1_removeLine_138 ?_
  refine as_iload_n (pc := 141) X dX1_removeLine_141 rfl ?_
  refine as_iald (pc := 142) X dX1_removeLine_142 ?_
  refine as_iast (pc := 143) X dX1_removeLine_143 ?_
  refine as_aload_n (pc := 144) X dX1_removeLine_144 rfl ?_
  refine as_getR (ci := 1) (j := 8) (pc := 145) X (Cn := RX1) (Tf := TX1) (N := 14) rfl rfl (by decide) iw_X1 aw_66 rfl dX1_removeLine_145 ?_
  refine as_iload_n (pc := 148) X dX1_removeLine_148 rfl ?_
  refine as_iconst (pc := 149) X dX1_removeLine_149 (by decide) ?_
  refine as_isub (pc := 150) X dX1_removeLine_150 ?_
  refine as_aload_n (pc := 151) X dX1_removeLine_151 rfl ?_
  refine as_getR (ci := 1) (j := 8) (pc := 152) X (Cn := RX1) (Tf := TX1) (N := 14) rfl rfl (by decide) iw_X1 aw_66 rfl dX1_removeLine_152 ?_
  refine as_iload_n (pc := 155) X dX1_removeLine_155 rfl ?_
  refine as_iald (pc := 156) X dX1_removeLine_156 ?_
  refine as_iast (pc := 157) X dX1_removeLine_157 ?_
  refine as_iinc (pc := 158) X dX1_removeLine_158 (by decide) (by decide) ?_
  exact as_goto (pc := 161) X 94 dX1_removeLine_161 (by decide) (as_head)
theorem s_X1_removeLine_90 {G : am_G} {bc bs : Nat} (X : am_Cx G cX1_removeLine RX1 "removeLine" rm_X1_removeLine none 3 bc bs true) : am_S G 90 (t_X1_removeLine_90) := by
  unfold t_X1_removeLine_90
  refine as_iload_n (pc := 90) X dX1_removeLine_90 rfl ?_
  refine as_iconst (pc := 91) X dX1_removeLine_91 (by decide) ?_
  refine as_iadd (pc := 92) X dX1_removeLine_92 ?_
  refine as_istore_n (pc := 93) X dX1_removeLine_93 rfl ?_ (by decide)
  exact as_head
theorem s_X1_removeLine_44 {G : am_G} {bc bs : Nat} (X : am_Cx G cX1_removeLine RX1 "removeLine" rm_X1_removeLine none 3 bc bs true) : am_S G 44 (t_X1_removeLine_44) := by
  unfold t_X1_removeLine_44
  refine as_iload_n (pc := 44) X dX1_removeLine_44 rfl ?_
  refine as_aload_n (pc := 45) X dX1_removeLine_45 rfl ?_
  refine as_getI (ci := 1) (j := 9) (pc := 46) X (Cn := RX1) (Tf := TX1) (N := 14) rfl rfl (by decide) iw_X1 aw_69 rfl dX1_removeLine_46 ?_
  refine as_ic_ge (pc := 49) X 90 dX1_removeLine_49 (by decide) (s_X1_removeLine_90 X) ?_
  refine as_aload_n (pc := 52) X dX1_removeLine_52 rfl ?_
  refine as_getR (ci := 1) (j := 11) (pc := 53) X (Cn := RX1) (Tf := TX1) (N := 14) rfl rfl (by decide) iw_X1 aw_75 rfl dX1_removeLine_53 ?_
  refine as_iload_n (pc := 56) X dX1_removeLine_56 rfl ?_
  refine as_iload_n (pc := 57) X dX1_removeLine_57 rfl ?_
  refine as_aload_n (pc := 58) X dX1_removeLine_58 rfl ?_
  refine as_getR (ci := 1) (j := 11) (pc := 59) X (Cn := RX1) (Tf := TX1) (N := 14) rfl rfl (by decide) iw_X1 aw_75 rfl dX1_removeLine_59 ?_
  refine as_iload_n (pc := 62) X dX1_removeLine_62 rfl ?_
  refine as_iald (pc := 63) X dX1_removeLine_63 ?_
  refine as_callS (np := 2) (ix := 76) (pc := 64) X ct_X1_numberWithout ⟨rfl, rfl⟩ aw_477 aw_478 aw_479 aw_19 (by decide +kernel) (by decide) dX1_removeLine_64 ?_
  refine as_iast (pc := 67) X dX1_removeLine_67 ?_
  refine as_aload_n (pc := 68) X dX1_removeLine_68 rfl ?_
  refine as_getR (ci := 1) (j := 12) (pc := 69) X (Cn := RX1) (Tf := TX1) (N := 14) rfl rfl (by decide) iw_X1 aw_78 rfl dX1_removeLine_69 ?_
  refine as_iload_n (pc := 72) X dX1_removeLine_72 rfl ?_
  refine as_iload_n (pc := 73) X dX1_removeLine_73 rfl ?_
  refine as_aload_n (pc := 74) X dX1_removeLine_74 rfl ?_
  refine as_getR (ci := 1) (j := 12) (pc := 75) X (Cn := RX1) (Tf := TX1) (N := 14) rfl rfl (by decide) iw_X1 aw_78 rfl dX1_removeLine_75 ?_
  refine as_iload_n (pc := 78) X dX1_removeLine_78 rfl ?_
  refine as_iald (pc := 79) X dX1_removeLine_79 ?_
  refine as_callS (np := 2) (ix := 76) (pc := 80) X ct_X1_numberWithout ⟨rfl, rfl⟩ aw_477 aw_478 aw_479 aw_19 (by decide +kernel) (by decide) dX1_removeLine_80 ?_
  refine as_iast (pc := 83) X dX1_removeLine_83 ?_
  refine as_iinc (pc := 84) X dX1_removeLine_84 (by decide) (by decide) ?_
  exact as_goto (pc := 87) X 44 dX1_removeLine_87 (by decide) (as_head)
theorem s_X1_removeLine_42 {G : am_G} {bc bs : Nat} (X : am_Cx G cX1_removeLine RX1 "removeLine" rm_X1_removeLine none 3 bc bs true) : am_S G 42 (t_X1_removeLine_42) := by
  unfold t_X1_removeLine_42
  refine as_iconst (pc := 42) X dX1_removeLine_42 (by decide) ?_
  refine as_istore_n (pc := 43) X dX1_removeLine_43 rfl ?_ (by decide)
  exact as_head
theorem s_X1_removeLine_36 {G : am_G} {bc bs : Nat} (X : am_Cx G cX1_removeLine RX1 "removeLine" rm_X1_removeLine none 3 bc bs true) : am_S G 36 (t_X1_removeLine_36) := by
  unfold t_X1_removeLine_36
  refine as_iinc (pc := 36) X dX1_removeLine_36 (by decide) (by decide) ?_
  exact as_goto (pc := 39) X 7 dX1_removeLine_39 (by decide) (as_head)
theorem s_X1_removeLine_31 {G : am_G} {bc bs : Nat} (X : am_Cx G cX1_removeLine RX1 "removeLine" rm_X1_removeLine none 3 bc bs true) : am_S G 31 (t_X1_removeLine_31) := by
  unfold t_X1_removeLine_31
  refine as_aload_n (pc := 31) X dX1_removeLine_31 rfl ?_
  refine as_iload_n (pc := 32) X dX1_removeLine_32 rfl ?_
  refine as_callV (ci := 1) (np := 1) (ix := 72) (pc := 33) X ct_X1_removeFix (Cn := (RX1, TX1, 14)) rfl ⟨rfl, rfl⟩ aw_473 aw_474 aw_475 aw_476 aw_19 (by decide +kernel) (by decide) dX1_removeLine_33 ?_
  exact s_X1_removeLine_36 X
theorem s_X1_removeLine_7 {G : am_G} {bc bs : Nat} (X : am_Cx G cX1_removeLine RX1 "removeLine" rm_X1_removeLine none 3 bc bs true) : am_S G 7 (t_X1_removeLine_7) := by
  unfold t_X1_removeLine_7
  refine as_iload_n (pc := 7) X dX1_removeLine_7 rfl ?_
  refine as_if_lt (pc := 8) X 42 dX1_removeLine_8 (by decide) (s_X1_removeLine_42 X) ?_
  refine as_aload_n (pc := 11) X dX1_removeLine_11 rfl ?_
  refine as_getR (ci := 1) (j := 11) (pc := 12) X (Cn := RX1) (Tf := TX1) (N := 14) rfl rfl (by decide) iw_X1 aw_75 rfl dX1_removeLine_12 ?_
  refine as_iload_n (pc := 15) X dX1_removeLine_15 rfl ?_
  refine as_iald (pc := 16) X dX1_removeLine_16 ?_
  refine as_iload_n (pc := 17) X dX1_removeLine_17 rfl ?_
  refine as_ic_eq (pc := 18) X 31 dX1_removeLine_18 (by decide) (s_X1_removeLine_31 X) ?_
  refine as_aload_n (pc := 21) X dX1_removeLine_21 rfl ?_
  refine as_getR (ci := 1) (j := 12) (pc := 22) X (Cn := RX1) (Tf := TX1) (N := 14) rfl rfl (by decide) iw_X1 aw_78 rfl dX1_removeLine_22 ?_
  refine as_iload_n (pc := 25) X dX1_removeLine_25 rfl ?_
  refine as_iald (pc := 26) X dX1_removeLine_26 ?_
  refine as_iload_n (pc := 27) X dX1_removeLine_27 rfl ?_
  refine as_ic_ne (pc := 28) X 36 dX1_removeLine_28 (by decide) (s_X1_removeLine_36 X) ?_
  exact s_X1_removeLine_31 X
theorem s_X1_removeLine_0 {G : am_G} {bc bs : Nat} (X : am_Cx G cX1_removeLine RX1 "removeLine" rm_X1_removeLine none 3 bc bs true) : am_S G 0 (t_X1_removeLine_0) := by
  unfold t_X1_removeLine_0
  refine as_aload_n (pc := 0) X dX1_removeLine_0 rfl ?_
  refine as_getI (ci := 1) (j := 9) (pc := 1) X (Cn := RX1) (Tf := TX1) (N := 14) rfl rfl (by decide) iw_X1 aw_69 rfl dX1_removeLine_1 ?_
  refine as_iconst (pc := 4) X dX1_removeLine_4 (by decide) ?_
  refine as_isub (pc := 5) X dX1_removeLine_5 ?_
  refine as_istore_n (pc := 6) X dX1_removeLine_6 rfl ?_ (by decide)
  exact as_head
theorem s_X1_removeLine {G : am_G} {bc bs : Nat} (X : am_Cx G cX1_removeLine RX1 "removeLine" rm_X1_removeLine none 3 bc bs true) (h : Nat) : am_S G h (h_X1_removeLine h) := by
  unfold h_X1_removeLine
  split
  · next e => rw [e]; exact s_X1_removeLine_0 X
  split
  · next e => rw [e]; exact s_X1_removeLine_7 X
  split
  · next e => rw [e]; exact s_X1_removeLine_44 X
  split
  · next e => rw [e]; exact s_X1_removeLine_94 X
  exact as_bad
theorem ct_X1_removeLine : am_Ct yX1_removeLine cX1_removeLine 3 none rm_X1_removeLine sp_X1_removeLine := am_met (own := RX1) (nm := "removeLine") (by decide) rfl rfl (Or.inl rfl) (fun _ _ => h_X1_removeLine) (fun _ _ _ X => s_X1_removeLine X) (fun _ _ _ _ h => h)
-- X4_drop
theorem dX4_drop_0 : decode cX4_drop 0 = .ok (.aload_n 0, 1) := by decide +kernel
theorem dX4_drop_1 : decode cX4_drop 1 = .ok (.getfield 20, 3) := by decide +kernel
theorem dX4_drop_4 : decode cX4_drop 4 = .ok (.iload_n 1, 1) := by decide +kernel
theorem dX4_drop_5 : decode cX4_drop 5 = .ok (.invokevirtual 93, 3) := by decide +kernel
theorem dX4_drop_8 : decode cX4_drop 8 = .ok (.ifCond .ne 5, 3) := by decide +kernel
theorem dX4_drop_11 : decode cX4_drop 11 = .ok (.iconst (-1), 1) := by decide +kernel
theorem dX4_drop_12 : decode cX4_drop 12 = .ok (.ireturn, 1) := by decide +kernel
theorem dX4_drop_13 : decode cX4_drop 13 = .ok (.aload_n 0, 1) := by decide +kernel
theorem dX4_drop_14 : decode cX4_drop 14 = .ok (.invokevirtual 69, 3) := by decide +kernel
theorem dX4_drop_17 : decode cX4_drop 17 = .ok (.aload_n 0, 1) := by decide +kernel
theorem dX4_drop_18 : decode cX4_drop 18 = .ok (.getfield 20, 3) := by decide +kernel
theorem dX4_drop_21 : decode cX4_drop 21 = .ok (.iload_n 1, 1) := by decide +kernel
theorem dX4_drop_22 : decode cX4_drop 22 = .ok (.invokevirtual 96, 3) := by decide +kernel
theorem dX4_drop_25 : decode cX4_drop 25 = .ok (.aload_n 0, 1) := by decide +kernel
theorem dX4_drop_26 : decode cX4_drop 26 = .ok (.getfield 20, 3) := by decide +kernel
theorem dX4_drop_29 : decode cX4_drop 29 = .ok (.getfield 100, 3) := by decide +kernel
theorem dX4_drop_32 : decode cX4_drop 32 = .ok (.ireturn, 1) := by decide +kernel
def t_X4_drop_13 : am_T := tb_aload 0 <|
  tb_callV 4 sp_X4_beginChange 1 <|
  tb_aload 0 <|
  tb_getR 4 1 <|
  tb_iload 1 <|
  tb_callV 1 sp_X1_removeLine 2 <|
  tb_aload 0 <|
  tb_getR 4 1 <|
  tb_getI 1 9 <|
  tb_iret
def t_X4_drop_0 : am_T := tb_aload 0 <|
  tb_getR 4 1 <|
  tb_iload 1 <|
  tb_callV 1 sp_X1_isLine 2 <|
  tb_if (fun x => x ≠ 0) (t_X4_drop_13) <|
  tb_const (-1) <|
  tb_iret
def h_X4_drop : am_Hd := fun h => if h = 0 then t_X4_drop_0 else tb_bad
theorem h_X4_drop_0 : h_X4_drop 0 = t_X4_drop_0 := rfl
def rm_X4_drop : Room := { frames := 4, cells := 0, slots := 0, locals := 89 }
def sp_X4_drop : am_sp := fun as M Q => as.length ≤ 2 ∧ am_OK h_X4_drop Q 0 (am_in 2 as) M
theorem s_X4_drop_13 {G : am_G} {bc bs : Nat} (X : am_Cx G cX4_drop RX4 "drop" rm_X4_drop (some .int) 2 bc bs true) : am_S G 13 (t_X4_drop_13) := by
  unfold t_X4_drop_13
  refine as_aload_n (pc := 13) X dX4_drop_13 rfl ?_
  refine as_callV (ci := 4) (np := 0) (ix := 69) (pc := 14) X ct_X4_beginChange (Cn := (RX4, TX4, 7)) rfl ⟨rfl, rfl⟩ aw_423 aw_425 aw_14 aw_426 aw_17 (by decide +kernel) (by decide) dX4_drop_14 ?_
  refine as_aload_n (pc := 17) X dX4_drop_17 rfl ?_
  refine as_getR (ci := 4) (j := 1) (pc := 18) X (Cn := RX4) (Tf := TX4) (N := 7) rfl rfl (by decide) iw_X4 aw_225 rfl dX4_drop_18 ?_
  refine as_iload_n (pc := 21) X dX4_drop_21 rfl ?_
  refine as_callV (ci := 1) (np := 1) (ix := 96) (pc := 22) X ct_X1_removeLine (Cn := (RX1, TX1, 14)) rfl ⟨rfl, rfl⟩ aw_469 aw_470 aw_471 aw_472 aw_19 (by decide +kernel) (by decide) dX4_drop_22 ?_
  refine as_aload_n (pc := 25) X dX4_drop_25 rfl ?_
  refine as_getR (ci := 4) (j := 1) (pc := 26) X (Cn := RX4) (Tf := TX4) (N := 7) rfl rfl (by decide) iw_X4 aw_225 rfl dX4_drop_26 ?_
  refine as_getI (ci := 1) (j := 9) (pc := 29) X (Cn := RX1) (Tf := TX1) (N := 14) rfl rfl (by decide) iw_X1 aw_70 rfl dX4_drop_29 ?_
  exact as_iret (pc := 32) X ⟨rfl, rfl⟩ rfl dX4_drop_32
theorem s_X4_drop_0 {G : am_G} {bc bs : Nat} (X : am_Cx G cX4_drop RX4 "drop" rm_X4_drop (some .int) 2 bc bs true) : am_S G 0 (t_X4_drop_0) := by
  unfold t_X4_drop_0
  refine as_aload_n (pc := 0) X dX4_drop_0 rfl ?_
  refine as_getR (ci := 4) (j := 1) (pc := 1) X (Cn := RX4) (Tf := TX4) (N := 7) rfl rfl (by decide) iw_X4 aw_225 rfl dX4_drop_1 ?_
  refine as_iload_n (pc := 4) X dX4_drop_4 rfl ?_
  refine as_callV (ci := 1) (np := 1) (ix := 93) (pc := 5) X ct_X1_isLine (Cn := (RX1, TX1, 14)) rfl ⟨rfl, rfl⟩ aw_465 aw_466 aw_467 aw_468 aw_19 (by decide +kernel) (by decide) dX4_drop_5 ?_
  refine as_if_ne (pc := 8) X 13 dX4_drop_8 (by decide) (s_X4_drop_13 X) ?_
  refine as_iconst (pc := 11) X dX4_drop_11 (by decide) ?_
  exact as_iret (pc := 12) X ⟨rfl, rfl⟩ rfl dX4_drop_12
theorem s_X4_drop {G : am_G} {bc bs : Nat} (X : am_Cx G cX4_drop RX4 "drop" rm_X4_drop (some .int) 2 bc bs true) (h : Nat) : am_S G h (h_X4_drop h) := by
  unfold h_X4_drop
  split
  · next e => rw [e]; exact s_X4_drop_0 X
  exact as_bad
theorem ct_X4_drop : am_Ct yX4_drop cX4_drop 2 (some .int) rm_X4_drop sp_X4_drop := am_met (own := RX4) (nm := "drop") (by decide) rfl rfl (Or.inr (Or.inl rfl)) (fun _ _ => h_X4_drop) (fun _ _ _ X => s_X4_drop X) (fun _ _ _ _ h => h)
-- X1_isEarlier
theorem dX1_isEarlier_0 : decode cX1_isEarlier 0 = .ok (.aload_n 0, 1) := by decide +kernel
theorem dX1_isEarlier_1 : decode cX1_isEarlier 1 = .ok (.getfield 28, 3) := by decide +kernel
theorem dX1_isEarlier_4 : decode cX1_isEarlier 4 = .ok (.iload_n 1, 1) := by decide +kernel
theorem dX1_isEarlier_5 : decode cX1_isEarlier 5 = .ok (.iaload, 1) := by decide +kernel
theorem dX1_isEarlier_6 : decode cX1_isEarlier 6 = .ok (.aload_n 0, 1) := by decide +kernel
theorem dX1_isEarlier_7 : decode cX1_isEarlier 7 = .ok (.getfield 28, 3) := by decide +kernel
theorem dX1_isEarlier_10 : decode cX1_isEarlier 10 = .ok (.iload_n 2, 1) := by decide +kernel
theorem dX1_isEarlier_11 : decode cX1_isEarlier 11 = .ok (.iaload, 1) := by decide +kernel
theorem dX1_isEarlier_12 : decode cX1_isEarlier 12 = .ok (.if_icmp .lt 23, 3) := by decide +kernel
theorem dX1_isEarlier_15 : decode cX1_isEarlier 15 = .ok (.aload_n 0, 1) := by decide +kernel
theorem dX1_isEarlier_16 : decode cX1_isEarlier 16 = .ok (.getfield 28, 3) := by decide +kernel
theorem dX1_isEarlier_19 : decode cX1_isEarlier 19 = .ok (.iload_n 1, 1) := by decide +kernel
theorem dX1_isEarlier_20 : decode cX1_isEarlier 20 = .ok (.iaload, 1) := by decide +kernel
theorem dX1_isEarlier_21 : decode cX1_isEarlier 21 = .ok (.aload_n 0, 1) := by decide +kernel
theorem dX1_isEarlier_22 : decode cX1_isEarlier 22 = .ok (.getfield 28, 3) := by decide +kernel
theorem dX1_isEarlier_25 : decode cX1_isEarlier 25 = .ok (.iload_n 2, 1) := by decide +kernel
theorem dX1_isEarlier_26 : decode cX1_isEarlier 26 = .ok (.iaload, 1) := by decide +kernel
theorem dX1_isEarlier_27 : decode cX1_isEarlier 27 = .ok (.if_icmp .ne 12, 3) := by decide +kernel
theorem dX1_isEarlier_30 : decode cX1_isEarlier 30 = .ok (.iload_n 1, 1) := by decide +kernel
theorem dX1_isEarlier_31 : decode cX1_isEarlier 31 = .ok (.iload_n 2, 1) := by decide +kernel
theorem dX1_isEarlier_32 : decode cX1_isEarlier 32 = .ok (.if_icmp .ge 7, 3) := by decide +kernel
theorem dX1_isEarlier_35 : decode cX1_isEarlier 35 = .ok (.iconst 1, 1) := by decide +kernel
theorem dX1_isEarlier_36 : decode cX1_isEarlier 36 = .ok (.goto 4, 3) := by decide +kernel
theorem dX1_isEarlier_39 : decode cX1_isEarlier 39 = .ok (.iconst 0, 1) := by decide +kernel
theorem dX1_isEarlier_40 : decode cX1_isEarlier 40 = .ok (.ireturn, 1) := by decide +kernel
def t_X1_isEarlier_40 : am_T := tb_zret
def t_X1_isEarlier_39 : am_T := tb_const 0 <|
  t_X1_isEarlier_40
def t_X1_isEarlier_35 : am_T := tb_const 1 <|
  t_X1_isEarlier_40
def t_X1_isEarlier_0 : am_T := tb_aload 0 <|
  tb_getR 1 5 <|
  tb_iload 1 <|
  tb_iald <|
  tb_aload 0 <|
  tb_getR 1 5 <|
  tb_iload 2 <|
  tb_iald <|
  tb_ic (fun x y => x < y) (t_X1_isEarlier_35) <|
  tb_aload 0 <|
  tb_getR 1 5 <|
  tb_iload 1 <|
  tb_iald <|
  tb_aload 0 <|
  tb_getR 1 5 <|
  tb_iload 2 <|
  tb_iald <|
  tb_ic (fun x y => x ≠ y) (t_X1_isEarlier_39) <|
  tb_iload 1 <|
  tb_iload 2 <|
  tb_ic (fun x y => y ≤ x) (t_X1_isEarlier_39) <|
  t_X1_isEarlier_35
def h_X1_isEarlier : am_Hd := fun h => if h = 0 then t_X1_isEarlier_0 else tb_bad
theorem h_X1_isEarlier_0 : h_X1_isEarlier 0 = t_X1_isEarlier_0 := rfl
def rm_X1_isEarlier : Room := { frames := 0, cells := 0, slots := 0, locals := 0 }
def sp_X1_isEarlier : am_sp := fun as M Q => as.length ≤ 3 ∧ am_OK h_X1_isEarlier Q 0 (am_in 3 as) M
theorem s_X1_isEarlier_40 {G : am_G} {bc bs : Nat} (X : am_Cx G cX1_isEarlier RX1 "isEarlier" rm_X1_isEarlier (some .boolean) 3 bc bs true) : am_S G 40 (t_X1_isEarlier_40) := by
  unfold t_X1_isEarlier_40
  exact as_zret (pc := 40) X ⟨rfl, rfl⟩ rfl dX1_isEarlier_40
theorem s_X1_isEarlier_39 {G : am_G} {bc bs : Nat} (X : am_Cx G cX1_isEarlier RX1 "isEarlier" rm_X1_isEarlier (some .boolean) 3 bc bs true) : am_S G 39 (t_X1_isEarlier_39) := by
  unfold t_X1_isEarlier_39
  refine as_iconst (pc := 39) X dX1_isEarlier_39 (by decide) ?_
  exact s_X1_isEarlier_40 X
theorem s_X1_isEarlier_35 {G : am_G} {bc bs : Nat} (X : am_Cx G cX1_isEarlier RX1 "isEarlier" rm_X1_isEarlier (some .boolean) 3 bc bs true) : am_S G 35 (t_X1_isEarlier_35) := by
  unfold t_X1_isEarlier_35
  refine as_iconst (pc := 35) X dX1_isEarlier_35 (by decide) ?_
  exact as_goto (pc := 36) X 40 dX1_isEarlier_36 (by decide) (s_X1_isEarlier_40 X)
theorem s_X1_isEarlier_0 {G : am_G} {bc bs : Nat} (X : am_Cx G cX1_isEarlier RX1 "isEarlier" rm_X1_isEarlier (some .boolean) 3 bc bs true) : am_S G 0 (t_X1_isEarlier_0) := by
  unfold t_X1_isEarlier_0
  refine as_aload_n (pc := 0) X dX1_isEarlier_0 rfl ?_
  refine as_getR (ci := 1) (j := 5) (pc := 1) X (Cn := RX1) (Tf := TX1) (N := 14) rfl rfl (by decide) iw_X1 aw_58 rfl dX1_isEarlier_1 ?_
  refine as_iload_n (pc := 4) X dX1_isEarlier_4 rfl ?_
  refine as_iald (pc := 5) X dX1_isEarlier_5 ?_
  refine as_aload_n (pc := 6) X dX1_isEarlier_6 rfl ?_
  refine as_getR (ci := 1) (j := 5) (pc := 7) X (Cn := RX1) (Tf := TX1) (N := 14) rfl rfl (by decide) iw_X1 aw_58 rfl dX1_isEarlier_7 ?_
  refine as_iload_n (pc := 10) X dX1_isEarlier_10 rfl ?_
  refine as_iald (pc := 11) X dX1_isEarlier_11 ?_
  refine as_ic_lt (pc := 12) X 35 dX1_isEarlier_12 (by decide) (s_X1_isEarlier_35 X) ?_
  refine as_aload_n (pc := 15) X dX1_isEarlier_15 rfl ?_
  refine as_getR (ci := 1) (j := 5) (pc := 16) X (Cn := RX1) (Tf := TX1) (N := 14) rfl rfl (by decide) iw_X1 aw_58 rfl dX1_isEarlier_16 ?_
  refine as_iload_n (pc := 19) X dX1_isEarlier_19 rfl ?_
  refine as_iald (pc := 20) X dX1_isEarlier_20 ?_
  refine as_aload_n (pc := 21) X dX1_isEarlier_21 rfl ?_
  refine as_getR (ci := 1) (j := 5) (pc := 22) X (Cn := RX1) (Tf := TX1) (N := 14) rfl rfl (by decide) iw_X1 aw_58 rfl dX1_isEarlier_22 ?_
  refine as_iload_n (pc := 25) X dX1_isEarlier_25 rfl ?_
  refine as_iald (pc := 26) X dX1_isEarlier_26 ?_
  refine as_ic_ne (pc := 27) X 39 dX1_isEarlier_27 (by decide) (s_X1_isEarlier_39 X) ?_
  refine as_iload_n (pc := 30) X dX1_isEarlier_30 rfl ?_
  refine as_iload_n (pc := 31) X dX1_isEarlier_31 rfl ?_
  refine as_ic_ge (pc := 32) X 39 dX1_isEarlier_32 (by decide) (s_X1_isEarlier_39 X) ?_
  exact s_X1_isEarlier_35 X
theorem s_X1_isEarlier {G : am_G} {bc bs : Nat} (X : am_Cx G cX1_isEarlier RX1 "isEarlier" rm_X1_isEarlier (some .boolean) 3 bc bs true) (h : Nat) : am_S G h (h_X1_isEarlier h) := by
  unfold h_X1_isEarlier
  split
  · next e => rw [e]; exact s_X1_isEarlier_0 X
  exact as_bad
theorem ct_X1_isEarlier : am_Ct yX1_isEarlier cX1_isEarlier 3 (some .boolean) rm_X1_isEarlier sp_X1_isEarlier := am_met (own := RX1) (nm := "isEarlier") (by decide) rfl rfl (Or.inr (Or.inr (Or.inl rfl))) (fun _ _ => h_X1_isEarlier) (fun _ _ _ X => s_X1_isEarlier X) (fun _ _ _ _ h => h)
-- X1_fixLike
theorem dX1_fixLike_0 : decode cX1_fixLike 0 = .ok (.iconst 0, 1) := by decide +kernel
theorem dX1_fixLike_1 : decode cX1_fixLike 1 = .ok (.istore 4, 2) := by decide +kernel
theorem dX1_fixLike_3 : decode cX1_fixLike 3 = .ok (.iload 4, 2) := by decide +kernel
theorem dX1_fixLike_5 : decode cX1_fixLike 5 = .ok (.aload_n 0, 1) := by decide +kernel
theorem dX1_fixLike_6 : decode cX1_fixLike 6 = .ok (.getfield 40, 3) := by decide +kernel
theorem dX1_fixLike_9 : decode cX1_fixLike 9 = .ok (.if_icmp .ge 45, 3) := by decide +kernel
theorem dX1_fixLike_12 : decode cX1_fixLike 12 = .ok (.aload_n 0, 1) := by decide +kernel
theorem dX1_fixLike_13 : decode cX1_fixLike 13 = .ok (.getfield 43, 3) := by decide +kernel
theorem dX1_fixLike_16 : decode cX1_fixLike 16 = .ok (.iload 4, 2) := by decide +kernel
theorem dX1_fixLike_18 : decode cX1_fixLike 18 = .ok (.iaload, 1) := by decide +kernel
theorem dX1_fixLike_19 : decode cX1_fixLike 19 = .ok (.iload_n 1, 1) := by decide +kernel
theorem dX1_fixLike_20 : decode cX1_fixLike 20 = .ok (.if_icmp .ne 28, 3) := by decide +kernel
theorem dX1_fixLike_23 : decode cX1_fixLike 23 = .ok (.aload_n 0, 1) := by decide +kernel
theorem dX1_fixLike_24 : decode cX1_fixLike 24 = .ok (.getfield 46, 3) := by decide +kernel
theorem dX1_fixLike_27 : decode cX1_fixLike 27 = .ok (.iload 4, 2) := by decide +kernel
theorem dX1_fixLike_29 : decode cX1_fixLike 29 = .ok (.iaload, 1) := by decide +kernel
theorem dX1_fixLike_30 : decode cX1_fixLike 30 = .ok (.iload_n 2, 1) := by decide +kernel
theorem dX1_fixLike_31 : decode cX1_fixLike 31 = .ok (.if_icmp .ne 17, 3) := by decide +kernel
theorem dX1_fixLike_34 : decode cX1_fixLike 34 = .ok (.aload_n 0, 1) := by decide +kernel
theorem dX1_fixLike_35 : decode cX1_fixLike 35 = .ok (.getfield 49, 3) := by decide +kernel
theorem dX1_fixLike_38 : decode cX1_fixLike 38 = .ok (.iload 4, 2) := by decide +kernel
theorem dX1_fixLike_40 : decode cX1_fixLike 40 = .ok (.iaload, 1) := by decide +kernel
theorem dX1_fixLike_41 : decode cX1_fixLike 41 = .ok (.iload_n 3, 1) := by decide +kernel
theorem dX1_fixLike_42 : decode cX1_fixLike 42 = .ok (.if_icmp .ne 6, 3) := by decide +kernel
theorem dX1_fixLike_45 : decode cX1_fixLike 45 = .ok (.iload 4, 2) := by decide +kernel
theorem dX1_fixLike_47 : decode cX1_fixLike 47 = .ok (.ireturn, 1) := by decide +kernel
theorem dX1_fixLike_48 : decode cX1_fixLike 48 = .ok (.iinc 4 1, 3) := by decide +kernel
theorem dX1_fixLike_51 : decode cX1_fixLike 51 = .ok (.goto (-48), 3) := by decide +kernel
theorem dX1_fixLike_54 : decode cX1_fixLike 54 = .ok (.iconst (-1), 1) := by decide +kernel
theorem dX1_fixLike_55 : decode cX1_fixLike 55 = .ok (.ireturn, 1) := by decide +kernel
def t_X1_fixLike_54 : am_T := tb_const (-1) <|
  tb_iret
def t_X1_fixLike_48 : am_T := tb_iinc 4 1 <|
  tb_head 3
def t_X1_fixLike_3 : am_T := tb_iload 4 <|
  tb_aload 0 <|
  tb_getI 1 9 <|
  tb_ic (fun x y => y ≤ x) (t_X1_fixLike_54) <|
  tb_aload 0 <|
  tb_getR 1 10 <|
  tb_iload 4 <|
  tb_iald <|
  tb_iload 1 <|
  tb_ic (fun x y => x ≠ y) (t_X1_fixLike_48) <|
  tb_aload 0 <|
  tb_getR 1 11 <|
  tb_iload 4 <|
  tb_iald <|
  tb_iload 2 <|
  tb_ic (fun x y => x ≠ y) (t_X1_fixLike_48) <|
  tb_aload 0 <|
  tb_getR 1 12 <|
  tb_iload 4 <|
  tb_iald <|
  tb_iload 3 <|
  tb_ic (fun x y => x ≠ y) (t_X1_fixLike_48) <|
  tb_iload 4 <|
  tb_iret
def t_X1_fixLike_0 : am_T := tb_const 0 <|
  tb_istore 4 <|
  tb_head 3
def h_X1_fixLike : am_Hd := fun h => if h = 0 then t_X1_fixLike_0 else if h = 3 then t_X1_fixLike_3 else tb_bad
theorem h_X1_fixLike_0 : h_X1_fixLike 0 = t_X1_fixLike_0 := rfl
theorem h_X1_fixLike_3 : h_X1_fixLike 3 = t_X1_fixLike_3 := rfl
def rm_X1_fixLike : Room := { frames := 0, cells := 0, slots := 0, locals := 0 }
def sp_X1_fixLike : am_sp := fun as M Q => as.length ≤ 5 ∧ am_OK h_X1_fixLike Q 0 (am_in 5 as) M
theorem s_X1_fixLike_54 {G : am_G} {bc bs : Nat} (X : am_Cx G cX1_fixLike RX1 "fixLike" rm_X1_fixLike (some .int) 5 bc bs true) : am_S G 54 (t_X1_fixLike_54) := by
  unfold t_X1_fixLike_54
  refine as_iconst (pc := 54) X dX1_fixLike_54 (by decide) ?_
  exact as_iret (pc := 55) X ⟨rfl, rfl⟩ rfl dX1_fixLike_55
theorem s_X1_fixLike_48 {G : am_G} {bc bs : Nat} (X : am_Cx G cX1_fixLike RX1 "fixLike" rm_X1_fixLike (some .int) 5 bc bs true) : am_S G 48 (t_X1_fixLike_48) := by
  unfold t_X1_fixLike_48
  refine as_iinc (pc := 48) X dX1_fixLike_48 (by decide) (by decide) ?_
  exact as_goto (pc := 51) X 3 dX1_fixLike_51 (by decide) (as_head)
theorem s_X1_fixLike_3 {G : am_G} {bc bs : Nat} (X : am_Cx G cX1_fixLike RX1 "fixLike" rm_X1_fixLike (some .int) 5 bc bs true) : am_S G 3 (t_X1_fixLike_3) := by
  unfold t_X1_fixLike_3
  refine as_iload (pc := 3) X dX1_fixLike_3 ?_
  refine as_aload_n (pc := 5) X dX1_fixLike_5 rfl ?_
  refine as_getI (ci := 1) (j := 9) (pc := 6) X (Cn := RX1) (Tf := TX1) (N := 14) rfl rfl (by decide) iw_X1 aw_69 rfl dX1_fixLike_6 ?_
  refine as_ic_ge (pc := 9) X 54 dX1_fixLike_9 (by decide) (s_X1_fixLike_54 X) ?_
  refine as_aload_n (pc := 12) X dX1_fixLike_12 rfl ?_
  refine as_getR (ci := 1) (j := 10) (pc := 13) X (Cn := RX1) (Tf := TX1) (N := 14) rfl rfl (by decide) iw_X1 aw_72 rfl dX1_fixLike_13 ?_
  refine as_iload (pc := 16) X dX1_fixLike_16 ?_
  refine as_iald (pc := 18) X dX1_fixLike_18 ?_
  refine as_iload_n (pc := 19) X dX1_fixLike_19 rfl ?_
  refine as_ic_ne (pc := 20) X 48 dX1_fixLike_20 (by decide) (s_X1_fixLike_48 X) ?_
  refine as_aload_n (pc := 23) X dX1_fixLike_23 rfl ?_
  refine as_getR (ci := 1) (j := 11) (pc := 24) X (Cn := RX1) (Tf := TX1) (N := 14) rfl rfl (by decide) iw_X1 aw_75 rfl dX1_fixLike_24 ?_
  refine as_iload (pc := 27) X dX1_fixLike_27 ?_
  refine as_iald (pc := 29) X dX1_fixLike_29 ?_
  refine as_iload_n (pc := 30) X dX1_fixLike_30 rfl ?_
  refine as_ic_ne (pc := 31) X 48 dX1_fixLike_31 (by decide) (s_X1_fixLike_48 X) ?_
  refine as_aload_n (pc := 34) X dX1_fixLike_34 rfl ?_
  refine as_getR (ci := 1) (j := 12) (pc := 35) X (Cn := RX1) (Tf := TX1) (N := 14) rfl rfl (by decide) iw_X1 aw_78 rfl dX1_fixLike_35 ?_
  refine as_iload (pc := 38) X dX1_fixLike_38 ?_
  refine as_iald (pc := 40) X dX1_fixLike_40 ?_
  refine as_iload_n (pc := 41) X dX1_fixLike_41 rfl ?_
  refine as_ic_ne (pc := 42) X 48 dX1_fixLike_42 (by decide) (s_X1_fixLike_48 X) ?_
  refine as_iload (pc := 45) X dX1_fixLike_45 ?_
  exact as_iret (pc := 47) X ⟨rfl, rfl⟩ rfl dX1_fixLike_47
theorem s_X1_fixLike_0 {G : am_G} {bc bs : Nat} (X : am_Cx G cX1_fixLike RX1 "fixLike" rm_X1_fixLike (some .int) 5 bc bs true) : am_S G 0 (t_X1_fixLike_0) := by
  unfold t_X1_fixLike_0
  refine as_iconst (pc := 0) X dX1_fixLike_0 (by decide) ?_
  refine as_istore (pc := 1) X dX1_fixLike_1 ?_ (by decide)
  exact as_head
theorem s_X1_fixLike {G : am_G} {bc bs : Nat} (X : am_Cx G cX1_fixLike RX1 "fixLike" rm_X1_fixLike (some .int) 5 bc bs true) (h : Nat) : am_S G h (h_X1_fixLike h) := by
  unfold h_X1_fixLike
  split
  · next e => rw [e]; exact s_X1_fixLike_0 X
  split
  · next e => rw [e]; exact s_X1_fixLike_3 X
  exact as_bad
theorem ct_X1_fixLike : am_Ct yX1_fixLike cX1_fixLike 5 (some .int) rm_X1_fixLike sp_X1_fixLike := am_met (own := RX1) (nm := "fixLike") (by decide) rfl rfl (Or.inr (Or.inl rfl)) (fun _ _ => h_X1_fixLike) (fun _ _ _ X => s_X1_fixLike X) (fun _ _ _ _ h => h)
-- X1_canBeFixed
theorem dX1_canBeFixed_0 : decode cX1_canBeFixed 0 = .ok (.iload_n 1, 1) := by decide +kernel
theorem dX1_canBeFixed_1 : decode cX1_canBeFixed 1 = .ok (.ifCond .eq 14, 3) := by decide +kernel
theorem dX1_canBeFixed_4 : decode cX1_canBeFixed 4 = .ok (.aload_n 0, 1) := by decide +kernel
theorem dX1_canBeFixed_5 : decode cX1_canBeFixed 5 = .ok (.iload_n 3, 1) := by decide +kernel
theorem dX1_canBeFixed_6 : decode cX1_canBeFixed 6 = .ok (.iload_n 2, 1) := by decide +kernel
theorem dX1_canBeFixed_7 : decode cX1_canBeFixed 7 = .ok (.invokevirtual 79, 3) := by decide +kernel
theorem dX1_canBeFixed_10 : decode cX1_canBeFixed 10 = .ok (.ifCond .ne 5, 3) := by decide +kernel
theorem dX1_canBeFixed_13 : decode cX1_canBeFixed 13 = .ok (.iconst 0, 1) := by decide +kernel
theorem dX1_canBeFixed_14 : decode cX1_canBeFixed 14 = .ok (.ireturn, 1) := by decide +kernel
theorem dX1_canBeFixed_15 : decode cX1_canBeFixed 15 = .ok (.aload_n 0, 1) := by decide +kernel
theorem dX1_canBeFixed_16 : decode cX1_canBeFixed 16 = .ok (.iload_n 1, 1) := by decide +kernel
theorem dX1_canBeFixed_17 : decode cX1_canBeFixed 17 = .ok (.iload_n 2, 1) := by decide +kernel
theorem dX1_canBeFixed_18 : decode cX1_canBeFixed 18 = .ok (.iload_n 3, 1) := by decide +kernel
theorem dX1_canBeFixed_19 : decode cX1_canBeFixed 19 = .ok (.invokevirtual 82, 3) := by decide +kernel
theorem dX1_canBeFixed_22 : decode cX1_canBeFixed 22 = .ok (.iconst (-1), 1) := by decide +kernel
theorem dX1_canBeFixed_23 : decode cX1_canBeFixed 23 = .ok (.if_icmp .ne 7, 3) := by decide +kernel
theorem dX1_canBeFixed_26 : decode cX1_canBeFixed 26 = .ok (.iconst 1, 1) := by decide +kernel
theorem dX1_canBeFixed_27 : decode cX1_canBeFixed 27 = .ok (.goto 4, 3) := by decide +kernel
theorem dX1_canBeFixed_30 : decode cX1_canBeFixed 30 = .ok (.iconst 0, 1) := by decide +kernel
theorem dX1_canBeFixed_31 : decode cX1_canBeFixed 31 = .ok (.ireturn, 1) := by decide +kernel
def t_X1_canBeFixed_31 : am_T := tb_zret
def t_X1_canBeFixed_30 : am_T := tb_const 0 <|
  t_X1_canBeFixed_31
def t_X1_canBeFixed_15 : am_T := tb_aload 0 <|
  tb_iload 1 <|
  tb_iload 2 <|
  tb_iload 3 <|
  tb_callV 1 sp_X1_fixLike 4 <|
  tb_const (-1) <|
  tb_ic (fun x y => x ≠ y) (t_X1_canBeFixed_30) <|
  tb_const 1 <|
  t_X1_canBeFixed_31
def t_X1_canBeFixed_0 : am_T := tb_iload 1 <|
  tb_if (fun x => x = 0) (t_X1_canBeFixed_15) <|
  tb_aload 0 <|
  tb_iload 3 <|
  tb_iload 2 <|
  tb_callV 1 sp_X1_isEarlier 3 <|
  tb_if (fun x => x ≠ 0) (t_X1_canBeFixed_15) <|
  tb_const 0 <|
  tb_zret
def h_X1_canBeFixed : am_Hd := fun h => if h = 0 then t_X1_canBeFixed_0 else tb_bad
theorem h_X1_canBeFixed_0 : h_X1_canBeFixed 0 = t_X1_canBeFixed_0 := rfl
def rm_X1_canBeFixed : Room := { frames := 1, cells := 0, slots := 0, locals := 24 }
def sp_X1_canBeFixed : am_sp := fun as M Q => as.length ≤ 4 ∧ am_OK h_X1_canBeFixed Q 0 (am_in 4 as) M
theorem s_X1_canBeFixed_31 {G : am_G} {bc bs : Nat} (X : am_Cx G cX1_canBeFixed RX1 "canBeFixed" rm_X1_canBeFixed (some .boolean) 4 bc bs true) : am_S G 31 (t_X1_canBeFixed_31) := by
  unfold t_X1_canBeFixed_31
  exact as_zret (pc := 31) X ⟨rfl, rfl⟩ rfl dX1_canBeFixed_31
theorem s_X1_canBeFixed_30 {G : am_G} {bc bs : Nat} (X : am_Cx G cX1_canBeFixed RX1 "canBeFixed" rm_X1_canBeFixed (some .boolean) 4 bc bs true) : am_S G 30 (t_X1_canBeFixed_30) := by
  unfold t_X1_canBeFixed_30
  refine as_iconst (pc := 30) X dX1_canBeFixed_30 (by decide) ?_
  exact s_X1_canBeFixed_31 X
theorem s_X1_canBeFixed_15 {G : am_G} {bc bs : Nat} (X : am_Cx G cX1_canBeFixed RX1 "canBeFixed" rm_X1_canBeFixed (some .boolean) 4 bc bs true) : am_S G 15 (t_X1_canBeFixed_15) := by
  unfold t_X1_canBeFixed_15
  refine as_aload_n (pc := 15) X dX1_canBeFixed_15 rfl ?_
  refine as_iload_n (pc := 16) X dX1_canBeFixed_16 rfl ?_
  refine as_iload_n (pc := 17) X dX1_canBeFixed_17 rfl ?_
  refine as_iload_n (pc := 18) X dX1_canBeFixed_18 rfl ?_
  refine as_callV (ci := 1) (np := 3) (ix := 82) (pc := 19) X ct_X1_fixLike (Cn := (RX1, TX1, 14)) rfl ⟨rfl, rfl⟩ aw_498 aw_499 aw_500 aw_501 aw_19 (by decide +kernel) (by decide) dX1_canBeFixed_19 ?_
  refine as_iconst (pc := 22) X dX1_canBeFixed_22 (by decide) ?_
  refine as_ic_ne (pc := 23) X 30 dX1_canBeFixed_23 (by decide) (s_X1_canBeFixed_30 X) ?_
  refine as_iconst (pc := 26) X dX1_canBeFixed_26 (by decide) ?_
  exact as_goto (pc := 27) X 31 dX1_canBeFixed_27 (by decide) (s_X1_canBeFixed_31 X)
theorem s_X1_canBeFixed_0 {G : am_G} {bc bs : Nat} (X : am_Cx G cX1_canBeFixed RX1 "canBeFixed" rm_X1_canBeFixed (some .boolean) 4 bc bs true) : am_S G 0 (t_X1_canBeFixed_0) := by
  unfold t_X1_canBeFixed_0
  refine as_iload_n (pc := 0) X dX1_canBeFixed_0 rfl ?_
  refine as_if_eq (pc := 1) X 15 dX1_canBeFixed_1 (by decide) (s_X1_canBeFixed_15 X) ?_
  refine as_aload_n (pc := 4) X dX1_canBeFixed_4 rfl ?_
  refine as_iload_n (pc := 5) X dX1_canBeFixed_5 rfl ?_
  refine as_iload_n (pc := 6) X dX1_canBeFixed_6 rfl ?_
  refine as_callV (ci := 1) (np := 2) (ix := 79) (pc := 7) X ct_X1_isEarlier (Cn := (RX1, TX1, 14)) rfl ⟨rfl, rfl⟩ aw_494 aw_495 aw_496 aw_497 aw_19 (by decide +kernel) (by decide) dX1_canBeFixed_7 ?_
  refine as_if_ne (pc := 10) X 15 dX1_canBeFixed_10 (by decide) (s_X1_canBeFixed_15 X) ?_
  refine as_iconst (pc := 13) X dX1_canBeFixed_13 (by decide) ?_
  exact as_zret (pc := 14) X ⟨rfl, rfl⟩ rfl dX1_canBeFixed_14
theorem s_X1_canBeFixed {G : am_G} {bc bs : Nat} (X : am_Cx G cX1_canBeFixed RX1 "canBeFixed" rm_X1_canBeFixed (some .boolean) 4 bc bs true) (h : Nat) : am_S G h (h_X1_canBeFixed h) := by
  unfold h_X1_canBeFixed
  split
  · next e => rw [e]; exact s_X1_canBeFixed_0 X
  exact as_bad
theorem ct_X1_canBeFixed : am_Ct yX1_canBeFixed cX1_canBeFixed 4 (some .boolean) rm_X1_canBeFixed sp_X1_canBeFixed := am_met (own := RX1) (nm := "canBeFixed") (by decide) rfl rfl (Or.inr (Or.inr (Or.inl rfl))) (fun _ _ => h_X1_canBeFixed) (fun _ _ _ X => s_X1_canBeFixed X) (fun _ _ _ _ h => h)
-- X1_addFix
theorem dX1_addFix_0 : decode cX1_addFix 0 = .ok (.aload_n 0, 1) := by decide +kernel
theorem dX1_addFix_1 : decode cX1_addFix 1 = .ok (.getfield 40, 3) := by decide +kernel
theorem dX1_addFix_4 : decode cX1_addFix 4 = .ok (.bipush 12, 2) := by decide +kernel
theorem dX1_addFix_6 : decode cX1_addFix 6 = .ok (.if_icmp .ge 43, 3) := by decide +kernel
theorem dX1_addFix_9 : decode cX1_addFix 9 = .ok (.aload_n 0, 1) := by decide +kernel
theorem dX1_addFix_10 : decode cX1_addFix 10 = .ok (.getfield 43, 3) := by decide +kernel
theorem dX1_addFix_13 : decode cX1_addFix 13 = .ok (.aload_n 0, 1) := by decide +kernel
theorem dX1_addFix_14 : decode cX1_addFix 14 = .ok (.getfield 40, 3) := by decide +kernel
theorem dX1_addFix_17 : decode cX1_addFix 17 = .ok (.iload_n 1, 1) := by decide +kernel
theorem dX1_addFix_18 : decode cX1_addFix 18 = .ok (.iastore, 1) := by decide +kernel
theorem dX1_addFix_19 : decode cX1_addFix 19 = .ok (.aload_n 0, 1) := by decide +kernel
theorem dX1_addFix_20 : decode cX1_addFix 20 = .ok (.getfield 46, 3) := by decide +kernel
theorem dX1_addFix_23 : decode cX1_addFix 23 = .ok (.aload_n 0, 1) := by decide +kernel
theorem dX1_addFix_24 : decode cX1_addFix 24 = .ok (.getfield 40, 3) := by decide +kernel
theorem dX1_addFix_27 : decode cX1_addFix 27 = .ok (.iload_n 2, 1) := by decide +kernel
theorem dX1_addFix_28 : decode cX1_addFix 28 = .ok (.iastore, 1) := by decide +kernel
theorem dX1_addFix_29 : decode cX1_addFix 29 = .ok (.aload_n 0, 1) := by decide +kernel
theorem dX1_addFix_30 : decode cX1_addFix 30 = .ok (.getfield 49, 3) := by decide +kernel
theorem dX1_addFix_33 : decode cX1_addFix 33 = .ok (.aload_n 0, 1) := by decide +kernel
theorem dX1_addFix_34 : decode cX1_addFix 34 = .ok (.getfield 40, 3) := by decide +kernel
theorem dX1_addFix_37 : decode cX1_addFix 37 = .ok (.iload_n 3, 1) := by decide +kernel
theorem dX1_addFix_38 : decode cX1_addFix 38 = .ok (.iastore, 1) := by decide +kernel
theorem dX1_addFix_39 : decode cX1_addFix 39 = .ok (.aload_n 0, 1) := by decide +kernel
theorem dX1_addFix_40 : decode cX1_addFix 40 = .ok (.dup, 1) := by decide +kernel
theorem dX1_addFix_41 : decode cX1_addFix 41 = .ok (.getfield 40, 3) := by decide +kernel
theorem dX1_addFix_44 : decode cX1_addFix 44 = .ok (.iconst 1, 1) := by decide +kernel
theorem dX1_addFix_45 : decode cX1_addFix 45 = .ok (.iadd, 1) := by decide +kernel
theorem dX1_addFix_46 : decode cX1_addFix 46 = .ok (.putfield 40, 3) := by decide +kernel
theorem dX1_addFix_49 : decode cX1_addFix 49 = .ok (.return_, 1) := by decide +kernel
def t_X1_addFix_49 : am_T := tb_ret
def t_X1_addFix_0 : am_T := tb_aload 0 <|
  tb_getI 1 9 <|
  tb_const 12 <|
  tb_ic (fun x y => y ≤ x) (t_X1_addFix_49) <|
  tb_aload 0 <|
  tb_getR 1 10 <|
  tb_aload 0 <|
  tb_getI 1 9 <|
  tb_iload 1 <|
  tb_iast <|
  tb_aload 0 <|
  tb_getR 1 11 <|
  tb_aload 0 <|
  tb_getI 1 9 <|
  tb_iload 2 <|
  tb_iast <|
  tb_aload 0 <|
  tb_getR 1 12 <|
  tb_aload 0 <|
  tb_getI 1 9 <|
  tb_iload 3 <|
  tb_iast <|
  tb_aload 0 <|
  tb_dup <|
  tb_getI 1 9 <|
  tb_const 1 <|
  tb_bin (fun x y => x + y) <|
  tb_putI 1 9 <|
  t_X1_addFix_49
def h_X1_addFix : am_Hd := fun h => if h = 0 then t_X1_addFix_0 else tb_bad
theorem h_X1_addFix_0 : h_X1_addFix 0 = t_X1_addFix_0 := rfl
def rm_X1_addFix : Room := { frames := 0, cells := 0, slots := 0, locals := 0 }
def sp_X1_addFix : am_sp := fun as M Q => as.length ≤ 4 ∧ am_OK h_X1_addFix Q 0 (am_in 4 as) M
theorem s_X1_addFix_49 {G : am_G} {bc bs : Nat} (X : am_Cx G cX1_addFix RX1 "addFix" rm_X1_addFix none 4 bc bs true) : am_S G 49 (t_X1_addFix_49) := by
  unfold t_X1_addFix_49
  exact as_ret (pc := 49) X ⟨rfl, rfl⟩ rfl dX1_addFix_49
theorem s_X1_addFix_0 {G : am_G} {bc bs : Nat} (X : am_Cx G cX1_addFix RX1 "addFix" rm_X1_addFix none 4 bc bs true) : am_S G 0 (t_X1_addFix_0) := by
  unfold t_X1_addFix_0
  refine as_aload_n (pc := 0) X dX1_addFix_0 rfl ?_
  refine as_getI (ci := 1) (j := 9) (pc := 1) X (Cn := RX1) (Tf := TX1) (N := 14) rfl rfl (by decide) iw_X1 aw_69 rfl dX1_addFix_1 ?_
  refine as_bipush (pc := 4) X dX1_addFix_4 (by decide) ?_
  refine as_ic_ge (pc := 6) X 49 dX1_addFix_6 (by decide) (s_X1_addFix_49 X) ?_
  refine as_aload_n (pc := 9) X dX1_addFix_9 rfl ?_
  refine as_getR (ci := 1) (j := 10) (pc := 10) X (Cn := RX1) (Tf := TX1) (N := 14) rfl rfl (by decide) iw_X1 aw_72 rfl dX1_addFix_10 ?_
  refine as_aload_n (pc := 13) X dX1_addFix_13 rfl ?_
  refine as_getI (ci := 1) (j := 9) (pc := 14) X (Cn := RX1) (Tf := TX1) (N := 14) rfl rfl (by decide) iw_X1 aw_69 rfl dX1_addFix_14 ?_
  refine as_iload_n (pc := 17) X dX1_addFix_17 rfl ?_
  refine as_iast (pc := 18) X dX1_addFix_18 ?_
  refine as_aload_n (pc := 19) X dX1_addFix_19 rfl ?_
  refine as_getR (ci := 1) (j := 11) (pc := 20) X (Cn := RX1) (Tf := TX1) (N := 14) rfl rfl (by decide) iw_X1 aw_75 rfl dX1_addFix_20 ?_
  refine as_aload_n (pc := 23) X dX1_addFix_23 rfl ?_
  refine as_getI (ci := 1) (j := 9) (pc := 24) X (Cn := RX1) (Tf := TX1) (N := 14) rfl rfl (by decide) iw_X1 aw_69 rfl dX1_addFix_24 ?_
  refine as_iload_n (pc := 27) X dX1_addFix_27 rfl ?_
  refine as_iast (pc := 28) X dX1_addFix_28 ?_
  refine as_aload_n (pc := 29) X dX1_addFix_29 rfl ?_
  refine as_getR (ci := 1) (j := 12) (pc := 30) X (Cn := RX1) (Tf := TX1) (N := 14) rfl rfl (by decide) iw_X1 aw_78 rfl dX1_addFix_30 ?_
  refine as_aload_n (pc := 33) X dX1_addFix_33 rfl ?_
  refine as_getI (ci := 1) (j := 9) (pc := 34) X (Cn := RX1) (Tf := TX1) (N := 14) rfl rfl (by decide) iw_X1 aw_69 rfl dX1_addFix_34 ?_
  refine as_iload_n (pc := 37) X dX1_addFix_37 rfl ?_
  refine as_iast (pc := 38) X dX1_addFix_38 ?_
  refine as_aload_n (pc := 39) X dX1_addFix_39 rfl ?_
  refine as_dup (pc := 40) X dX1_addFix_40 ?_
  refine as_getI (ci := 1) (j := 9) (pc := 41) X (Cn := RX1) (Tf := TX1) (N := 14) rfl rfl (by decide) iw_X1 aw_69 rfl dX1_addFix_41 ?_
  refine as_iconst (pc := 44) X dX1_addFix_44 (by decide) ?_
  refine as_iadd (pc := 45) X dX1_addFix_45 ?_
  refine as_putI (ci := 1) (j := 9) (pc := 46) X (Cn := RX1) (Tf := TX1) (N := 14) rfl rfl (by decide) iw_X1 aw_69 tyX1 tyX1_ok nmX1 rfl rfl (by decide +kernel) dX1_addFix_46 ?_
  exact s_X1_addFix_49 X
theorem s_X1_addFix {G : am_G} {bc bs : Nat} (X : am_Cx G cX1_addFix RX1 "addFix" rm_X1_addFix none 4 bc bs true) (h : Nat) : am_S G h (h_X1_addFix h) := by
  unfold h_X1_addFix
  split
  · next e => rw [e]; exact s_X1_addFix_0 X
  exact as_bad
theorem ct_X1_addFix : am_Ct yX1_addFix cX1_addFix 4 none rm_X1_addFix sp_X1_addFix := am_met (own := RX1) (nm := "addFix") (by decide) rfl rfl (Or.inl rfl) (fun _ _ => h_X1_addFix) (fun _ _ _ X => s_X1_addFix X) (fun _ _ _ _ h => h)
-- X4_correct
theorem dX4_correct_0 : decode cX4_correct 0 = .ok (.iload_n 1, 1) := by decide +kernel
theorem dX4_correct_1 : decode cX4_correct 1 = .ok (.ifCond .lt 19, 3) := by decide +kernel
theorem dX4_correct_4 : decode cX4_correct 4 = .ok (.iload_n 1, 1) := by decide +kernel
theorem dX4_correct_5 : decode cX4_correct 5 = .ok (.iconst 2, 1) := by decide +kernel
theorem dX4_correct_6 : decode cX4_correct 6 = .ok (.if_icmp .gt 14, 3) := by decide +kernel
theorem dX4_correct_9 : decode cX4_correct 9 = .ok (.aload_n 0, 1) := by decide +kernel
theorem dX4_correct_10 : decode cX4_correct 10 = .ok (.getfield 20, 3) := by decide +kernel
theorem dX4_correct_13 : decode cX4_correct 13 = .ok (.iload_n 2, 1) := by decide +kernel
theorem dX4_correct_14 : decode cX4_correct 14 = .ok (.invokevirtual 93, 3) := by decide +kernel
theorem dX4_correct_17 : decode cX4_correct 17 = .ok (.ifCond .ne 5, 3) := by decide +kernel
theorem dX4_correct_20 : decode cX4_correct 20 = .ok (.iconst (-1), 1) := by decide +kernel
theorem dX4_correct_21 : decode cX4_correct 21 = .ok (.ireturn, 1) := by decide +kernel
theorem dX4_correct_22 : decode cX4_correct 22 = .ok (.iload_n 1, 1) := by decide +kernel
theorem dX4_correct_23 : decode cX4_correct 23 = .ok (.ifCond .ne 7, 3) := by decide +kernel
theorem dX4_correct_26 : decode cX4_correct 26 = .ok (.iconst (-1), 1) := by decide +kernel
theorem dX4_correct_27 : decode cX4_correct 27 = .ok (.goto 4, 3) := by decide +kernel
theorem dX4_correct_30 : decode cX4_correct 30 = .ok (.iload_n 3, 1) := by decide +kernel
theorem dX4_correct_31 : decode cX4_correct 31 = .ok (.istore 4, 2) := by decide +kernel
theorem dX4_correct_33 : decode cX4_correct 33 = .ok (.iload_n 1, 1) := by decide +kernel
theorem dX4_correct_34 : decode cX4_correct 34 = .ok (.ifCond .eq 17, 3) := by decide +kernel
theorem dX4_correct_37 : decode cX4_correct 37 = .ok (.aload_n 0, 1) := by decide +kernel
theorem dX4_correct_38 : decode cX4_correct 38 = .ok (.getfield 20, 3) := by decide +kernel
theorem dX4_correct_41 : decode cX4_correct 41 = .ok (.iload 4, 2) := by decide +kernel
theorem dX4_correct_43 : decode cX4_correct 43 = .ok (.invokevirtual 93, 3) := by decide +kernel
theorem dX4_correct_46 : decode cX4_correct 46 = .ok (.ifCond .ne 5, 3) := by decide +kernel
theorem dX4_correct_49 : decode cX4_correct 49 = .ok (.iconst (-1), 1) := by decide +kernel
theorem dX4_correct_50 : decode cX4_correct 50 = .ok (.ireturn, 1) := by decide +kernel
theorem dX4_correct_51 : decode cX4_correct 51 = .ok (.aload_n 0, 1) := by decide +kernel
theorem dX4_correct_52 : decode cX4_correct 52 = .ok (.getfield 20, 3) := by decide +kernel
theorem dX4_correct_55 : decode cX4_correct 55 = .ok (.iload_n 1, 1) := by decide +kernel
theorem dX4_correct_56 : decode cX4_correct 56 = .ok (.iload_n 2, 1) := by decide +kernel
theorem dX4_correct_57 : decode cX4_correct 57 = .ok (.iload 4, 2) := by decide +kernel
theorem dX4_correct_59 : decode cX4_correct 59 = .ok (.invokevirtual 180, 3) := by decide +kernel
theorem dX4_correct_62 : decode cX4_correct 62 = .ok (.ifCond .ne 6, 3) := by decide +kernel
theorem dX4_correct_65 : decode cX4_correct 65 = .ok (.bipush (-2), 2) := by decide +kernel
theorem dX4_correct_67 : decode cX4_correct 67 = .ok (.ireturn, 1) := by decide +kernel
theorem dX4_correct_68 : decode cX4_correct 68 = .ok (.aload_n 0, 1) := by decide +kernel
theorem dX4_correct_69 : decode cX4_correct 69 = .ok (.getfield 20, 3) := by decide +kernel
theorem dX4_correct_72 : decode cX4_correct 72 = .ok (.getfield 100, 3) := by decide +kernel
theorem dX4_correct_75 : decode cX4_correct 75 = .ok (.bipush 12, 2) := by decide +kernel
theorem dX4_correct_77 : decode cX4_correct 77 = .ok (.if_icmp .lt 6, 3) := by decide +kernel
theorem dX4_correct_80 : decode cX4_correct 80 = .ok (.bipush (-3), 2) := by decide +kernel
theorem dX4_correct_82 : decode cX4_correct 82 = .ok (.ireturn, 1) := by decide +kernel
theorem dX4_correct_83 : decode cX4_correct 83 = .ok (.aload_n 0, 1) := by decide +kernel
theorem dX4_correct_84 : decode cX4_correct 84 = .ok (.invokevirtual 69, 3) := by decide +kernel
theorem dX4_correct_87 : decode cX4_correct 87 = .ok (.aload_n 0, 1) := by decide +kernel
theorem dX4_correct_88 : decode cX4_correct 88 = .ok (.getfield 20, 3) := by decide +kernel
theorem dX4_correct_91 : decode cX4_correct 91 = .ok (.iload_n 1, 1) := by decide +kernel
theorem dX4_correct_92 : decode cX4_correct 92 = .ok (.iload_n 2, 1) := by decide +kernel
theorem dX4_correct_93 : decode cX4_correct 93 = .ok (.iload 4, 2) := by decide +kernel
theorem dX4_correct_95 : decode cX4_correct 95 = .ok (.invokevirtual 184, 3) := by decide +kernel
theorem dX4_correct_98 : decode cX4_correct 98 = .ok (.aload_n 0, 1) := by decide +kernel
theorem dX4_correct_99 : decode cX4_correct 99 = .ok (.getfield 20, 3) := by decide +kernel
theorem dX4_correct_102 : decode cX4_correct 102 = .ok (.getfield 100, 3) := by decide +kernel
theorem dX4_correct_105 : decode cX4_correct 105 = .ok (.ireturn, 1) := by decide +kernel
def t_X4_correct_83 : am_T := tb_aload 0 <|
  tb_callV 4 sp_X4_beginChange 1 <|
  tb_aload 0 <|
  tb_getR 4 1 <|
  tb_iload 1 <|
  tb_iload 2 <|
  tb_iload 4 <|
  tb_callV 1 sp_X1_addFix 4 <|
  tb_aload 0 <|
  tb_getR 4 1 <|
  tb_getI 1 9 <|
  tb_iret
def t_X4_correct_68 : am_T := tb_aload 0 <|
  tb_getR 4 1 <|
  tb_getI 1 9 <|
  tb_const 12 <|
  tb_ic (fun x y => x < y) (t_X4_correct_83) <|
  tb_const (-3) <|
  tb_iret
def t_X4_correct_51 : am_T := tb_aload 0 <|
  tb_getR 4 1 <|
  tb_iload 1 <|
  tb_iload 2 <|
  tb_iload 4 <|
  tb_callV 1 sp_X1_canBeFixed 4 <|
  tb_if (fun x => x ≠ 0) (t_X4_correct_68) <|
  tb_const (-2) <|
  tb_iret
def t_X4_correct_31 : am_T := tb_istore 4 <|
  tb_iload 1 <|
  tb_if (fun x => x = 0) (t_X4_correct_51) <|
  tb_aload 0 <|
  tb_getR 4 1 <|
  tb_iload 4 <|
  tb_callV 1 sp_X1_isLine 2 <|
  tb_if (fun x => x ≠ 0) (t_X4_correct_51) <|
  tb_const (-1) <|
  tb_iret
def t_X4_correct_30 : am_T := tb_iload 3 <|
  t_X4_correct_31
def t_X4_correct_22 : am_T := tb_iload 1 <|
  tb_if (fun x => x ≠ 0) (t_X4_correct_30) <|
  tb_const (-1) <|
  t_X4_correct_31
def t_X4_correct_20 : am_T := tb_const (-1) <|
  tb_iret
def t_X4_correct_0 : am_T := tb_iload 1 <|
  tb_if (fun x => x < 0) (t_X4_correct_20) <|
  tb_iload 1 <|
  tb_const 2 <|
  tb_ic (fun x y => y < x) (t_X4_correct_20) <|
  tb_aload 0 <|
  tb_getR 4 1 <|
  tb_iload 2 <|
  tb_callV 1 sp_X1_isLine 2 <|
  tb_if (fun x => x ≠ 0) (t_X4_correct_22) <|
  t_X4_correct_20
def h_X4_correct : am_Hd := fun h => if h = 0 then t_X4_correct_0 else tb_bad
theorem h_X4_correct_0 : h_X4_correct 0 = t_X4_correct_0 := rfl
def rm_X4_correct : Room := { frames := 4, cells := 0, slots := 0, locals := 89 }
def sp_X4_correct : am_sp := fun as M Q => as.length ≤ 5 ∧ am_OK h_X4_correct Q 0 (am_in 5 as) M
theorem s_X4_correct_83 {G : am_G} {bc bs : Nat} (X : am_Cx G cX4_correct RX4 "correct" rm_X4_correct (some .int) 5 bc bs true) : am_S G 83 (t_X4_correct_83) := by
  unfold t_X4_correct_83
  refine as_aload_n (pc := 83) X dX4_correct_83 rfl ?_
  refine as_callV (ci := 4) (np := 0) (ix := 69) (pc := 84) X ct_X4_beginChange (Cn := (RX4, TX4, 7)) rfl ⟨rfl, rfl⟩ aw_423 aw_425 aw_14 aw_426 aw_17 (by decide +kernel) (by decide) dX4_correct_84 ?_
  refine as_aload_n (pc := 87) X dX4_correct_87 rfl ?_
  refine as_getR (ci := 4) (j := 1) (pc := 88) X (Cn := RX4) (Tf := TX4) (N := 7) rfl rfl (by decide) iw_X4 aw_225 rfl dX4_correct_88 ?_
  refine as_iload_n (pc := 91) X dX4_correct_91 rfl ?_
  refine as_iload_n (pc := 92) X dX4_correct_92 rfl ?_
  refine as_iload (pc := 93) X dX4_correct_93 ?_
  refine as_callV (ci := 1) (np := 3) (ix := 184) (pc := 95) X ct_X1_addFix (Cn := (RX1, TX1, 14)) rfl ⟨rfl, rfl⟩ aw_502 aw_503 aw_504 aw_505 aw_19 (by decide +kernel) (by decide) dX4_correct_95 ?_
  refine as_aload_n (pc := 98) X dX4_correct_98 rfl ?_
  refine as_getR (ci := 4) (j := 1) (pc := 99) X (Cn := RX4) (Tf := TX4) (N := 7) rfl rfl (by decide) iw_X4 aw_225 rfl dX4_correct_99 ?_
  refine as_getI (ci := 1) (j := 9) (pc := 102) X (Cn := RX1) (Tf := TX1) (N := 14) rfl rfl (by decide) iw_X1 aw_70 rfl dX4_correct_102 ?_
  exact as_iret (pc := 105) X ⟨rfl, rfl⟩ rfl dX4_correct_105
theorem s_X4_correct_68 {G : am_G} {bc bs : Nat} (X : am_Cx G cX4_correct RX4 "correct" rm_X4_correct (some .int) 5 bc bs true) : am_S G 68 (t_X4_correct_68) := by
  unfold t_X4_correct_68
  refine as_aload_n (pc := 68) X dX4_correct_68 rfl ?_
  refine as_getR (ci := 4) (j := 1) (pc := 69) X (Cn := RX4) (Tf := TX4) (N := 7) rfl rfl (by decide) iw_X4 aw_225 rfl dX4_correct_69 ?_
  refine as_getI (ci := 1) (j := 9) (pc := 72) X (Cn := RX1) (Tf := TX1) (N := 14) rfl rfl (by decide) iw_X1 aw_70 rfl dX4_correct_72 ?_
  refine as_bipush (pc := 75) X dX4_correct_75 (by decide) ?_
  refine as_ic_lt (pc := 77) X 83 dX4_correct_77 (by decide) (s_X4_correct_83 X) ?_
  refine as_bipush (pc := 80) X dX4_correct_80 (by decide) ?_
  exact as_iret (pc := 82) X ⟨rfl, rfl⟩ rfl dX4_correct_82
theorem s_X4_correct_51 {G : am_G} {bc bs : Nat} (X : am_Cx G cX4_correct RX4 "correct" rm_X4_correct (some .int) 5 bc bs true) : am_S G 51 (t_X4_correct_51) := by
  unfold t_X4_correct_51
  refine as_aload_n (pc := 51) X dX4_correct_51 rfl ?_
  refine as_getR (ci := 4) (j := 1) (pc := 52) X (Cn := RX4) (Tf := TX4) (N := 7) rfl rfl (by decide) iw_X4 aw_225 rfl dX4_correct_52 ?_
  refine as_iload_n (pc := 55) X dX4_correct_55 rfl ?_
  refine as_iload_n (pc := 56) X dX4_correct_56 rfl ?_
  refine as_iload (pc := 57) X dX4_correct_57 ?_
  refine as_callV (ci := 1) (np := 3) (ix := 180) (pc := 59) X ct_X1_canBeFixed (Cn := (RX1, TX1, 14)) rfl ⟨rfl, rfl⟩ aw_490 aw_491 aw_492 aw_493 aw_19 (by decide +kernel) (by decide) dX4_correct_59 ?_
  refine as_if_ne (pc := 62) X 68 dX4_correct_62 (by decide) (s_X4_correct_68 X) ?_
  refine as_bipush (pc := 65) X dX4_correct_65 (by decide) ?_
  exact as_iret (pc := 67) X ⟨rfl, rfl⟩ rfl dX4_correct_67
theorem s_X4_correct_31 {G : am_G} {bc bs : Nat} (X : am_Cx G cX4_correct RX4 "correct" rm_X4_correct (some .int) 5 bc bs true) : am_S G 31 (t_X4_correct_31) := by
  unfold t_X4_correct_31
  refine as_istore (pc := 31) X dX4_correct_31 ?_ (by decide)
  refine as_iload_n (pc := 33) X dX4_correct_33 rfl ?_
  refine as_if_eq (pc := 34) X 51 dX4_correct_34 (by decide) (s_X4_correct_51 X) ?_
  refine as_aload_n (pc := 37) X dX4_correct_37 rfl ?_
  refine as_getR (ci := 4) (j := 1) (pc := 38) X (Cn := RX4) (Tf := TX4) (N := 7) rfl rfl (by decide) iw_X4 aw_225 rfl dX4_correct_38 ?_
  refine as_iload (pc := 41) X dX4_correct_41 ?_
  refine as_callV (ci := 1) (np := 1) (ix := 93) (pc := 43) X ct_X1_isLine (Cn := (RX1, TX1, 14)) rfl ⟨rfl, rfl⟩ aw_465 aw_466 aw_467 aw_468 aw_19 (by decide +kernel) (by decide) dX4_correct_43 ?_
  refine as_if_ne (pc := 46) X 51 dX4_correct_46 (by decide) (s_X4_correct_51 X) ?_
  refine as_iconst (pc := 49) X dX4_correct_49 (by decide) ?_
  exact as_iret (pc := 50) X ⟨rfl, rfl⟩ rfl dX4_correct_50
theorem s_X4_correct_30 {G : am_G} {bc bs : Nat} (X : am_Cx G cX4_correct RX4 "correct" rm_X4_correct (some .int) 5 bc bs true) : am_S G 30 (t_X4_correct_30) := by
  unfold t_X4_correct_30
  refine as_iload_n (pc := 30) X dX4_correct_30 rfl ?_
  exact s_X4_correct_31 X
theorem s_X4_correct_22 {G : am_G} {bc bs : Nat} (X : am_Cx G cX4_correct RX4 "correct" rm_X4_correct (some .int) 5 bc bs true) : am_S G 22 (t_X4_correct_22) := by
  unfold t_X4_correct_22
  refine as_iload_n (pc := 22) X dX4_correct_22 rfl ?_
  refine as_if_ne (pc := 23) X 30 dX4_correct_23 (by decide) (s_X4_correct_30 X) ?_
  refine as_iconst (pc := 26) X dX4_correct_26 (by decide) ?_
  exact as_goto (pc := 27) X 31 dX4_correct_27 (by decide) (s_X4_correct_31 X)
theorem s_X4_correct_20 {G : am_G} {bc bs : Nat} (X : am_Cx G cX4_correct RX4 "correct" rm_X4_correct (some .int) 5 bc bs true) : am_S G 20 (t_X4_correct_20) := by
  unfold t_X4_correct_20
  refine as_iconst (pc := 20) X dX4_correct_20 (by decide) ?_
  exact as_iret (pc := 21) X ⟨rfl, rfl⟩ rfl dX4_correct_21
theorem s_X4_correct_0 {G : am_G} {bc bs : Nat} (X : am_Cx G cX4_correct RX4 "correct" rm_X4_correct (some .int) 5 bc bs true) : am_S G 0 (t_X4_correct_0) := by
  unfold t_X4_correct_0
  refine as_iload_n (pc := 0) X dX4_correct_0 rfl ?_
  refine as_if_lt (pc := 1) X 20 dX4_correct_1 (by decide) (s_X4_correct_20 X) ?_
  refine as_iload_n (pc := 4) X dX4_correct_4 rfl ?_
  refine as_iconst (pc := 5) X dX4_correct_5 (by decide) ?_
  refine as_ic_gt (pc := 6) X 20 dX4_correct_6 (by decide) (s_X4_correct_20 X) ?_
  refine as_aload_n (pc := 9) X dX4_correct_9 rfl ?_
  refine as_getR (ci := 4) (j := 1) (pc := 10) X (Cn := RX4) (Tf := TX4) (N := 7) rfl rfl (by decide) iw_X4 aw_225 rfl dX4_correct_10 ?_
  refine as_iload_n (pc := 13) X dX4_correct_13 rfl ?_
  refine as_callV (ci := 1) (np := 1) (ix := 93) (pc := 14) X ct_X1_isLine (Cn := (RX1, TX1, 14)) rfl ⟨rfl, rfl⟩ aw_465 aw_466 aw_467 aw_468 aw_19 (by decide +kernel) (by decide) dX4_correct_14 ?_
  refine as_if_ne (pc := 17) X 22 dX4_correct_17 (by decide) (s_X4_correct_22 X) ?_
  exact s_X4_correct_20 X
theorem s_X4_correct {G : am_G} {bc bs : Nat} (X : am_Cx G cX4_correct RX4 "correct" rm_X4_correct (some .int) 5 bc bs true) (h : Nat) : am_S G h (h_X4_correct h) := by
  unfold h_X4_correct
  split
  · next e => rw [e]; exact s_X4_correct_0 X
  exact as_bad
theorem ct_X4_correct : am_Ct yX4_correct cX4_correct 5 (some .int) rm_X4_correct sp_X4_correct := am_met (own := RX4) (nm := "correct") (by decide) rfl rfl (Or.inr (Or.inl rfl)) (fun _ _ => h_X4_correct) (fun _ _ _ X => s_X4_correct X) (fun _ _ _ _ h => h)
-- X4_withdraw
theorem dX4_withdraw_0 : decode cX4_withdraw 0 = .ok (.aload_n 0, 1) := by decide +kernel
theorem dX4_withdraw_1 : decode cX4_withdraw 1 = .ok (.getfield 20, 3) := by decide +kernel
theorem dX4_withdraw_4 : decode cX4_withdraw 4 = .ok (.iload_n 1, 1) := by decide +kernel
theorem dX4_withdraw_5 : decode cX4_withdraw 5 = .ok (.invokevirtual 187, 3) := by decide +kernel
theorem dX4_withdraw_8 : decode cX4_withdraw 8 = .ok (.ifCond .ne 5, 3) := by decide +kernel
theorem dX4_withdraw_11 : decode cX4_withdraw 11 = .ok (.iconst (-1), 1) := by decide +kernel
theorem dX4_withdraw_12 : decode cX4_withdraw 12 = .ok (.ireturn, 1) := by decide +kernel
theorem dX4_withdraw_13 : decode cX4_withdraw 13 = .ok (.aload_n 0, 1) := by decide +kernel
theorem dX4_withdraw_14 : decode cX4_withdraw 14 = .ok (.invokevirtual 69, 3) := by decide +kernel
theorem dX4_withdraw_17 : decode cX4_withdraw 17 = .ok (.aload_n 0, 1) := by decide +kernel
theorem dX4_withdraw_18 : decode cX4_withdraw 18 = .ok (.getfield 20, 3) := by decide +kernel
theorem dX4_withdraw_21 : decode cX4_withdraw 21 = .ok (.iload_n 1, 1) := by decide +kernel
theorem dX4_withdraw_22 : decode cX4_withdraw 22 = .ok (.invokevirtual 190, 3) := by decide +kernel
theorem dX4_withdraw_25 : decode cX4_withdraw 25 = .ok (.aload_n 0, 1) := by decide +kernel
theorem dX4_withdraw_26 : decode cX4_withdraw 26 = .ok (.getfield 20, 3) := by decide +kernel
theorem dX4_withdraw_29 : decode cX4_withdraw 29 = .ok (.getfield 100, 3) := by decide +kernel
theorem dX4_withdraw_32 : decode cX4_withdraw 32 = .ok (.ireturn, 1) := by decide +kernel
def t_X4_withdraw_13 : am_T := tb_aload 0 <|
  tb_callV 4 sp_X4_beginChange 1 <|
  tb_aload 0 <|
  tb_getR 4 1 <|
  tb_iload 1 <|
  tb_callV 1 sp_X1_removeFix 2 <|
  tb_aload 0 <|
  tb_getR 4 1 <|
  tb_getI 1 9 <|
  tb_iret
def t_X4_withdraw_0 : am_T := tb_aload 0 <|
  tb_getR 4 1 <|
  tb_iload 1 <|
  tb_callV 1 sp_X1_isFix 2 <|
  tb_if (fun x => x ≠ 0) (t_X4_withdraw_13) <|
  tb_const (-1) <|
  tb_iret
def h_X4_withdraw : am_Hd := fun h => if h = 0 then t_X4_withdraw_0 else tb_bad
theorem h_X4_withdraw_0 : h_X4_withdraw 0 = t_X4_withdraw_0 := rfl
def rm_X4_withdraw : Room := { frames := 4, cells := 0, slots := 0, locals := 89 }
def sp_X4_withdraw : am_sp := fun as M Q => as.length ≤ 2 ∧ am_OK h_X4_withdraw Q 0 (am_in 2 as) M
theorem s_X4_withdraw_13 {G : am_G} {bc bs : Nat} (X : am_Cx G cX4_withdraw RX4 "withdraw" rm_X4_withdraw (some .int) 2 bc bs true) : am_S G 13 (t_X4_withdraw_13) := by
  unfold t_X4_withdraw_13
  refine as_aload_n (pc := 13) X dX4_withdraw_13 rfl ?_
  refine as_callV (ci := 4) (np := 0) (ix := 69) (pc := 14) X ct_X4_beginChange (Cn := (RX4, TX4, 7)) rfl ⟨rfl, rfl⟩ aw_423 aw_425 aw_14 aw_426 aw_17 (by decide +kernel) (by decide) dX4_withdraw_14 ?_
  refine as_aload_n (pc := 17) X dX4_withdraw_17 rfl ?_
  refine as_getR (ci := 4) (j := 1) (pc := 18) X (Cn := RX4) (Tf := TX4) (N := 7) rfl rfl (by decide) iw_X4 aw_225 rfl dX4_withdraw_18 ?_
  refine as_iload_n (pc := 21) X dX4_withdraw_21 rfl ?_
  refine as_callV (ci := 1) (np := 1) (ix := 190) (pc := 22) X ct_X1_removeFix (Cn := (RX1, TX1, 14)) rfl ⟨rfl, rfl⟩ aw_514 aw_474 aw_475 aw_476 aw_19 (by decide +kernel) (by decide) dX4_withdraw_22 ?_
  refine as_aload_n (pc := 25) X dX4_withdraw_25 rfl ?_
  refine as_getR (ci := 4) (j := 1) (pc := 26) X (Cn := RX4) (Tf := TX4) (N := 7) rfl rfl (by decide) iw_X4 aw_225 rfl dX4_withdraw_26 ?_
  refine as_getI (ci := 1) (j := 9) (pc := 29) X (Cn := RX1) (Tf := TX1) (N := 14) rfl rfl (by decide) iw_X1 aw_70 rfl dX4_withdraw_29 ?_
  exact as_iret (pc := 32) X ⟨rfl, rfl⟩ rfl dX4_withdraw_32
theorem s_X4_withdraw_0 {G : am_G} {bc bs : Nat} (X : am_Cx G cX4_withdraw RX4 "withdraw" rm_X4_withdraw (some .int) 2 bc bs true) : am_S G 0 (t_X4_withdraw_0) := by
  unfold t_X4_withdraw_0
  refine as_aload_n (pc := 0) X dX4_withdraw_0 rfl ?_
  refine as_getR (ci := 4) (j := 1) (pc := 1) X (Cn := RX4) (Tf := TX4) (N := 7) rfl rfl (by decide) iw_X4 aw_225 rfl dX4_withdraw_1 ?_
  refine as_iload_n (pc := 4) X dX4_withdraw_4 rfl ?_
  refine as_callV (ci := 1) (np := 1) (ix := 187) (pc := 5) X ct_X1_isFix (Cn := (RX1, TX1, 14)) rfl ⟨rfl, rfl⟩ aw_510 aw_511 aw_512 aw_513 aw_19 (by decide +kernel) (by decide) dX4_withdraw_5 ?_
  refine as_if_ne (pc := 8) X 13 dX4_withdraw_8 (by decide) (s_X4_withdraw_13 X) ?_
  refine as_iconst (pc := 11) X dX4_withdraw_11 (by decide) ?_
  exact as_iret (pc := 12) X ⟨rfl, rfl⟩ rfl dX4_withdraw_12
theorem s_X4_withdraw {G : am_G} {bc bs : Nat} (X : am_Cx G cX4_withdraw RX4 "withdraw" rm_X4_withdraw (some .int) 2 bc bs true) (h : Nat) : am_S G h (h_X4_withdraw h) := by
  unfold h_X4_withdraw
  split
  · next e => rw [e]; exact s_X4_withdraw_0 X
  exact as_bad
theorem ct_X4_withdraw : am_Ct yX4_withdraw cX4_withdraw 2 (some .int) rm_X4_withdraw sp_X4_withdraw := am_met (own := RX4) (nm := "withdraw") (by decide) rfl rfl (Or.inr (Or.inl rfl)) (fun _ _ => h_X4_withdraw) (fun _ _ _ X => s_X4_withdraw X) (fun _ _ _ _ h => h)
-- L_goes
theorem dL_goes_0 : decode cL_goes 0 = .ok (.iconst 3, 1) := by decide +kernel
theorem dL_goes_1 : decode cL_goes 1 = .ok (.iload_n 2, 1) := by decide +kernel
theorem dL_goes_2 : decode cL_goes 2 = .ok (.imul, 1) := by decide +kernel
theorem dL_goes_3 : decode cL_goes 3 = .ok (.istore_n 3, 1) := by decide +kernel
theorem dL_goes_4 : decode cL_goes 4 = .ok (.iload_n 3, 1) := by decide +kernel
theorem dL_goes_5 : decode cL_goes 5 = .ok (.iconst 3, 1) := by decide +kernel
theorem dL_goes_6 : decode cL_goes 6 = .ok (.aload_n 0, 1) := by decide +kernel
theorem dL_goes_7 : decode cL_goes 7 = .ok (.bipush 10, 2) := by decide +kernel
theorem dL_goes_9 : decode cL_goes 9 = .ok (.iaload, 1) := by decide +kernel
theorem dL_goes_10 : decode cL_goes 10 = .ok (.imul, 1) := by decide +kernel
theorem dL_goes_11 : decode cL_goes 11 = .ok (.iconst 3, 1) := by decide +kernel
theorem dL_goes_12 : decode cL_goes 12 = .ok (.isub, 1) := by decide +kernel
theorem dL_goes_13 : decode cL_goes 13 = .ok (.if_icmp .ge 17, 3) := by decide +kernel
theorem dL_goes_16 : decode cL_goes 16 = .ok (.aload_n 1, 1) := by decide +kernel
theorem dL_goes_17 : decode cL_goes 17 = .ok (.iload_n 3, 1) := by decide +kernel
theorem dL_goes_18 : decode cL_goes 18 = .ok (.aload_n 1, 1) := by decide +kernel
theorem dL_goes_19 : decode cL_goes 19 = .ok (.iload_n 3, 1) := by decide +kernel
theorem dL_goes_20 : decode cL_goes 20 = .ok (.iconst 3, 1) := by decide +kernel
theorem dL_goes_21 : decode cL_goes 21 = .ok (.iadd, 1) := by decide +kernel
theorem dL_goes_22 : decode cL_goes 22 = .ok (.iaload, 1) := by decide +kernel
theorem dL_goes_23 : decode cL_goes 23 = .ok (.iastore, 1) := by decide +kernel
theorem dL_goes_24 : decode cL_goes 24 = .ok (.iinc 3 1, 3) := by decide +kernel
theorem dL_goes_27 : decode cL_goes 27 = .ok (.goto (-23), 3) := by decide +kernel
theorem dL_goes_30 : decode cL_goes 30 = .ok (.aload_n 0, 1) := by decide +kernel
theorem dL_goes_31 : decode cL_goes 31 = .ok (.bipush 10, 2) := by decide +kernel
theorem dL_goes_33 : decode cL_goes 33 = .ok (.dup2, 1) := by decide +kernel
theorem dL_goes_34 : decode cL_goes 34 = .ok (.iaload, 1) := by decide +kernel
theorem dL_goes_35 : decode cL_goes 35 = .ok (.iconst 1, 1) := by decide +kernel
theorem dL_goes_36 : decode cL_goes 36 = .ok (.isub, 1) := by decide +kernel
theorem dL_goes_37 : decode cL_goes 37 = .ok (.iastore, 1) := by decide +kernel
theorem dL_goes_38 : decode cL_goes 38 = .ok (.return_, 1) := by decide +kernel
def t_L_goes_30 : am_T := tb_aload 0 <|
  tb_const 10 <|
  tb_dup2 <|
  tb_iald <|
  tb_const 1 <|
  tb_bin (fun x y => x - y) <|
  tb_iast <|
  tb_ret
def t_L_goes_4 : am_T := tb_iload 3 <|
  tb_const 3 <|
  tb_aload 0 <|
  tb_const 10 <|
  tb_iald <|
  tb_bin (fun x y => x * y) <|
  tb_const 3 <|
  tb_bin (fun x y => x - y) <|
  tb_ic (fun x y => y ≤ x) (t_L_goes_30) <|
  tb_aload 1 <|
  tb_iload 3 <|
  tb_aload 1 <|
  tb_iload 3 <|
  tb_const 3 <|
  tb_bin (fun x y => x + y) <|
  tb_iald <|
  tb_iast <|
  tb_iinc 3 1 <|
  tb_head 4
def t_L_goes_0 : am_T := tb_const 3 <|
  tb_iload 2 <|
  tb_bin (fun x y => x * y) <|
  tb_istore 3 <|
  tb_head 4
def h_L_goes : am_Hd := fun h => if h = 0 then t_L_goes_0 else if h = 4 then t_L_goes_4 else tb_bad
theorem h_L_goes_0 : h_L_goes 0 = t_L_goes_0 := rfl
theorem h_L_goes_4 : h_L_goes 4 = t_L_goes_4 := rfl
def rm_L_goes : Room := { frames := 0, cells := 0, slots := 0, locals := 0 }
def sp_L_goes : am_sp := fun as M Q => as.length ≤ 4 ∧ am_OK h_L_goes Q 0 (am_in 4 as) M
theorem s_L_goes_30 {G : am_G} {bc bs : Nat} (X : am_Cx G cL_goes RL "goes" rm_L_goes none 4 bc bs true) : am_S G 30 (t_L_goes_30) := by
  unfold t_L_goes_30
  refine as_aload_n (pc := 30) X dL_goes_30 rfl ?_
  refine as_bipush (pc := 31) X dL_goes_31 (by decide) ?_
  refine as_dup2 (pc := 33) X dL_goes_33 ?_
  refine as_iald (pc := 34) X dL_goes_34 ?_
  refine as_iconst (pc := 35) X dL_goes_35 (by decide) ?_
  refine as_isub (pc := 36) X dL_goes_36 ?_
  refine as_iast (pc := 37) X dL_goes_37 ?_
  exact as_ret (pc := 38) X ⟨rfl, rfl⟩ rfl dL_goes_38
theorem s_L_goes_4 {G : am_G} {bc bs : Nat} (X : am_Cx G cL_goes RL "goes" rm_L_goes none 4 bc bs true) : am_S G 4 (t_L_goes_4) := by
  unfold t_L_goes_4
  refine as_iload_n (pc := 4) X dL_goes_4 rfl ?_
  refine as_iconst (pc := 5) X dL_goes_5 (by decide) ?_
  refine as_aload_n (pc := 6) X dL_goes_6 rfl ?_
  refine as_bipush (pc := 7) X dL_goes_7 (by decide) ?_
  refine as_iald (pc := 9) X dL_goes_9 ?_
  refine as_imul (pc := 10) X dL_goes_10 ?_
  refine as_iconst (pc := 11) X dL_goes_11 (by decide) ?_
  refine as_isub (pc := 12) X dL_goes_12 ?_
  refine as_ic_ge (pc := 13) X 30 dL_goes_13 (by decide) (s_L_goes_30 X) ?_
  refine as_aload_n (pc := 16) X dL_goes_16 rfl ?_
  refine as_iload_n (pc := 17) X dL_goes_17 rfl ?_
  refine as_aload_n (pc := 18) X dL_goes_18 rfl ?_
  refine as_iload_n (pc := 19) X dL_goes_19 rfl ?_
  refine as_iconst (pc := 20) X dL_goes_20 (by decide) ?_
  refine as_iadd (pc := 21) X dL_goes_21 ?_
  refine as_iald (pc := 22) X dL_goes_22 ?_
  refine as_iast (pc := 23) X dL_goes_23 ?_
  refine as_iinc (pc := 24) X dL_goes_24 (by decide) (by decide) ?_
  exact as_goto (pc := 27) X 4 dL_goes_27 (by decide) (as_head)
theorem s_L_goes_0 {G : am_G} {bc bs : Nat} (X : am_Cx G cL_goes RL "goes" rm_L_goes none 4 bc bs true) : am_S G 0 (t_L_goes_0) := by
  unfold t_L_goes_0
  refine as_iconst (pc := 0) X dL_goes_0 (by decide) ?_
  refine as_iload_n (pc := 1) X dL_goes_1 rfl ?_
  refine as_imul (pc := 2) X dL_goes_2 ?_
  refine as_istore_n (pc := 3) X dL_goes_3 rfl ?_ (by decide)
  exact as_head
theorem s_L_goes {G : am_G} {bc bs : Nat} (X : am_Cx G cL_goes RL "goes" rm_L_goes none 4 bc bs true) (h : Nat) : am_S G h (h_L_goes h) := by
  unfold h_L_goes
  split
  · next e => rw [e]; exact s_L_goes_0 X
  split
  · next e => rw [e]; exact s_L_goes_4 X
  exact as_bad
theorem ct_L_goes : am_Ct yL_goes cL_goes 4 none rm_L_goes sp_L_goes := am_met (own := RL) (nm := "goes") (by decide) rfl rfl (Or.inl rfl) (fun _ _ => h_L_goes) (fun _ _ _ X => s_L_goes X) (fun _ _ _ _ h => h)
-- L_top
theorem dL_top_0 : decode cL_top 0 = .ok (.iload_n 0, 1) := by decide +kernel
theorem dL_top_1 : decode cL_top 1 = .ok (.ifCond .ne 8, 3) := by decide +kernel
theorem dL_top_4 : decode cL_top 4 = .ok (.ldc 47, 2) := by decide +kernel
theorem dL_top_6 : decode cL_top 6 = .ok (.goto 38, 3) := by decide +kernel
theorem dL_top_9 : decode cL_top 9 = .ok (.iload_n 0, 1) := by decide +kernel
theorem dL_top_10 : decode cL_top 10 = .ok (.iconst 1, 1) := by decide +kernel
theorem dL_top_11 : decode cL_top 11 = .ok (.if_icmp .ne 9, 3) := by decide +kernel
theorem dL_top_14 : decode cL_top 14 = .ok (.sipush 200, 3) := by decide +kernel
theorem dL_top_17 : decode cL_top 17 = .ok (.goto 27, 3) := by decide +kernel
theorem dL_top_20 : decode cL_top 20 = .ok (.iload_n 0, 1) := by decide +kernel
theorem dL_top_21 : decode cL_top 21 = .ok (.iconst 4, 1) := by decide +kernel
theorem dL_top_22 : decode cL_top 22 = .ok (.if_icmp .ne 8, 3) := by decide +kernel
theorem dL_top_25 : decode cL_top 25 = .ok (.bipush 50, 2) := by decide +kernel
theorem dL_top_27 : decode cL_top 27 = .ok (.goto 17, 3) := by decide +kernel
theorem dL_top_30 : decode cL_top 30 = .ok (.iload_n 0, 1) := by decide +kernel
theorem dL_top_31 : decode cL_top 31 = .ok (.bipush 6, 2) := by decide +kernel
theorem dL_top_33 : decode cL_top 33 = .ok (.if_icmp .ne 9, 3) := by decide +kernel
theorem dL_top_36 : decode cL_top 36 = .ok (.sipush 1000, 3) := by decide +kernel
theorem dL_top_39 : decode cL_top 39 = .ok (.goto 5, 3) := by decide +kernel
theorem dL_top_42 : decode cL_top 42 = .ok (.bipush 100, 2) := by decide +kernel
theorem dL_top_44 : decode cL_top 44 = .ok (.ireturn, 1) := by decide +kernel
def t_L_top_44 : am_T := tb_iret
def t_L_top_42 : am_T := tb_const 100 <|
  t_L_top_44
def t_L_top_30 : am_T := tb_iload 0 <|
  tb_const 6 <|
  tb_ic (fun x y => x ≠ y) (t_L_top_42) <|
  tb_const 1000 <|
  t_L_top_44
def t_L_top_20 : am_T := tb_iload 0 <|
  tb_const 4 <|
  tb_ic (fun x y => x ≠ y) (t_L_top_30) <|
  tb_const 50 <|
  t_L_top_44
def t_L_top_9 : am_T := tb_iload 0 <|
  tb_const 1 <|
  tb_ic (fun x y => x ≠ y) (t_L_top_20) <|
  tb_const 200 <|
  t_L_top_44
def t_L_top_0 : am_T := tb_iload 0 <|
  tb_if (fun x => x ≠ 0) (t_L_top_9) <|
  tb_const (100000) <|
  t_L_top_44
def h_L_top : am_Hd := fun h => if h = 0 then t_L_top_0 else tb_bad
theorem h_L_top_0 : h_L_top 0 = t_L_top_0 := rfl
def rm_L_top : Room := { frames := 0, cells := 0, slots := 0, locals := 0 }
def sp_L_top : am_sp := fun as M Q => as.length ≤ 1 ∧ am_OK h_L_top Q 0 (am_in 1 as) M
theorem s_L_top_44 {G : am_G} {bc bs : Nat} (X : am_Cx G cL_top RL "top" rm_L_top (some .int) 1 bc bs true) : am_S G 44 (t_L_top_44) := by
  unfold t_L_top_44
  exact as_iret (pc := 44) X ⟨rfl, rfl⟩ rfl dL_top_44
theorem s_L_top_42 {G : am_G} {bc bs : Nat} (X : am_Cx G cL_top RL "top" rm_L_top (some .int) 1 bc bs true) : am_S G 42 (t_L_top_42) := by
  unfold t_L_top_42
  refine as_bipush (pc := 42) X dL_top_42 (by decide) ?_
  exact s_L_top_44 X
theorem s_L_top_30 {G : am_G} {bc bs : Nat} (X : am_Cx G cL_top RL "top" rm_L_top (some .int) 1 bc bs true) : am_S G 30 (t_L_top_30) := by
  unfold t_L_top_30
  refine as_iload_n (pc := 30) X dL_top_30 rfl ?_
  refine as_bipush (pc := 31) X dL_top_31 (by decide) ?_
  refine as_ic_ne (pc := 33) X 42 dL_top_33 (by decide) (s_L_top_42 X) ?_
  refine as_sipush (pc := 36) X dL_top_36 (by decide) ?_
  exact as_goto (pc := 39) X 44 dL_top_39 (by decide) (s_L_top_44 X)
theorem s_L_top_20 {G : am_G} {bc bs : Nat} (X : am_Cx G cL_top RL "top" rm_L_top (some .int) 1 bc bs true) : am_S G 20 (t_L_top_20) := by
  unfold t_L_top_20
  refine as_iload_n (pc := 20) X dL_top_20 rfl ?_
  refine as_iconst (pc := 21) X dL_top_21 (by decide) ?_
  refine as_ic_ne (pc := 22) X 30 dL_top_22 (by decide) (s_L_top_30 X) ?_
  refine as_bipush (pc := 25) X dL_top_25 (by decide) ?_
  exact as_goto (pc := 27) X 44 dL_top_27 (by decide) (s_L_top_44 X)
theorem s_L_top_9 {G : am_G} {bc bs : Nat} (X : am_Cx G cL_top RL "top" rm_L_top (some .int) 1 bc bs true) : am_S G 9 (t_L_top_9) := by
  unfold t_L_top_9
  refine as_iload_n (pc := 9) X dL_top_9 rfl ?_
  refine as_iconst (pc := 10) X dL_top_10 (by decide) ?_
  refine as_ic_ne (pc := 11) X 20 dL_top_11 (by decide) (s_L_top_20 X) ?_
  refine as_sipush (pc := 14) X dL_top_14 (by decide) ?_
  exact as_goto (pc := 17) X 44 dL_top_17 (by decide) (s_L_top_44 X)
theorem s_L_top_0 {G : am_G} {bc bs : Nat} (X : am_Cx G cL_top RL "top" rm_L_top (some .int) 1 bc bs true) : am_S G 0 (t_L_top_0) := by
  unfold t_L_top_0
  refine as_iload_n (pc := 0) X dL_top_0 rfl ?_
  refine as_if_ne (pc := 1) X 9 dL_top_1 (by decide) (s_L_top_9 X) ?_
  refine as_ldc (pc := 4) X dL_top_4 aw_443 ?_
  exact as_goto (pc := 6) X 44 dL_top_6 (by decide) (s_L_top_44 X)
theorem s_L_top {G : am_G} {bc bs : Nat} (X : am_Cx G cL_top RL "top" rm_L_top (some .int) 1 bc bs true) (h : Nat) : am_S G h (h_L_top h) := by
  unfold h_L_top
  split
  · next e => rw [e]; exact s_L_top_0 X
  exact as_bad
theorem ct_L_top : am_Ct yL_top cL_top 1 (some .int) rm_L_top sp_L_top := am_met (own := RL) (nm := "top") (by decide) rfl rfl (Or.inr (Or.inl rfl)) (fun _ _ => h_L_top) (fun _ _ _ X => s_L_top X) (fun _ _ _ _ h => h)
-- X4_isSettingValue
theorem dX4_isSettingValue_0 : decode cX4_isSettingValue 0 = .ok (.iload_n 0, 1) := by decide +kernel
theorem dX4_isSettingValue_1 : decode cX4_isSettingValue 1 = .ok (.ifCond .lt 31, 3) := by decide +kernel
theorem dX4_isSettingValue_4 : decode cX4_isSettingValue 4 = .ok (.iload_n 0, 1) := by decide +kernel
theorem dX4_isSettingValue_5 : decode cX4_isSettingValue 5 = .ok (.bipush 8, 2) := by decide +kernel
theorem dX4_isSettingValue_7 : decode cX4_isSettingValue 7 = .ok (.if_icmp .ge 25, 3) := by decide +kernel
theorem dX4_isSettingValue_10 : decode cX4_isSettingValue 10 = .ok (.iload_n 1, 1) := by decide +kernel
theorem dX4_isSettingValue_11 : decode cX4_isSettingValue 11 = .ok (.getstatic 274, 3) := by decide +kernel
theorem dX4_isSettingValue_14 : decode cX4_isSettingValue 14 = .ok (.iload_n 0, 1) := by decide +kernel
theorem dX4_isSettingValue_15 : decode cX4_isSettingValue 15 = .ok (.iaload, 1) := by decide +kernel
theorem dX4_isSettingValue_16 : decode cX4_isSettingValue 16 = .ok (.if_icmp .lt 16, 3) := by decide +kernel
theorem dX4_isSettingValue_19 : decode cX4_isSettingValue 19 = .ok (.iload_n 1, 1) := by decide +kernel
theorem dX4_isSettingValue_20 : decode cX4_isSettingValue 20 = .ok (.getstatic 247, 3) := by decide +kernel
theorem dX4_isSettingValue_23 : decode cX4_isSettingValue 23 = .ok (.iload_n 0, 1) := by decide +kernel
theorem dX4_isSettingValue_24 : decode cX4_isSettingValue 24 = .ok (.iaload, 1) := by decide +kernel
theorem dX4_isSettingValue_25 : decode cX4_isSettingValue 25 = .ok (.if_icmp .gt 7, 3) := by decide +kernel
theorem dX4_isSettingValue_28 : decode cX4_isSettingValue 28 = .ok (.iconst 1, 1) := by decide +kernel
theorem dX4_isSettingValue_29 : decode cX4_isSettingValue 29 = .ok (.goto 4, 3) := by decide +kernel
theorem dX4_isSettingValue_32 : decode cX4_isSettingValue 32 = .ok (.iconst 0, 1) := by decide +kernel
theorem dX4_isSettingValue_33 : decode cX4_isSettingValue 33 = .ok (.ireturn, 1) := by decide +kernel
def t_X4_isSettingValue_33 : am_T := tb_zret
def t_X4_isSettingValue_32 : am_T := tb_const 0 <|
  t_X4_isSettingValue_33
def t_X4_isSettingValue_0 : am_T := tb_iload 0 <|
  tb_if (fun x => x < 0) (t_X4_isSettingValue_32) <|
  tb_iload 0 <|
  tb_const 8 <|
  tb_ic (fun x y => y ≤ x) (t_X4_isSettingValue_32) <|
  tb_iload 1 <|
  tb_stat 1 <|
  tb_iload 0 <|
  tb_iald <|
  tb_ic (fun x y => x < y) (t_X4_isSettingValue_32) <|
  tb_iload 1 <|
  tb_stat 2 <|
  tb_iload 0 <|
  tb_iald <|
  tb_ic (fun x y => y < x) (t_X4_isSettingValue_32) <|
  tb_const 1 <|
  t_X4_isSettingValue_33
def h_X4_isSettingValue : am_Hd := fun h => if h = 0 then t_X4_isSettingValue_0 else tb_bad
theorem h_X4_isSettingValue_0 : h_X4_isSettingValue 0 = t_X4_isSettingValue_0 := rfl
def rm_X4_isSettingValue : Room := { frames := 0, cells := 0, slots := 0, locals := 0 }
def sp_X4_isSettingValue : am_sp := fun as M Q => as.length ≤ 2 ∧ am_OK h_X4_isSettingValue Q 0 (am_in 2 as) M
theorem s_X4_isSettingValue_33 {G : am_G} {bc bs : Nat} (X : am_Cx G cX4_isSettingValue RX4 "isSettingValue" rm_X4_isSettingValue (some .boolean) 2 bc bs true) : am_S G 33 (t_X4_isSettingValue_33) := by
  unfold t_X4_isSettingValue_33
  exact as_zret (pc := 33) X ⟨rfl, rfl⟩ rfl dX4_isSettingValue_33
theorem s_X4_isSettingValue_32 {G : am_G} {bc bs : Nat} (X : am_Cx G cX4_isSettingValue RX4 "isSettingValue" rm_X4_isSettingValue (some .boolean) 2 bc bs true) : am_S G 32 (t_X4_isSettingValue_32) := by
  unfold t_X4_isSettingValue_32
  refine as_iconst (pc := 32) X dX4_isSettingValue_32 (by decide) ?_
  exact s_X4_isSettingValue_33 X
theorem s_X4_isSettingValue_0 {G : am_G} {bc bs : Nat} (X : am_Cx G cX4_isSettingValue RX4 "isSettingValue" rm_X4_isSettingValue (some .boolean) 2 bc bs true) : am_S G 0 (t_X4_isSettingValue_0) := by
  unfold t_X4_isSettingValue_0
  refine as_iload_n (pc := 0) X dX4_isSettingValue_0 rfl ?_
  refine as_if_lt (pc := 1) X 32 dX4_isSettingValue_1 (by decide) (s_X4_isSettingValue_32 X) ?_
  refine as_iload_n (pc := 4) X dX4_isSettingValue_4 rfl ?_
  refine as_bipush (pc := 5) X dX4_isSettingValue_5 (by decide) ?_
  refine as_ic_ge (pc := 7) X 32 dX4_isSettingValue_7 (by decide) (s_X4_isSettingValue_32 X) ?_
  refine as_iload_n (pc := 10) X dX4_isSettingValue_10 rfl ?_
  refine as_stat1 (pc := 11) X aw_528 dX4_isSettingValue_11 ?_
  refine as_iload_n (pc := 14) X dX4_isSettingValue_14 rfl ?_
  refine as_iald (pc := 15) X dX4_isSettingValue_15 ?_
  refine as_ic_lt (pc := 16) X 32 dX4_isSettingValue_16 (by decide) (s_X4_isSettingValue_32 X) ?_
  refine as_iload_n (pc := 19) X dX4_isSettingValue_19 rfl ?_
  refine as_stat2 (pc := 20) X aw_530 dX4_isSettingValue_20 ?_
  refine as_iload_n (pc := 23) X dX4_isSettingValue_23 rfl ?_
  refine as_iald (pc := 24) X dX4_isSettingValue_24 ?_
  refine as_ic_gt (pc := 25) X 32 dX4_isSettingValue_25 (by decide) (s_X4_isSettingValue_32 X) ?_
  refine as_iconst (pc := 28) X dX4_isSettingValue_28 (by decide) ?_
  exact as_goto (pc := 29) X 33 dX4_isSettingValue_29 (by decide) (s_X4_isSettingValue_33 X)
theorem s_X4_isSettingValue {G : am_G} {bc bs : Nat} (X : am_Cx G cX4_isSettingValue RX4 "isSettingValue" rm_X4_isSettingValue (some .boolean) 2 bc bs true) (h : Nat) : am_S G h (h_X4_isSettingValue h) := by
  unfold h_X4_isSettingValue
  split
  · next e => rw [e]; exact s_X4_isSettingValue_0 X
  exact as_bad
theorem ct_X4_isSettingValue : am_Ct yX4_isSettingValue cX4_isSettingValue 2 (some .boolean) rm_X4_isSettingValue sp_X4_isSettingValue := am_met (own := RX4) (nm := "isSettingValue") (by decide) rfl rfl (Or.inr (Or.inr (Or.inl rfl))) (fun _ _ => h_X4_isSettingValue) (fun _ _ _ X => s_X4_isSettingValue X) (fun _ _ _ _ h => h)
-- X4_set
theorem dX4_set_0 : decode cX4_set 0 = .ok (.iload_n 1, 1) := by decide +kernel
theorem dX4_set_1 : decode cX4_set 1 = .ok (.iload_n 2, 1) := by decide +kernel
theorem dX4_set_2 : decode cX4_set 2 = .ok (.invokestatic 152, 3) := by decide +kernel
theorem dX4_set_5 : decode cX4_set 5 = .ok (.ifCond .ne 5, 3) := by decide +kernel
theorem dX4_set_8 : decode cX4_set 8 = .ok (.iconst (-1), 1) := by decide +kernel
theorem dX4_set_9 : decode cX4_set 9 = .ok (.ireturn, 1) := by decide +kernel
theorem dX4_set_10 : decode cX4_set 10 = .ok (.aload_n 0, 1) := by decide +kernel
theorem dX4_set_11 : decode cX4_set 11 = .ok (.invokevirtual 69, 3) := by decide +kernel
theorem dX4_set_14 : decode cX4_set 14 = .ok (.aload_n 0, 1) := by decide +kernel
theorem dX4_set_15 : decode cX4_set 15 = .ok (.getfield 20, 3) := by decide +kernel
theorem dX4_set_18 : decode cX4_set 18 = .ok (.getfield 155, 3) := by decide +kernel
theorem dX4_set_21 : decode cX4_set 21 = .ok (.iload_n 1, 1) := by decide +kernel
theorem dX4_set_22 : decode cX4_set 22 = .ok (.iaload, 1) := by decide +kernel
theorem dX4_set_23 : decode cX4_set 23 = .ok (.istore_n 3, 1) := by decide +kernel
theorem dX4_set_24 : decode cX4_set 24 = .ok (.aload_n 0, 1) := by decide +kernel
theorem dX4_set_25 : decode cX4_set 25 = .ok (.getfield 20, 3) := by decide +kernel
theorem dX4_set_28 : decode cX4_set 28 = .ok (.getfield 155, 3) := by decide +kernel
theorem dX4_set_31 : decode cX4_set 31 = .ok (.iload_n 1, 1) := by decide +kernel
theorem dX4_set_32 : decode cX4_set 32 = .ok (.iload_n 2, 1) := by decide +kernel
theorem dX4_set_33 : decode cX4_set 33 = .ok (.iastore, 1) := by decide +kernel
theorem dX4_set_34 : decode cX4_set 34 = .ok (.iload_n 3, 1) := by decide +kernel
theorem dX4_set_35 : decode cX4_set 35 = .ok (.ireturn, 1) := by decide +kernel
def t_X4_set_10 : am_T := tb_aload 0 <|
  tb_callV 4 sp_X4_beginChange 1 <|
  tb_aload 0 <|
  tb_getR 4 1 <|
  tb_getR 1 13 <|
  tb_iload 1 <|
  tb_iald <|
  tb_istore 3 <|
  tb_aload 0 <|
  tb_getR 4 1 <|
  tb_getR 1 13 <|
  tb_iload 1 <|
  tb_iload 2 <|
  tb_iast <|
  tb_iload 3 <|
  tb_iret
def t_X4_set_0 : am_T := tb_iload 1 <|
  tb_iload 2 <|
  tb_callS sp_X4_isSettingValue 2 <|
  tb_if (fun x => x ≠ 0) (t_X4_set_10) <|
  tb_const (-1) <|
  tb_iret
def h_X4_set : am_Hd := fun h => if h = 0 then t_X4_set_0 else tb_bad
theorem h_X4_set_0 : h_X4_set 0 = t_X4_set_0 := rfl
def rm_X4_set : Room := { frames := 4, cells := 0, slots := 0, locals := 89 }
def sp_X4_set : am_sp := fun as M Q => as.length ≤ 4 ∧ am_OK h_X4_set Q 0 (am_in 4 as) M
theorem s_X4_set_10 {G : am_G} {bc bs : Nat} (X : am_Cx G cX4_set RX4 "set" rm_X4_set (some .int) 4 bc bs true) : am_S G 10 (t_X4_set_10) := by
  unfold t_X4_set_10
  refine as_aload_n (pc := 10) X dX4_set_10 rfl ?_
  refine as_callV (ci := 4) (np := 0) (ix := 69) (pc := 11) X ct_X4_beginChange (Cn := (RX4, TX4, 7)) rfl ⟨rfl, rfl⟩ aw_423 aw_425 aw_14 aw_426 aw_17 (by decide +kernel) (by decide) dX4_set_11 ?_
  refine as_aload_n (pc := 14) X dX4_set_14 rfl ?_
  refine as_getR (ci := 4) (j := 1) (pc := 15) X (Cn := RX4) (Tf := TX4) (N := 7) rfl rfl (by decide) iw_X4 aw_225 rfl dX4_set_15 ?_
  refine as_getR (ci := 1) (j := 13) (pc := 18) X (Cn := RX1) (Tf := TX1) (N := 14) rfl rfl (by decide) iw_X1 aw_83 rfl dX4_set_18 ?_
  refine as_iload_n (pc := 21) X dX4_set_21 rfl ?_
  refine as_iald (pc := 22) X dX4_set_22 ?_
  refine as_istore_n (pc := 23) X dX4_set_23 rfl ?_ (by decide)
  refine as_aload_n (pc := 24) X dX4_set_24 rfl ?_
  refine as_getR (ci := 4) (j := 1) (pc := 25) X (Cn := RX4) (Tf := TX4) (N := 7) rfl rfl (by decide) iw_X4 aw_225 rfl dX4_set_25 ?_
  refine as_getR (ci := 1) (j := 13) (pc := 28) X (Cn := RX1) (Tf := TX1) (N := 14) rfl rfl (by decide) iw_X1 aw_83 rfl dX4_set_28 ?_
  refine as_iload_n (pc := 31) X dX4_set_31 rfl ?_
  refine as_iload_n (pc := 32) X dX4_set_32 rfl ?_
  refine as_iast (pc := 33) X dX4_set_33 ?_
  refine as_iload_n (pc := 34) X dX4_set_34 rfl ?_
  exact as_iret (pc := 35) X ⟨rfl, rfl⟩ rfl dX4_set_35
theorem s_X4_set_0 {G : am_G} {bc bs : Nat} (X : am_Cx G cX4_set RX4 "set" rm_X4_set (some .int) 4 bc bs true) : am_S G 0 (t_X4_set_0) := by
  unfold t_X4_set_0
  refine as_iload_n (pc := 0) X dX4_set_0 rfl ?_
  refine as_iload_n (pc := 1) X dX4_set_1 rfl ?_
  refine as_callS (np := 2) (ix := 152) (pc := 2) X ct_X4_isSettingValue ⟨rfl, rfl⟩ aw_525 aw_526 aw_527 aw_17 (by decide +kernel) (by decide) dX4_set_2 ?_
  refine as_if_ne (pc := 5) X 10 dX4_set_5 (by decide) (s_X4_set_10 X) ?_
  refine as_iconst (pc := 8) X dX4_set_8 (by decide) ?_
  exact as_iret (pc := 9) X ⟨rfl, rfl⟩ rfl dX4_set_9
theorem s_X4_set {G : am_G} {bc bs : Nat} (X : am_Cx G cX4_set RX4 "set" rm_X4_set (some .int) 4 bc bs true) (h : Nat) : am_S G h (h_X4_set h) := by
  unfold h_X4_set
  split
  · next e => rw [e]; exact s_X4_set_0 X
  exact as_bad
theorem ct_X4_set : am_Ct yX4_set cX4_set 4 (some .int) rm_X4_set sp_X4_set := am_met (own := RX4) (nm := "set") (by decide) rfl rfl (Or.inr (Or.inl rfl)) (fun _ _ => h_X4_set) (fun _ _ _ X => s_X4_set X) (fun _ _ _ _ h => h)
-- L_acts
theorem dL_acts_0 : decode cL_acts 0 = .ok (.iload 5, 2) := by decide +kernel
theorem dL_acts_2 : decode cL_acts 2 = .ok (.iconst 5, 1) := by decide +kernel
theorem dL_acts_3 : decode cL_acts 3 = .ok (.ishr, 1) := by decide +kernel
theorem dL_acts_4 : decode cL_acts 4 = .ok (.ldc 48, 2) := by decide +kernel
theorem dL_acts_6 : decode cL_acts 6 = .ok (.invokestatic 49, 3) := by decide +kernel
theorem dL_acts_9 : decode cL_acts 9 = .ok (.istore 6, 2) := by decide +kernel
theorem dL_acts_11 : decode cL_acts 11 = .ok (.iload 5, 2) := by decide +kernel
theorem dL_acts_13 : decode cL_acts 13 = .ok (.bipush 26, 2) := by decide +kernel
theorem dL_acts_15 : decode cL_acts 15 = .ok (.invokestatic 49, 3) := by decide +kernel
theorem dL_acts_18 : decode cL_acts 18 = .ok (.istore 7, 2) := by decide +kernel
theorem dL_acts_20 : decode cL_acts 20 = .ok (.iload 7, 2) := by decide +kernel
theorem dL_acts_22 : decode cL_acts 22 = .ok (.iconst 4, 1) := by decide +kernel
theorem dL_acts_23 : decode cL_acts 23 = .ok (.if_icmp .ge 221, 3) := by decide +kernel
theorem dL_acts_26 : decode cL_acts 26 = .ok (.iload 6, 2) := by decide +kernel
theorem dL_acts_28 : decode cL_acts 28 = .ok (.iconst 5, 1) := by decide +kernel
theorem dL_acts_29 : decode cL_acts 29 = .ok (.irem, 1) := by decide +kernel
theorem dL_acts_30 : decode cL_acts 30 = .ok (.istore 8, 2) := by decide +kernel
theorem dL_acts_32 : decode cL_acts 32 = .ok (.iload 6, 2) := by decide +kernel
theorem dL_acts_34 : decode cL_acts 34 = .ok (.iconst 5, 1) := by decide +kernel
theorem dL_acts_35 : decode cL_acts 35 = .ok (.idiv, 1) := by decide +kernel
theorem dL_acts_36 : decode cL_acts 36 = .ok (.bipush 6, 2) := by decide +kernel
theorem dL_acts_38 : decode cL_acts 38 = .ok (.irem, 1) := by decide +kernel
theorem dL_acts_39 : decode cL_acts 39 = .ok (.istore 9, 2) := by decide +kernel
theorem dL_acts_41 : decode cL_acts 41 = .ok (.aload_n 1, 1) := by decide +kernel
theorem dL_acts_42 : decode cL_acts 42 = .ok (.bipush 8, 2) := by decide +kernel
theorem dL_acts_44 : decode cL_acts 44 = .ok (.iaload, 1) := by decide +kernel
theorem dL_acts_45 : decode cL_acts 45 = .ok (.ifCond .ne 7, 3) := by decide +kernel
theorem dL_acts_48 : decode cL_acts 48 = .ok (.iconst 0, 1) := by decide +kernel
theorem dL_acts_49 : decode cL_acts 49 = .ok (.goto 13, 3) := by decide +kernel
theorem dL_acts_52 : decode cL_acts 52 = .ok (.aload_n 2, 1) := by decide +kernel
theorem dL_acts_53 : decode cL_acts 53 = .ok (.iconst 3, 1) := by decide +kernel
theorem dL_acts_54 : decode cL_acts 54 = .ok (.aload_n 1, 1) := by decide +kernel
theorem dL_acts_55 : decode cL_acts 55 = .ok (.bipush 8, 2) := by decide +kernel
theorem dL_acts_57 : decode cL_acts 57 = .ok (.iaload, 1) := by decide +kernel
theorem dL_acts_58 : decode cL_acts 58 = .ok (.imul, 1) := by decide +kernel
theorem dL_acts_59 : decode cL_acts 59 = .ok (.iconst 1, 1) := by decide +kernel
theorem dL_acts_60 : decode cL_acts 60 = .ok (.isub, 1) := by decide +kernel
theorem dL_acts_61 : decode cL_acts 61 = .ok (.iaload, 1) := by decide +kernel
theorem dL_acts_62 : decode cL_acts 62 = .ok (.istore 10, 2) := by decide +kernel
theorem dL_acts_64 : decode cL_acts 64 = .ok (.iload 10, 2) := by decide +kernel
theorem dL_acts_66 : decode cL_acts 66 = .ok (.iload 6, 2) := by decide +kernel
theorem dL_acts_68 : decode cL_acts 68 = .ok (.bipush 30, 2) := by decide +kernel
theorem dL_acts_70 : decode cL_acts 70 = .ok (.idiv, 1) := by decide +kernel
theorem dL_acts_71 : decode cL_acts 71 = .ok (.bipush 60, 2) := by decide +kernel
theorem dL_acts_73 : decode cL_acts 73 = .ok (.irem, 1) := by decide +kernel
theorem dL_acts_74 : decode cL_acts 74 = .ok (.iadd, 1) := by decide +kernel
theorem dL_acts_75 : decode cL_acts 75 = .ok (.istore 11, 2) := by decide +kernel
theorem dL_acts_77 : decode cL_acts 77 = .ok (.aload_n 1, 1) := by decide +kernel
theorem dL_acts_78 : decode cL_acts 78 = .ok (.aload_n 2, 1) := by decide +kernel
theorem dL_acts_79 : decode cL_acts 79 = .ok (.iload 9, 2) := by decide +kernel
theorem dL_acts_81 : decode cL_acts 81 = .ok (.iload 11, 2) := by decide +kernel
theorem dL_acts_83 : decode cL_acts 83 = .ok (.invokestatic 53, 3) := by decide +kernel
theorem dL_acts_86 : decode cL_acts 86 = .ok (.istore 12, 2) := by decide +kernel
theorem dL_acts_88 : decode cL_acts 88 = .ok (.iload 12, 2) := by decide +kernel
theorem dL_acts_90 : decode cL_acts 90 = .ok (.ifCond .lt 31, 3) := by decide +kernel
theorem dL_acts_93 : decode cL_acts 93 = .ok (.iload 12, 2) := by decide +kernel
theorem dL_acts_95 : decode cL_acts 95 = .ok (.iload 8, 2) := by decide +kernel
theorem dL_acts_97 : decode cL_acts 97 = .ok (.if_icmp .eq 24, 3) := by decide +kernel
theorem dL_acts_100 : decode cL_acts 100 = .ok (.aload_n 0, 1) := by decide +kernel
theorem dL_acts_101 : decode cL_acts 101 = .ok (.iload 8, 2) := by decide +kernel
theorem dL_acts_103 : decode cL_acts 103 = .ok (.iload 9, 2) := by decide +kernel
theorem dL_acts_105 : decode cL_acts 105 = .ok (.iload 11, 2) := by decide +kernel
theorem dL_acts_107 : decode cL_acts 107 = .ok (.invokevirtual 56, 3) := by decide +kernel
theorem dL_acts_110 : decode cL_acts 110 = .ok (.bipush (-2), 2) := by decide +kernel
theorem dL_acts_112 : decode cL_acts 112 = .ok (.if_icmp .ne 7, 3) := by decide +kernel
theorem dL_acts_115 : decode cL_acts 115 = .ok (.iconst 1, 1) := by decide +kernel
theorem dL_acts_116 : decode cL_acts 116 = .ok (.goto 4, 3) := by decide +kernel
theorem dL_acts_119 : decode cL_acts 119 = .ok (.iconst 0, 1) := by decide +kernel
theorem dL_acts_120 : decode cL_acts 120 = .ok (.ireturn, 1) := by decide +kernel
theorem dL_acts_121 : decode cL_acts 121 = .ok (.aload_n 1, 1) := by decide +kernel
theorem dL_acts_122 : decode cL_acts 122 = .ok (.bipush 8, 2) := by decide +kernel
theorem dL_acts_124 : decode cL_acts 124 = .ok (.iaload, 1) := by decide +kernel
theorem dL_acts_125 : decode cL_acts 125 = .ok (.bipush 8, 2) := by decide +kernel
theorem dL_acts_127 : decode cL_acts 127 = .ok (.if_icmp .eq 10, 3) := by decide +kernel
theorem dL_acts_130 : decode cL_acts 130 = .ok (.iload 11, 2) := by decide +kernel
theorem dL_acts_132 : decode cL_acts 132 = .ok (.ldc 47, 2) := by decide +kernel
theorem dL_acts_134 : decode cL_acts 134 = .ok (.if_icmp .le 45, 3) := by decide +kernel
theorem dL_acts_137 : decode cL_acts 137 = .ok (.aload_n 0, 1) := by decide +kernel
theorem dL_acts_138 : decode cL_acts 138 = .ok (.iload 8, 2) := by decide +kernel
theorem dL_acts_140 : decode cL_acts 140 = .ok (.bipush 16, 2) := by decide +kernel
theorem dL_acts_142 : decode cL_acts 142 = .ok (.iload 11, 2) := by decide +kernel
theorem dL_acts_144 : decode cL_acts 144 = .ok (.invokevirtual 56, 3) := by decide +kernel
theorem dL_acts_147 : decode cL_acts 147 = .ok (.iconst (-1), 1) := by decide +kernel
theorem dL_acts_148 : decode cL_acts 148 = .ok (.if_icmp .ne 29, 3) := by decide +kernel
theorem dL_acts_151 : decode cL_acts 151 = .ok (.iload 10, 2) := by decide +kernel
theorem dL_acts_153 : decode cL_acts 153 = .ok (.ifCond .eq 20, 3) := by decide +kernel
theorem dL_acts_156 : decode cL_acts 156 = .ok (.aload_n 0, 1) := by decide +kernel
theorem dL_acts_157 : decode cL_acts 157 = .ok (.iload 8, 2) := by decide +kernel
theorem dL_acts_159 : decode cL_acts 159 = .ok (.iload 9, 2) := by decide +kernel
theorem dL_acts_161 : decode cL_acts 161 = .ok (.iload 10, 2) := by decide +kernel
theorem dL_acts_163 : decode cL_acts 163 = .ok (.iconst 1, 1) := by decide +kernel
theorem dL_acts_164 : decode cL_acts 164 = .ok (.isub, 1) := by decide +kernel
theorem dL_acts_165 : decode cL_acts 165 = .ok (.invokevirtual 56, 3) := by decide +kernel
theorem dL_acts_168 : decode cL_acts 168 = .ok (.bipush (-2), 2) := by decide +kernel
theorem dL_acts_170 : decode cL_acts 170 = .ok (.if_icmp .ne 7, 3) := by decide +kernel
theorem dL_acts_173 : decode cL_acts 173 = .ok (.iconst 1, 1) := by decide +kernel
theorem dL_acts_174 : decode cL_acts 174 = .ok (.goto 4, 3) := by decide +kernel
theorem dL_acts_177 : decode cL_acts 177 = .ok (.iconst 0, 1) := by decide +kernel
theorem dL_acts_178 : decode cL_acts 178 = .ok (.ireturn, 1) := by decide +kernel
theorem dL_acts_179 : decode cL_acts 179 = .ok (.aload_n 2, 1) := by decide +kernel
theorem dL_acts_180 : decode cL_acts 180 = .ok (.iconst 3, 1) := by decide +kernel
theorem dL_acts_181 : decode cL_acts 181 = .ok (.aload_n 1, 1) := by decide +kernel
theorem dL_acts_182 : decode cL_acts 182 = .ok (.bipush 8, 2) := by decide +kernel
theorem dL_acts_184 : decode cL_acts 184 = .ok (.iaload, 1) := by decide +kernel
theorem dL_acts_185 : decode cL_acts 185 = .ok (.imul, 1) := by decide +kernel
theorem dL_acts_186 : decode cL_acts 186 = .ok (.iload 8, 2) := by decide +kernel
theorem dL_acts_188 : decode cL_acts 188 = .ok (.iastore, 1) := by decide +kernel
theorem dL_acts_189 : decode cL_acts 189 = .ok (.aload_n 2, 1) := by decide +kernel
theorem dL_acts_190 : decode cL_acts 190 = .ok (.iconst 3, 1) := by decide +kernel
theorem dL_acts_191 : decode cL_acts 191 = .ok (.aload_n 1, 1) := by decide +kernel
theorem dL_acts_192 : decode cL_acts 192 = .ok (.bipush 8, 2) := by decide +kernel
theorem dL_acts_194 : decode cL_acts 194 = .ok (.iaload, 1) := by decide +kernel
theorem dL_acts_195 : decode cL_acts 195 = .ok (.imul, 1) := by decide +kernel
theorem dL_acts_196 : decode cL_acts 196 = .ok (.iconst 1, 1) := by decide +kernel
theorem dL_acts_197 : decode cL_acts 197 = .ok (.iadd, 1) := by decide +kernel
theorem dL_acts_198 : decode cL_acts 198 = .ok (.iload 9, 2) := by decide +kernel
theorem dL_acts_200 : decode cL_acts 200 = .ok (.iastore, 1) := by decide +kernel
theorem dL_acts_201 : decode cL_acts 201 = .ok (.aload_n 2, 1) := by decide +kernel
theorem dL_acts_202 : decode cL_acts 202 = .ok (.iconst 3, 1) := by decide +kernel
theorem dL_acts_203 : decode cL_acts 203 = .ok (.aload_n 1, 1) := by decide +kernel
theorem dL_acts_204 : decode cL_acts 204 = .ok (.bipush 8, 2) := by decide +kernel
theorem dL_acts_206 : decode cL_acts 206 = .ok (.iaload, 1) := by decide +kernel
theorem dL_acts_207 : decode cL_acts 207 = .ok (.imul, 1) := by decide +kernel
theorem dL_acts_208 : decode cL_acts 208 = .ok (.iconst 2, 1) := by decide +kernel
theorem dL_acts_209 : decode cL_acts 209 = .ok (.iadd, 1) := by decide +kernel
theorem dL_acts_210 : decode cL_acts 210 = .ok (.iload 11, 2) := by decide +kernel
theorem dL_acts_212 : decode cL_acts 212 = .ok (.iastore, 1) := by decide +kernel
theorem dL_acts_213 : decode cL_acts 213 = .ok (.aload_n 1, 1) := by decide +kernel
theorem dL_acts_214 : decode cL_acts 214 = .ok (.bipush 8, 2) := by decide +kernel
theorem dL_acts_216 : decode cL_acts 216 = .ok (.dup2, 1) := by decide +kernel
theorem dL_acts_217 : decode cL_acts 217 = .ok (.iaload, 1) := by decide +kernel
theorem dL_acts_218 : decode cL_acts 218 = .ok (.iconst 1, 1) := by decide +kernel
theorem dL_acts_219 : decode cL_acts 219 = .ok (.iadd, 1) := by decide +kernel
theorem dL_acts_220 : decode cL_acts 220 = .ok (.iastore, 1) := by decide +kernel
theorem dL_acts_221 : decode cL_acts 221 = .ok (.aload_n 0, 1) := by decide +kernel
theorem dL_acts_222 : decode cL_acts 222 = .ok (.iload 8, 2) := by decide +kernel
theorem dL_acts_224 : decode cL_acts 224 = .ok (.iload 9, 2) := by decide +kernel
theorem dL_acts_226 : decode cL_acts 226 = .ok (.iload 11, 2) := by decide +kernel
theorem dL_acts_228 : decode cL_acts 228 = .ok (.invokevirtual 56, 3) := by decide +kernel
theorem dL_acts_231 : decode cL_acts 231 = .ok (.aload_n 1, 1) := by decide +kernel
theorem dL_acts_232 : decode cL_acts 232 = .ok (.bipush 8, 2) := by decide +kernel
theorem dL_acts_234 : decode cL_acts 234 = .ok (.iaload, 1) := by decide +kernel
theorem dL_acts_235 : decode cL_acts 235 = .ok (.if_icmp .ne 7, 3) := by decide +kernel
theorem dL_acts_238 : decode cL_acts 238 = .ok (.iconst 1, 1) := by decide +kernel
theorem dL_acts_239 : decode cL_acts 239 = .ok (.goto 4, 3) := by decide +kernel
theorem dL_acts_242 : decode cL_acts 242 = .ok (.iconst 0, 1) := by decide +kernel
theorem dL_acts_243 : decode cL_acts 243 = .ok (.ireturn, 1) := by decide +kernel
theorem dL_acts_244 : decode cL_acts 244 = .ok (.iload 7, 2) := by decide +kernel
theorem dL_acts_246 : decode cL_acts 246 = .ok (.bipush 13, 2) := by decide +kernel
theorem dL_acts_248 : decode cL_acts 248 = .ok (.if_icmp .lt 10, 3) := by decide +kernel
theorem dL_acts_251 : decode cL_acts 251 = .ok (.aload_n 1, 1) := by decide +kernel
theorem dL_acts_252 : decode cL_acts 252 = .ok (.bipush 9, 2) := by decide +kernel
theorem dL_acts_254 : decode cL_acts 254 = .ok (.iaload, 1) := by decide +kernel
theorem dL_acts_255 : decode cL_acts 255 = .ok (.ifCond .ne 171, 3) := by decide +kernel
theorem dL_acts_258 : decode cL_acts 258 = .ok (.aload_n 1, 1) := by decide +kernel
theorem dL_acts_259 : decode cL_acts 259 = .ok (.bipush 9, 2) := by decide +kernel
theorem dL_acts_261 : decode cL_acts 261 = .ok (.iaload, 1) := by decide +kernel
theorem dL_acts_262 : decode cL_acts 262 = .ok (.bipush 12, 2) := by decide +kernel
theorem dL_acts_264 : decode cL_acts 264 = .ok (.if_icmp .ne 35, 3) := by decide +kernel
theorem dL_acts_267 : decode cL_acts 267 = .ok (.aload_n 0, 1) := by decide +kernel
theorem dL_acts_268 : decode cL_acts 268 = .ok (.iconst 0, 1) := by decide +kernel
theorem dL_acts_269 : decode cL_acts 269 = .ok (.bipush 12, 2) := by decide +kernel
theorem dL_acts_271 : decode cL_acts 271 = .ok (.iconst 0, 1) := by decide +kernel
theorem dL_acts_272 : decode cL_acts 272 = .ok (.iconst 0, 1) := by decide +kernel
theorem dL_acts_273 : decode cL_acts 273 = .ok (.invokevirtual 62, 3) := by decide +kernel
theorem dL_acts_276 : decode cL_acts 276 = .ok (.iconst (-1), 1) := by decide +kernel
theorem dL_acts_277 : decode cL_acts 277 = .ok (.if_icmp .ne 20, 3) := by decide +kernel
theorem dL_acts_280 : decode cL_acts 280 = .ok (.aload_n 0, 1) := by decide +kernel
theorem dL_acts_281 : decode cL_acts 281 = .ok (.iconst 0, 1) := by decide +kernel
theorem dL_acts_282 : decode cL_acts 282 = .ok (.iconst 0, 1) := by decide +kernel
theorem dL_acts_283 : decode cL_acts 283 = .ok (.ldc 66, 2) := by decide +kernel
theorem dL_acts_285 : decode cL_acts 285 = .ok (.iconst 0, 1) := by decide +kernel
theorem dL_acts_286 : decode cL_acts 286 = .ok (.invokevirtual 62, 3) := by decide +kernel
theorem dL_acts_289 : decode cL_acts 289 = .ok (.iconst (-1), 1) := by decide +kernel
theorem dL_acts_290 : decode cL_acts 290 = .ok (.if_icmp .ne 7, 3) := by decide +kernel
theorem dL_acts_293 : decode cL_acts 293 = .ok (.iconst 1, 1) := by decide +kernel
theorem dL_acts_294 : decode cL_acts 294 = .ok (.goto 4, 3) := by decide +kernel
theorem dL_acts_297 : decode cL_acts 297 = .ok (.iconst 0, 1) := by decide +kernel
theorem dL_acts_298 : decode cL_acts 298 = .ok (.ireturn, 1) := by decide +kernel
theorem dL_acts_299 : decode cL_acts 299 = .ok (.iconst 4, 1) := by decide +kernel
theorem dL_acts_300 : decode cL_acts 300 = .ok (.aload_n 1, 1) := by decide +kernel
theorem dL_acts_301 : decode cL_acts 301 = .ok (.bipush 9, 2) := by decide +kernel
theorem dL_acts_303 : decode cL_acts 303 = .ok (.iaload, 1) := by decide +kernel
theorem dL_acts_304 : decode cL_acts 304 = .ok (.imul, 1) := by decide +kernel
theorem dL_acts_305 : decode cL_acts 305 = .ok (.istore 8, 2) := by decide +kernel
theorem dL_acts_307 : decode cL_acts 307 = .ok (.aload_n 3, 1) := by decide +kernel
theorem dL_acts_308 : decode cL_acts 308 = .ok (.iload 8, 2) := by decide +kernel
theorem dL_acts_310 : decode cL_acts 310 = .ok (.iload 6, 2) := by decide +kernel
theorem dL_acts_312 : decode cL_acts 312 = .ok (.iconst 5, 1) := by decide +kernel
theorem dL_acts_313 : decode cL_acts 313 = .ok (.irem, 1) := by decide +kernel
theorem dL_acts_314 : decode cL_acts 314 = .ok (.ifCond .ne 13, 3) := by decide +kernel
theorem dL_acts_317 : decode cL_acts 317 = .ok (.iload 6, 2) := by decide +kernel
theorem dL_acts_319 : decode cL_acts 319 = .ok (.iconst 5, 1) := by decide +kernel
theorem dL_acts_320 : decode cL_acts 320 = .ok (.idiv, 1) := by decide +kernel
theorem dL_acts_321 : decode cL_acts 321 = .ok (.ldc 67, 2) := by decide +kernel
theorem dL_acts_323 : decode cL_acts 323 = .ok (.irem, 1) := by decide +kernel
theorem dL_acts_324 : decode cL_acts 324 = .ok (.goto 11, 3) := by decide +kernel
theorem dL_acts_327 : decode cL_acts 327 = .ok (.iload 6, 2) := by decide +kernel
theorem dL_acts_329 : decode cL_acts 329 = .ok (.iconst 5, 1) := by decide +kernel
theorem dL_acts_330 : decode cL_acts 330 = .ok (.idiv, 1) := by decide +kernel
theorem dL_acts_331 : decode cL_acts 331 = .ok (.sipush 400, 3) := by decide +kernel
theorem dL_acts_334 : decode cL_acts 334 = .ok (.irem, 1) := by decide +kernel
theorem dL_acts_335 : decode cL_acts 335 = .ok (.iastore, 1) := by decide +kernel
theorem dL_acts_336 : decode cL_acts 336 = .ok (.aload_n 3, 1) := by decide +kernel
theorem dL_acts_337 : decode cL_acts 337 = .ok (.iload 8, 2) := by decide +kernel
theorem dL_acts_339 : decode cL_acts 339 = .ok (.iconst 1, 1) := by decide +kernel
theorem dL_acts_340 : decode cL_acts 340 = .ok (.iadd, 1) := by decide +kernel
theorem dL_acts_341 : decode cL_acts 341 = .ok (.iload 6, 2) := by decide +kernel
theorem dL_acts_343 : decode cL_acts 343 = .ok (.bipush 7, 2) := by decide +kernel
theorem dL_acts_345 : decode cL_acts 345 = .ok (.idiv, 1) := by decide +kernel
theorem dL_acts_346 : decode cL_acts 346 = .ok (.iconst 5, 1) := by decide +kernel
theorem dL_acts_347 : decode cL_acts 347 = .ok (.irem, 1) := by decide +kernel
theorem dL_acts_348 : decode cL_acts 348 = .ok (.iastore, 1) := by decide +kernel
theorem dL_acts_349 : decode cL_acts 349 = .ok (.aload_n 3, 1) := by decide +kernel
theorem dL_acts_350 : decode cL_acts 350 = .ok (.iload 8, 2) := by decide +kernel
theorem dL_acts_352 : decode cL_acts 352 = .ok (.iconst 2, 1) := by decide +kernel
theorem dL_acts_353 : decode cL_acts 353 = .ok (.iadd, 1) := by decide +kernel
theorem dL_acts_354 : decode cL_acts 354 = .ok (.iload 6, 2) := by decide +kernel
theorem dL_acts_356 : decode cL_acts 356 = .ok (.bipush 11, 2) := by decide +kernel
theorem dL_acts_358 : decode cL_acts 358 = .ok (.idiv, 1) := by decide +kernel
theorem dL_acts_359 : decode cL_acts 359 = .ok (.bipush 64, 2) := by decide +kernel
theorem dL_acts_361 : decode cL_acts 361 = .ok (.irem, 1) := by decide +kernel
theorem dL_acts_362 : decode cL_acts 362 = .ok (.iastore, 1) := by decide +kernel
theorem dL_acts_363 : decode cL_acts 363 = .ok (.aload_n 3, 1) := by decide +kernel
theorem dL_acts_364 : decode cL_acts 364 = .ok (.iload 8, 2) := by decide +kernel
theorem dL_acts_366 : decode cL_acts 366 = .ok (.iconst 3, 1) := by decide +kernel
theorem dL_acts_367 : decode cL_acts 367 = .ok (.iadd, 1) := by decide +kernel
theorem dL_acts_368 : decode cL_acts 368 = .ok (.iload 6, 2) := by decide +kernel
theorem dL_acts_370 : decode cL_acts 370 = .ok (.bipush 13, 2) := by decide +kernel
theorem dL_acts_372 : decode cL_acts 372 = .ok (.idiv, 1) := by decide +kernel
theorem dL_acts_373 : decode cL_acts 373 = .ok (.bipush 32, 2) := by decide +kernel
theorem dL_acts_375 : decode cL_acts 375 = .ok (.irem, 1) := by decide +kernel
theorem dL_acts_376 : decode cL_acts 376 = .ok (.iastore, 1) := by decide +kernel
theorem dL_acts_377 : decode cL_acts 377 = .ok (.aload_n 1, 1) := by decide +kernel
theorem dL_acts_378 : decode cL_acts 378 = .ok (.bipush 9, 2) := by decide +kernel
theorem dL_acts_380 : decode cL_acts 380 = .ok (.dup2, 1) := by decide +kernel
theorem dL_acts_381 : decode cL_acts 381 = .ok (.iaload, 1) := by decide +kernel
theorem dL_acts_382 : decode cL_acts 382 = .ok (.iconst 1, 1) := by decide +kernel
theorem dL_acts_383 : decode cL_acts 383 = .ok (.iadd, 1) := by decide +kernel
theorem dL_acts_384 : decode cL_acts 384 = .ok (.iastore, 1) := by decide +kernel
theorem dL_acts_385 : decode cL_acts 385 = .ok (.aload_n 0, 1) := by decide +kernel
theorem dL_acts_386 : decode cL_acts 386 = .ok (.aload_n 3, 1) := by decide +kernel
theorem dL_acts_387 : decode cL_acts 387 = .ok (.iload 8, 2) := by decide +kernel
theorem dL_acts_389 : decode cL_acts 389 = .ok (.iaload, 1) := by decide +kernel
theorem dL_acts_390 : decode cL_acts 390 = .ok (.aload_n 3, 1) := by decide +kernel
theorem dL_acts_391 : decode cL_acts 391 = .ok (.iload 8, 2) := by decide +kernel
theorem dL_acts_393 : decode cL_acts 393 = .ok (.iconst 1, 1) := by decide +kernel
theorem dL_acts_394 : decode cL_acts 394 = .ok (.iadd, 1) := by decide +kernel
theorem dL_acts_395 : decode cL_acts 395 = .ok (.iaload, 1) := by decide +kernel
theorem dL_acts_396 : decode cL_acts 396 = .ok (.aload_n 3, 1) := by decide +kernel
theorem dL_acts_397 : decode cL_acts 397 = .ok (.iload 8, 2) := by decide +kernel
theorem dL_acts_399 : decode cL_acts 399 = .ok (.iconst 2, 1) := by decide +kernel
theorem dL_acts_400 : decode cL_acts 400 = .ok (.iadd, 1) := by decide +kernel
theorem dL_acts_401 : decode cL_acts 401 = .ok (.iaload, 1) := by decide +kernel
theorem dL_acts_402 : decode cL_acts 402 = .ok (.aload_n 3, 1) := by decide +kernel
theorem dL_acts_403 : decode cL_acts 403 = .ok (.iload 8, 2) := by decide +kernel
theorem dL_acts_405 : decode cL_acts 405 = .ok (.iconst 3, 1) := by decide +kernel
theorem dL_acts_406 : decode cL_acts 406 = .ok (.iadd, 1) := by decide +kernel
theorem dL_acts_407 : decode cL_acts 407 = .ok (.iaload, 1) := by decide +kernel
theorem dL_acts_408 : decode cL_acts 408 = .ok (.invokevirtual 62, 3) := by decide +kernel
theorem dL_acts_411 : decode cL_acts 411 = .ok (.aload_n 1, 1) := by decide +kernel
theorem dL_acts_412 : decode cL_acts 412 = .ok (.bipush 9, 2) := by decide +kernel
theorem dL_acts_414 : decode cL_acts 414 = .ok (.iaload, 1) := by decide +kernel
theorem dL_acts_415 : decode cL_acts 415 = .ok (.iconst 1, 1) := by decide +kernel
theorem dL_acts_416 : decode cL_acts 416 = .ok (.isub, 1) := by decide +kernel
theorem dL_acts_417 : decode cL_acts 417 = .ok (.if_icmp .ne 7, 3) := by decide +kernel
theorem dL_acts_420 : decode cL_acts 420 = .ok (.iconst 1, 1) := by decide +kernel
theorem dL_acts_421 : decode cL_acts 421 = .ok (.goto 4, 3) := by decide +kernel
theorem dL_acts_424 : decode cL_acts 424 = .ok (.iconst 0, 1) := by decide +kernel
theorem dL_acts_425 : decode cL_acts 425 = .ok (.ireturn, 1) := by decide +kernel
theorem dL_acts_426 : decode cL_acts 426 = .ok (.iload 6, 2) := by decide +kernel
theorem dL_acts_428 : decode cL_acts 428 = .ok (.aload_n 1, 1) := by decide +kernel
theorem dL_acts_429 : decode cL_acts 429 = .ok (.bipush 9, 2) := by decide +kernel
theorem dL_acts_431 : decode cL_acts 431 = .ok (.iaload, 1) := by decide +kernel
theorem dL_acts_432 : decode cL_acts 432 = .ok (.irem, 1) := by decide +kernel
theorem dL_acts_433 : decode cL_acts 433 = .ok (.istore 8, 2) := by decide +kernel
theorem dL_acts_435 : decode cL_acts 435 = .ok (.iload 7, 2) := by decide +kernel
theorem dL_acts_437 : decode cL_acts 437 = .ok (.bipush 13, 2) := by decide +kernel
theorem dL_acts_439 : decode cL_acts 439 = .ok (.if_icmp .ne 31, 3) := by decide +kernel
theorem dL_acts_442 : decode cL_acts 442 = .ok (.aload_n 1, 1) := by decide +kernel
theorem dL_acts_443 : decode cL_acts 443 = .ok (.aload_n 3, 1) := by decide +kernel
theorem dL_acts_444 : decode cL_acts 444 = .ok (.aload 4, 2) := by decide +kernel
theorem dL_acts_446 : decode cL_acts 446 = .ok (.iload 8, 2) := by decide +kernel
theorem dL_acts_448 : decode cL_acts 448 = .ok (.invokestatic 68, 3) := by decide +kernel
theorem dL_acts_451 : decode cL_acts 451 = .ok (.aload_n 0, 1) := by decide +kernel
theorem dL_acts_452 : decode cL_acts 452 = .ok (.iload 8, 2) := by decide +kernel
theorem dL_acts_454 : decode cL_acts 454 = .ok (.invokevirtual 72, 3) := by decide +kernel
theorem dL_acts_457 : decode cL_acts 457 = .ok (.aload_n 1, 1) := by decide +kernel
theorem dL_acts_458 : decode cL_acts 458 = .ok (.bipush 10, 2) := by decide +kernel
theorem dL_acts_460 : decode cL_acts 460 = .ok (.iaload, 1) := by decide +kernel
theorem dL_acts_461 : decode cL_acts 461 = .ok (.if_icmp .ne 7, 3) := by decide +kernel
theorem dL_acts_464 : decode cL_acts 464 = .ok (.iconst 1, 1) := by decide +kernel
theorem dL_acts_465 : decode cL_acts 465 = .ok (.goto 4, 3) := by decide +kernel
theorem dL_acts_468 : decode cL_acts 468 = .ok (.iconst 0, 1) := by decide +kernel
theorem dL_acts_469 : decode cL_acts 469 = .ok (.ireturn, 1) := by decide +kernel
theorem dL_acts_470 : decode cL_acts 470 = .ok (.iload 7, 2) := by decide +kernel
theorem dL_acts_472 : decode cL_acts 472 = .ok (.bipush 20, 2) := by decide +kernel
theorem dL_acts_474 : decode cL_acts 474 = .ok (.if_icmp .ge 219, 3) := by decide +kernel
theorem dL_acts_477 : decode cL_acts 477 = .ok (.iload 6, 2) := by decide +kernel
theorem dL_acts_479 : decode cL_acts 479 = .ok (.bipush 12, 2) := by decide +kernel
theorem dL_acts_481 : decode cL_acts 481 = .ok (.idiv, 1) := by decide +kernel
theorem dL_acts_482 : decode cL_acts 482 = .ok (.iconst 3, 1) := by decide +kernel
theorem dL_acts_483 : decode cL_acts 483 = .ok (.irem, 1) := by decide +kernel
theorem dL_acts_484 : decode cL_acts 484 = .ok (.istore 9, 2) := by decide +kernel
theorem dL_acts_486 : decode cL_acts 486 = .ok (.iload 6, 2) := by decide +kernel
theorem dL_acts_488 : decode cL_acts 488 = .ok (.bipush 36, 2) := by decide +kernel
theorem dL_acts_490 : decode cL_acts 490 = .ok (.idiv, 1) := by decide +kernel
theorem dL_acts_491 : decode cL_acts 491 = .ok (.aload_n 1, 1) := by decide +kernel
theorem dL_acts_492 : decode cL_acts 492 = .ok (.bipush 9, 2) := by decide +kernel
theorem dL_acts_494 : decode cL_acts 494 = .ok (.iaload, 1) := by decide +kernel
theorem dL_acts_495 : decode cL_acts 495 = .ok (.irem, 1) := by decide +kernel
theorem dL_acts_496 : decode cL_acts 496 = .ok (.istore 10, 2) := by decide +kernel
theorem dL_acts_498 : decode cL_acts 498 = .ok (.iload 9, 2) := by decide +kernel
theorem dL_acts_500 : decode cL_acts 500 = .ok (.ifCond .eq 14, 3) := by decide +kernel
theorem dL_acts_503 : decode cL_acts 503 = .ok (.aload_n 3, 1) := by decide +kernel
theorem dL_acts_504 : decode cL_acts 504 = .ok (.iload 10, 2) := by decide +kernel
theorem dL_acts_506 : decode cL_acts 506 = .ok (.iload 8, 2) := by decide +kernel
theorem dL_acts_508 : decode cL_acts 508 = .ok (.invokestatic 23, 3) := by decide +kernel
theorem dL_acts_511 : decode cL_acts 511 = .ok (.ifCond .eq 22, 3) := by decide +kernel
theorem dL_acts_514 : decode cL_acts 514 = .ok (.aload_n 1, 1) := by decide +kernel
theorem dL_acts_515 : decode cL_acts 515 = .ok (.aload 4, 2) := by decide +kernel
theorem dL_acts_517 : decode cL_acts 517 = .ok (.iload 9, 2) := by decide +kernel
theorem dL_acts_519 : decode cL_acts 519 = .ok (.iload 8, 2) := by decide +kernel
theorem dL_acts_521 : decode cL_acts 521 = .ok (.iload 10, 2) := by decide +kernel
theorem dL_acts_523 : decode cL_acts 523 = .ok (.invokestatic 19, 3) := by decide +kernel
theorem dL_acts_526 : decode cL_acts 526 = .ok (.ifCond .ge 7, 3) := by decide +kernel
theorem dL_acts_529 : decode cL_acts 529 = .ok (.iconst 1, 1) := by decide +kernel
theorem dL_acts_530 : decode cL_acts 530 = .ok (.goto 4, 3) := by decide +kernel
theorem dL_acts_533 : decode cL_acts 533 = .ok (.iconst 0, 1) := by decide +kernel
theorem dL_acts_534 : decode cL_acts 534 = .ok (.istore 11, 2) := by decide +kernel
theorem dL_acts_536 : decode cL_acts 536 = .ok (.iload 11, 2) := by decide +kernel
theorem dL_acts_538 : decode cL_acts 538 = .ok (.ifCond .ne 24, 3) := by decide +kernel
theorem dL_acts_541 : decode cL_acts 541 = .ok (.aload_n 0, 1) := by decide +kernel
theorem dL_acts_542 : decode cL_acts 542 = .ok (.iload 9, 2) := by decide +kernel
theorem dL_acts_544 : decode cL_acts 544 = .ok (.iload 8, 2) := by decide +kernel
theorem dL_acts_546 : decode cL_acts 546 = .ok (.iload 10, 2) := by decide +kernel
theorem dL_acts_548 : decode cL_acts 548 = .ok (.invokevirtual 76, 3) := by decide +kernel
theorem dL_acts_551 : decode cL_acts 551 = .ok (.bipush (-2), 2) := by decide +kernel
theorem dL_acts_553 : decode cL_acts 553 = .ok (.if_icmp .ne 7, 3) := by decide +kernel
theorem dL_acts_556 : decode cL_acts 556 = .ok (.iconst 1, 1) := by decide +kernel
theorem dL_acts_557 : decode cL_acts 557 = .ok (.goto 4, 3) := by decide +kernel
theorem dL_acts_560 : decode cL_acts 560 = .ok (.iconst 0, 1) := by decide +kernel
theorem dL_acts_561 : decode cL_acts 561 = .ok (.ireturn, 1) := by decide +kernel
theorem dL_acts_562 : decode cL_acts 562 = .ok (.aload_n 1, 1) := by decide +kernel
theorem dL_acts_563 : decode cL_acts 563 = .ok (.bipush 10, 2) := by decide +kernel
theorem dL_acts_565 : decode cL_acts 565 = .ok (.iaload, 1) := by decide +kernel
theorem dL_acts_566 : decode cL_acts 566 = .ok (.bipush 6, 2) := by decide +kernel
theorem dL_acts_568 : decode cL_acts 568 = .ok (.if_icmp .ne 37, 3) := by decide +kernel
theorem dL_acts_571 : decode cL_acts 571 = .ok (.aload_n 0, 1) := by decide +kernel
theorem dL_acts_572 : decode cL_acts 572 = .ok (.iconst 3, 1) := by decide +kernel
theorem dL_acts_573 : decode cL_acts 573 = .ok (.iload 8, 2) := by decide +kernel
theorem dL_acts_575 : decode cL_acts 575 = .ok (.iload 10, 2) := by decide +kernel
theorem dL_acts_577 : decode cL_acts 577 = .ok (.invokevirtual 76, 3) := by decide +kernel
theorem dL_acts_580 : decode cL_acts 580 = .ok (.iconst (-1), 1) := by decide +kernel
theorem dL_acts_581 : decode cL_acts 581 = .ok (.if_icmp .ne 22, 3) := by decide +kernel
theorem dL_acts_584 : decode cL_acts 584 = .ok (.aload_n 0, 1) := by decide +kernel
theorem dL_acts_585 : decode cL_acts 585 = .ok (.iconst 1, 1) := by decide +kernel
theorem dL_acts_586 : decode cL_acts 586 = .ok (.iload 8, 2) := by decide +kernel
theorem dL_acts_588 : decode cL_acts 588 = .ok (.aload_n 1, 1) := by decide +kernel
theorem dL_acts_589 : decode cL_acts 589 = .ok (.bipush 9, 2) := by decide +kernel
theorem dL_acts_591 : decode cL_acts 591 = .ok (.iaload, 1) := by decide +kernel
theorem dL_acts_592 : decode cL_acts 592 = .ok (.invokevirtual 76, 3) := by decide +kernel
theorem dL_acts_595 : decode cL_acts 595 = .ok (.iconst (-1), 1) := by decide +kernel
theorem dL_acts_596 : decode cL_acts 596 = .ok (.if_icmp .ne 7, 3) := by decide +kernel
theorem dL_acts_599 : decode cL_acts 599 = .ok (.iconst 1, 1) := by decide +kernel
theorem dL_acts_600 : decode cL_acts 600 = .ok (.goto 4, 3) := by decide +kernel
theorem dL_acts_603 : decode cL_acts 603 = .ok (.iconst 0, 1) := by decide +kernel
theorem dL_acts_604 : decode cL_acts 604 = .ok (.ireturn, 1) := by decide +kernel
theorem dL_acts_605 : decode cL_acts 605 = .ok (.aload 4, 2) := by decide +kernel
theorem dL_acts_607 : decode cL_acts 607 = .ok (.iconst 3, 1) := by decide +kernel
theorem dL_acts_608 : decode cL_acts 608 = .ok (.aload_n 1, 1) := by decide +kernel
theorem dL_acts_609 : decode cL_acts 609 = .ok (.bipush 10, 2) := by decide +kernel
theorem dL_acts_611 : decode cL_acts 611 = .ok (.iaload, 1) := by decide +kernel
theorem dL_acts_612 : decode cL_acts 612 = .ok (.imul, 1) := by decide +kernel
theorem dL_acts_613 : decode cL_acts 613 = .ok (.iload 9, 2) := by decide +kernel
theorem dL_acts_615 : decode cL_acts 615 = .ok (.iastore, 1) := by decide +kernel
theorem dL_acts_616 : decode cL_acts 616 = .ok (.aload 4, 2) := by decide +kernel
theorem dL_acts_618 : decode cL_acts 618 = .ok (.iconst 3, 1) := by decide +kernel
theorem dL_acts_619 : decode cL_acts 619 = .ok (.aload_n 1, 1) := by decide +kernel
theorem dL_acts_620 : decode cL_acts 620 = .ok (.bipush 10, 2) := by decide +kernel
theorem dL_acts_622 : decode cL_acts 622 = .ok (.iaload, 1) := by decide +kernel
theorem dL_acts_623 : decode cL_acts 623 = .ok (.imul, 1) := by decide +kernel
theorem dL_acts_624 : decode cL_acts 624 = .ok (.iconst 1, 1) := by decide +kernel
theorem dL_acts_625 : decode cL_acts 625 = .ok (.iadd, 1) := by decide +kernel
theorem dL_acts_626 : decode cL_acts 626 = .ok (.iload 8, 2) := by decide +kernel
theorem dL_acts_628 : decode cL_acts 628 = .ok (.iastore, 1) := by decide +kernel
theorem dL_acts_629 : decode cL_acts 629 = .ok (.aload 4, 2) := by decide +kernel
theorem dL_acts_631 : decode cL_acts 631 = .ok (.iconst 3, 1) := by decide +kernel
theorem dL_acts_632 : decode cL_acts 632 = .ok (.aload_n 1, 1) := by decide +kernel
theorem dL_acts_633 : decode cL_acts 633 = .ok (.bipush 10, 2) := by decide +kernel
theorem dL_acts_635 : decode cL_acts 635 = .ok (.iaload, 1) := by decide +kernel
theorem dL_acts_636 : decode cL_acts 636 = .ok (.imul, 1) := by decide +kernel
theorem dL_acts_637 : decode cL_acts 637 = .ok (.iconst 2, 1) := by decide +kernel
theorem dL_acts_638 : decode cL_acts 638 = .ok (.iadd, 1) := by decide +kernel
theorem dL_acts_639 : decode cL_acts 639 = .ok (.iload 9, 2) := by decide +kernel
theorem dL_acts_641 : decode cL_acts 641 = .ok (.ifCond .ne 8, 3) := by decide +kernel
theorem dL_acts_644 : decode cL_acts 644 = .ok (.bipush (-4), 2) := by decide +kernel
theorem dL_acts_646 : decode cL_acts 646 = .ok (.goto 5, 3) := by decide +kernel
theorem dL_acts_649 : decode cL_acts 649 = .ok (.iload 10, 2) := by decide +kernel
theorem dL_acts_651 : decode cL_acts 651 = .ok (.iastore, 1) := by decide +kernel
theorem dL_acts_652 : decode cL_acts 652 = .ok (.aload_n 1, 1) := by decide +kernel
theorem dL_acts_653 : decode cL_acts 653 = .ok (.bipush 10, 2) := by decide +kernel
theorem dL_acts_655 : decode cL_acts 655 = .ok (.dup2, 1) := by decide +kernel
theorem dL_acts_656 : decode cL_acts 656 = .ok (.iaload, 1) := by decide +kernel
theorem dL_acts_657 : decode cL_acts 657 = .ok (.iconst 1, 1) := by decide +kernel
theorem dL_acts_658 : decode cL_acts 658 = .ok (.iadd, 1) := by decide +kernel
theorem dL_acts_659 : decode cL_acts 659 = .ok (.iastore, 1) := by decide +kernel
theorem dL_acts_660 : decode cL_acts 660 = .ok (.aload_n 0, 1) := by decide +kernel
theorem dL_acts_661 : decode cL_acts 661 = .ok (.iload 9, 2) := by decide +kernel
theorem dL_acts_663 : decode cL_acts 663 = .ok (.iload 8, 2) := by decide +kernel
theorem dL_acts_665 : decode cL_acts 665 = .ok (.iload 9, 2) := by decide +kernel
theorem dL_acts_667 : decode cL_acts 667 = .ok (.ifCond .ne 8, 3) := by decide +kernel
theorem dL_acts_670 : decode cL_acts 670 = .ok (.bipush (-99), 2) := by decide +kernel
theorem dL_acts_672 : decode cL_acts 672 = .ok (.goto 5, 3) := by decide +kernel
theorem dL_acts_675 : decode cL_acts 675 = .ok (.iload 10, 2) := by decide +kernel
theorem dL_acts_677 : decode cL_acts 677 = .ok (.invokevirtual 76, 3) := by decide +kernel
theorem dL_acts_680 : decode cL_acts 680 = .ok (.aload_n 1, 1) := by decide +kernel
theorem dL_acts_681 : decode cL_acts 681 = .ok (.bipush 10, 2) := by decide +kernel
theorem dL_acts_683 : decode cL_acts 683 = .ok (.iaload, 1) := by decide +kernel
theorem dL_acts_684 : decode cL_acts 684 = .ok (.if_icmp .ne 7, 3) := by decide +kernel
theorem dL_acts_687 : decode cL_acts 687 = .ok (.iconst 1, 1) := by decide +kernel
theorem dL_acts_688 : decode cL_acts 688 = .ok (.goto 4, 3) := by decide +kernel
theorem dL_acts_691 : decode cL_acts 691 = .ok (.iconst 0, 1) := by decide +kernel
theorem dL_acts_692 : decode cL_acts 692 = .ok (.ireturn, 1) := by decide +kernel
theorem dL_acts_693 : decode cL_acts 693 = .ok (.iload 7, 2) := by decide +kernel
theorem dL_acts_695 : decode cL_acts 695 = .ok (.bipush 20, 2) := by decide +kernel
theorem dL_acts_697 : decode cL_acts 697 = .ok (.if_icmp .ne 61, 3) := by decide +kernel
theorem dL_acts_700 : decode cL_acts 700 = .ok (.aload_n 1, 1) := by decide +kernel
theorem dL_acts_701 : decode cL_acts 701 = .ok (.bipush 10, 2) := by decide +kernel
theorem dL_acts_703 : decode cL_acts 703 = .ok (.iaload, 1) := by decide +kernel
theorem dL_acts_704 : decode cL_acts 704 = .ok (.ifCond .ne 18, 3) := by decide +kernel
theorem dL_acts_707 : decode cL_acts 707 = .ok (.aload_n 0, 1) := by decide +kernel
theorem dL_acts_708 : decode cL_acts 708 = .ok (.iconst 0, 1) := by decide +kernel
theorem dL_acts_709 : decode cL_acts 709 = .ok (.invokevirtual 79, 3) := by decide +kernel
theorem dL_acts_712 : decode cL_acts 712 = .ok (.iconst (-1), 1) := by decide +kernel
theorem dL_acts_713 : decode cL_acts 713 = .ok (.if_icmp .ne 7, 3) := by decide +kernel
theorem dL_acts_716 : decode cL_acts 716 = .ok (.iconst 1, 1) := by decide +kernel
theorem dL_acts_717 : decode cL_acts 717 = .ok (.goto 4, 3) := by decide +kernel
theorem dL_acts_720 : decode cL_acts 720 = .ok (.iconst 0, 1) := by decide +kernel
theorem dL_acts_721 : decode cL_acts 721 = .ok (.ireturn, 1) := by decide +kernel
theorem dL_acts_722 : decode cL_acts 722 = .ok (.iload 6, 2) := by decide +kernel
theorem dL_acts_724 : decode cL_acts 724 = .ok (.aload_n 1, 1) := by decide +kernel
theorem dL_acts_725 : decode cL_acts 725 = .ok (.bipush 10, 2) := by decide +kernel
theorem dL_acts_727 : decode cL_acts 727 = .ok (.iaload, 1) := by decide +kernel
theorem dL_acts_728 : decode cL_acts 728 = .ok (.irem, 1) := by decide +kernel
theorem dL_acts_729 : decode cL_acts 729 = .ok (.istore 9, 2) := by decide +kernel
theorem dL_acts_731 : decode cL_acts 731 = .ok (.aload_n 1, 1) := by decide +kernel
theorem dL_acts_732 : decode cL_acts 732 = .ok (.aload 4, 2) := by decide +kernel
theorem dL_acts_734 : decode cL_acts 734 = .ok (.iload 9, 2) := by decide +kernel
theorem dL_acts_736 : decode cL_acts 736 = .ok (.invokestatic 82, 3) := by decide +kernel
theorem dL_acts_739 : decode cL_acts 739 = .ok (.aload_n 0, 1) := by decide +kernel
theorem dL_acts_740 : decode cL_acts 740 = .ok (.iload 9, 2) := by decide +kernel
theorem dL_acts_742 : decode cL_acts 742 = .ok (.invokevirtual 79, 3) := by decide +kernel
theorem dL_acts_745 : decode cL_acts 745 = .ok (.aload_n 1, 1) := by decide +kernel
theorem dL_acts_746 : decode cL_acts 746 = .ok (.bipush 10, 2) := by decide +kernel
theorem dL_acts_748 : decode cL_acts 748 = .ok (.iaload, 1) := by decide +kernel
theorem dL_acts_749 : decode cL_acts 749 = .ok (.if_icmp .ne 7, 3) := by decide +kernel
theorem dL_acts_752 : decode cL_acts 752 = .ok (.iconst 1, 1) := by decide +kernel
theorem dL_acts_753 : decode cL_acts 753 = .ok (.goto 4, 3) := by decide +kernel
theorem dL_acts_756 : decode cL_acts 756 = .ok (.iconst 0, 1) := by decide +kernel
theorem dL_acts_757 : decode cL_acts 757 = .ok (.ireturn, 1) := by decide +kernel
theorem dL_acts_758 : decode cL_acts 758 = .ok (.iload 6, 2) := by decide +kernel
theorem dL_acts_760 : decode cL_acts 760 = .ok (.bipush 8, 2) := by decide +kernel
theorem dL_acts_762 : decode cL_acts 762 = .ok (.irem, 1) := by decide +kernel
theorem dL_acts_763 : decode cL_acts 763 = .ok (.istore 9, 2) := by decide +kernel
theorem dL_acts_765 : decode cL_acts 765 = .ok (.iload 6, 2) := by decide +kernel
theorem dL_acts_767 : decode cL_acts 767 = .ok (.bipush 8, 2) := by decide +kernel
theorem dL_acts_769 : decode cL_acts 769 = .ok (.idiv, 1) := by decide +kernel
theorem dL_acts_770 : decode cL_acts 770 = .ok (.iload 9, 2) := by decide +kernel
theorem dL_acts_772 : decode cL_acts 772 = .ok (.ifCond .ne 9, 3) := by decide +kernel
theorem dL_acts_775 : decode cL_acts 775 = .ok (.sipush 500, 3) := by decide +kernel
theorem dL_acts_778 : decode cL_acts 778 = .ok (.goto 33, 3) := by decide +kernel
theorem dL_acts_781 : decode cL_acts 781 = .ok (.iload 9, 2) := by decide +kernel
theorem dL_acts_783 : decode cL_acts 783 = .ok (.iconst 1, 1) := by decide +kernel
theorem dL_acts_784 : decode cL_acts 784 = .ok (.if_icmp .ne 8, 3) := by decide +kernel
theorem dL_acts_787 : decode cL_acts 787 = .ok (.bipush 60, 2) := by decide +kernel
theorem dL_acts_789 : decode cL_acts 789 = .ok (.goto 22, 3) := by decide +kernel
theorem dL_acts_792 : decode cL_acts 792 = .ok (.iload 9, 2) := by decide +kernel
theorem dL_acts_794 : decode cL_acts 794 = .ok (.bipush 6, 2) := by decide +kernel
theorem dL_acts_796 : decode cL_acts 796 = .ok (.if_icmp .ne 8, 3) := by decide +kernel
theorem dL_acts_799 : decode cL_acts 799 = .ok (.bipush 100, 2) := by decide +kernel
theorem dL_acts_801 : decode cL_acts 801 = .ok (.goto 10, 3) := by decide +kernel
theorem dL_acts_804 : decode cL_acts 804 = .ok (.iload 9, 2) := by decide +kernel
theorem dL_acts_806 : decode cL_acts 806 = .ok (.invokestatic 86, 3) := by decide +kernel
theorem dL_acts_809 : decode cL_acts 809 = .ok (.iconst 1, 1) := by decide +kernel
theorem dL_acts_810 : decode cL_acts 810 = .ok (.iadd, 1) := by decide +kernel
theorem dL_acts_811 : decode cL_acts 811 = .ok (.irem, 1) := by decide +kernel
theorem dL_acts_812 : decode cL_acts 812 = .ok (.istore 10, 2) := by decide +kernel
theorem dL_acts_814 : decode cL_acts 814 = .ok (.iload 9, 2) := by decide +kernel
theorem dL_acts_816 : decode cL_acts 816 = .ok (.bipush 6, 2) := by decide +kernel
theorem dL_acts_818 : decode cL_acts 818 = .ok (.if_icmp .ne 12, 3) := by decide +kernel
theorem dL_acts_821 : decode cL_acts 821 = .ok (.iload 10, 2) := by decide +kernel
theorem dL_acts_823 : decode cL_acts 823 = .ok (.ifCond .ne 7, 3) := by decide +kernel
theorem dL_acts_826 : decode cL_acts 826 = .ok (.iconst 1, 1) := by decide +kernel
theorem dL_acts_827 : decode cL_acts 827 = .ok (.goto 5, 3) := by decide +kernel
theorem dL_acts_830 : decode cL_acts 830 = .ok (.iload 10, 2) := by decide +kernel
theorem dL_acts_832 : decode cL_acts 832 = .ok (.istore 10, 2) := by decide +kernel
theorem dL_acts_834 : decode cL_acts 834 = .ok (.aload_n 1, 1) := by decide +kernel
theorem dL_acts_835 : decode cL_acts 835 = .ok (.iload 9, 2) := by decide +kernel
theorem dL_acts_837 : decode cL_acts 837 = .ok (.iaload, 1) := by decide +kernel
theorem dL_acts_838 : decode cL_acts 838 = .ok (.istore 11, 2) := by decide +kernel
theorem dL_acts_840 : decode cL_acts 840 = .ok (.aload_n 1, 1) := by decide +kernel
theorem dL_acts_841 : decode cL_acts 841 = .ok (.iload 9, 2) := by decide +kernel
theorem dL_acts_843 : decode cL_acts 843 = .ok (.iload 10, 2) := by decide +kernel
theorem dL_acts_845 : decode cL_acts 845 = .ok (.iastore, 1) := by decide +kernel
theorem dL_acts_846 : decode cL_acts 846 = .ok (.aload_n 0, 1) := by decide +kernel
theorem dL_acts_847 : decode cL_acts 847 = .ok (.iload 9, 2) := by decide +kernel
theorem dL_acts_849 : decode cL_acts 849 = .ok (.iload 10, 2) := by decide +kernel
theorem dL_acts_851 : decode cL_acts 851 = .ok (.invokevirtual 89, 3) := by decide +kernel
theorem dL_acts_854 : decode cL_acts 854 = .ok (.iload 11, 2) := by decide +kernel
theorem dL_acts_856 : decode cL_acts 856 = .ok (.if_icmp .ne 7, 3) := by decide +kernel
theorem dL_acts_859 : decode cL_acts 859 = .ok (.iconst 1, 1) := by decide +kernel
theorem dL_acts_860 : decode cL_acts 860 = .ok (.goto 4, 3) := by decide +kernel
theorem dL_acts_863 : decode cL_acts 863 = .ok (.iconst 0, 1) := by decide +kernel
theorem dL_acts_864 : decode cL_acts 864 = .ok (.ireturn, 1) := by decide +kernel
def t_L_acts_864 : am_T := tb_zret
def t_L_acts_863 : am_T := tb_const 0 <|
  t_L_acts_864
def t_L_acts_832 : am_T := tb_istore 10 <|
  tb_aload 1 <|
  tb_iload 9 <|
  tb_iald <|
  tb_istore 11 <|
  tb_aload 1 <|
  tb_iload 9 <|
  tb_iload 10 <|
  tb_iast <|
  tb_aload 0 <|
  tb_iload 9 <|
  tb_iload 10 <|
  tb_callV 4 sp_X4_set 3 <|
  tb_iload 11 <|
  tb_ic (fun x y => x ≠ y) (t_L_acts_863) <|
  tb_const 1 <|
  t_L_acts_864
def t_L_acts_830 : am_T := tb_iload 10 <|
  t_L_acts_832
def t_L_acts_811 : am_T := tb_irem <|
  tb_istore 10 <|
  tb_iload 9 <|
  tb_const 6 <|
  tb_ic (fun x y => x ≠ y) (t_L_acts_830) <|
  tb_iload 10 <|
  tb_if (fun x => x ≠ 0) (t_L_acts_830) <|
  tb_const 1 <|
  t_L_acts_832
def t_L_acts_804 : am_T := tb_iload 9 <|
  tb_callS sp_L_top 1 <|
  tb_const 1 <|
  tb_bin (fun x y => x + y) <|
  t_L_acts_811
def t_L_acts_792 : am_T := tb_iload 9 <|
  tb_const 6 <|
  tb_ic (fun x y => x ≠ y) (t_L_acts_804) <|
  tb_const 100 <|
  t_L_acts_811
def t_L_acts_781 : am_T := tb_iload 9 <|
  tb_const 1 <|
  tb_ic (fun x y => x ≠ y) (t_L_acts_792) <|
  tb_const 60 <|
  t_L_acts_811
def t_L_acts_758 : am_T := tb_iload 6 <|
  tb_const 8 <|
  tb_irem <|
  tb_istore 9 <|
  tb_iload 6 <|
  tb_const 8 <|
  tb_idiv <|
  tb_iload 9 <|
  tb_if (fun x => x ≠ 0) (t_L_acts_781) <|
  tb_const 500 <|
  t_L_acts_811
def t_L_acts_757 : am_T := tb_zret
def t_L_acts_756 : am_T := tb_const 0 <|
  t_L_acts_757
def t_L_acts_722 : am_T := tb_iload 6 <|
  tb_aload 1 <|
  tb_const 10 <|
  tb_iald <|
  tb_irem <|
  tb_istore 9 <|
  tb_aload 1 <|
  tb_aload 4 <|
  tb_iload 9 <|
  tb_callS sp_L_goes 3 <|
  tb_aload 0 <|
  tb_iload 9 <|
  tb_callV 4 sp_X4_withdraw 2 <|
  tb_aload 1 <|
  tb_const 10 <|
  tb_iald <|
  tb_ic (fun x y => x ≠ y) (t_L_acts_756) <|
  tb_const 1 <|
  t_L_acts_757
def t_L_acts_721 : am_T := tb_zret
def t_L_acts_720 : am_T := tb_const 0 <|
  t_L_acts_721
def t_L_acts_693 : am_T := tb_iload 7 <|
  tb_const 20 <|
  tb_ic (fun x y => x ≠ y) (t_L_acts_758) <|
  tb_aload 1 <|
  tb_const 10 <|
  tb_iald <|
  tb_if (fun x => x ≠ 0) (t_L_acts_722) <|
  tb_aload 0 <|
  tb_const 0 <|
  tb_callV 4 sp_X4_withdraw 2 <|
  tb_const (-1) <|
  tb_ic (fun x y => x ≠ y) (t_L_acts_720) <|
  tb_const 1 <|
  t_L_acts_721
def t_L_acts_692 : am_T := tb_zret
def t_L_acts_691 : am_T := tb_const 0 <|
  t_L_acts_692
def t_L_acts_677 : am_T := tb_callV 4 sp_X4_correct 4 <|
  tb_aload 1 <|
  tb_const 10 <|
  tb_iald <|
  tb_ic (fun x y => x ≠ y) (t_L_acts_691) <|
  tb_const 1 <|
  t_L_acts_692
def t_L_acts_675 : am_T := tb_iload 10 <|
  t_L_acts_677
def t_L_acts_651 : am_T := tb_iast <|
  tb_aload 1 <|
  tb_const 10 <|
  tb_dup2 <|
  tb_iald <|
  tb_const 1 <|
  tb_bin (fun x y => x + y) <|
  tb_iast <|
  tb_aload 0 <|
  tb_iload 9 <|
  tb_iload 8 <|
  tb_iload 9 <|
  tb_if (fun x => x ≠ 0) (t_L_acts_675) <|
  tb_const (-99) <|
  t_L_acts_677
def t_L_acts_649 : am_T := tb_iload 10 <|
  t_L_acts_651
def t_L_acts_605 : am_T := tb_aload 4 <|
  tb_const 3 <|
  tb_aload 1 <|
  tb_const 10 <|
  tb_iald <|
  tb_bin (fun x y => x * y) <|
  tb_iload 9 <|
  tb_iast <|
  tb_aload 4 <|
  tb_const 3 <|
  tb_aload 1 <|
  tb_const 10 <|
  tb_iald <|
  tb_bin (fun x y => x * y) <|
  tb_const 1 <|
  tb_bin (fun x y => x + y) <|
  tb_iload 8 <|
  tb_iast <|
  tb_aload 4 <|
  tb_const 3 <|
  tb_aload 1 <|
  tb_const 10 <|
  tb_iald <|
  tb_bin (fun x y => x * y) <|
  tb_const 2 <|
  tb_bin (fun x y => x + y) <|
  tb_iload 9 <|
  tb_if (fun x => x ≠ 0) (t_L_acts_649) <|
  tb_const (-4) <|
  t_L_acts_651
def t_L_acts_604 : am_T := tb_zret
def t_L_acts_603 : am_T := tb_const 0 <|
  t_L_acts_604
def t_L_acts_562 : am_T := tb_aload 1 <|
  tb_const 10 <|
  tb_iald <|
  tb_const 6 <|
  tb_ic (fun x y => x ≠ y) (t_L_acts_605) <|
  tb_aload 0 <|
  tb_const 3 <|
  tb_iload 8 <|
  tb_iload 10 <|
  tb_callV 4 sp_X4_correct 4 <|
  tb_const (-1) <|
  tb_ic (fun x y => x ≠ y) (t_L_acts_603) <|
  tb_aload 0 <|
  tb_const 1 <|
  tb_iload 8 <|
  tb_aload 1 <|
  tb_const 9 <|
  tb_iald <|
  tb_callV 4 sp_X4_correct 4 <|
  tb_const (-1) <|
  tb_ic (fun x y => x ≠ y) (t_L_acts_603) <|
  tb_const 1 <|
  t_L_acts_604
def t_L_acts_561 : am_T := tb_zret
def t_L_acts_560 : am_T := tb_const 0 <|
  t_L_acts_561
def t_L_acts_534 : am_T := tb_istore 11 <|
  tb_iload 11 <|
  tb_if (fun x => x ≠ 0) (t_L_acts_562) <|
  tb_aload 0 <|
  tb_iload 9 <|
  tb_iload 8 <|
  tb_iload 10 <|
  tb_callV 4 sp_X4_correct 4 <|
  tb_const (-2) <|
  tb_ic (fun x y => x ≠ y) (t_L_acts_560) <|
  tb_const 1 <|
  t_L_acts_561
def t_L_acts_533 : am_T := tb_const 0 <|
  t_L_acts_534
def t_L_acts_514 : am_T := tb_aload 1 <|
  tb_aload 4 <|
  tb_iload 9 <|
  tb_iload 8 <|
  tb_iload 10 <|
  tb_callS sp_L_told 5 <|
  tb_if (fun x => 0 ≤ x) (t_L_acts_533) <|
  tb_const 1 <|
  t_L_acts_534
def t_L_acts_470 : am_T := tb_iload 7 <|
  tb_const 20 <|
  tb_ic (fun x y => y ≤ x) (t_L_acts_693) <|
  tb_iload 6 <|
  tb_const 12 <|
  tb_idiv <|
  tb_const 3 <|
  tb_irem <|
  tb_istore 9 <|
  tb_iload 6 <|
  tb_const 36 <|
  tb_idiv <|
  tb_aload 1 <|
  tb_const 9 <|
  tb_iald <|
  tb_irem <|
  tb_istore 10 <|
  tb_iload 9 <|
  tb_if (fun x => x = 0) (t_L_acts_514) <|
  tb_aload 3 <|
  tb_iload 10 <|
  tb_iload 8 <|
  tb_callS sp_L_ahead 3 <|
  tb_if (fun x => x = 0) (t_L_acts_533) <|
  t_L_acts_514
def t_L_acts_469 : am_T := tb_zret
def t_L_acts_468 : am_T := tb_const 0 <|
  t_L_acts_469
def t_L_acts_426 : am_T := tb_iload 6 <|
  tb_aload 1 <|
  tb_const 9 <|
  tb_iald <|
  tb_irem <|
  tb_istore 8 <|
  tb_iload 7 <|
  tb_const 13 <|
  tb_ic (fun x y => x ≠ y) (t_L_acts_470) <|
  tb_aload 1 <|
  tb_aload 3 <|
  tb_aload 4 <|
  tb_iload 8 <|
  tb_callS sp_L_drops 4 <|
  tb_aload 0 <|
  tb_iload 8 <|
  tb_callV 4 sp_X4_drop 2 <|
  tb_aload 1 <|
  tb_const 10 <|
  tb_iald <|
  tb_ic (fun x y => x ≠ y) (t_L_acts_468) <|
  tb_const 1 <|
  t_L_acts_469
def t_L_acts_425 : am_T := tb_zret
def t_L_acts_424 : am_T := tb_const 0 <|
  t_L_acts_425
def t_L_acts_335 : am_T := tb_iast <|
  tb_aload 3 <|
  tb_iload 8 <|
  tb_const 1 <|
  tb_bin (fun x y => x + y) <|
  tb_iload 6 <|
  tb_const 7 <|
  tb_idiv <|
  tb_const 5 <|
  tb_irem <|
  tb_iast <|
  tb_aload 3 <|
  tb_iload 8 <|
  tb_const 2 <|
  tb_bin (fun x y => x + y) <|
  tb_iload 6 <|
  tb_const 11 <|
  tb_idiv <|
  tb_const 64 <|
  tb_irem <|
  tb_iast <|
  tb_aload 3 <|
  tb_iload 8 <|
  tb_const 3 <|
  tb_bin (fun x y => x + y) <|
  tb_iload 6 <|
  tb_const 13 <|
  tb_idiv <|
  tb_const 32 <|
  tb_irem <|
  tb_iast <|
  tb_aload 1 <|
  tb_const 9 <|
  tb_dup2 <|
  tb_iald <|
  tb_const 1 <|
  tb_bin (fun x y => x + y) <|
  tb_iast <|
  tb_aload 0 <|
  tb_aload 3 <|
  tb_iload 8 <|
  tb_iald <|
  tb_aload 3 <|
  tb_iload 8 <|
  tb_const 1 <|
  tb_bin (fun x y => x + y) <|
  tb_iald <|
  tb_aload 3 <|
  tb_iload 8 <|
  tb_const 2 <|
  tb_bin (fun x y => x + y) <|
  tb_iald <|
  tb_aload 3 <|
  tb_iload 8 <|
  tb_const 3 <|
  tb_bin (fun x y => x + y) <|
  tb_iald <|
  tb_callV 4 sp_X4_line 5 <|
  tb_aload 1 <|
  tb_const 9 <|
  tb_iald <|
  tb_const 1 <|
  tb_bin (fun x y => x - y) <|
  tb_ic (fun x y => x ≠ y) (t_L_acts_424) <|
  tb_const 1 <|
  t_L_acts_425
def t_L_acts_327 : am_T := tb_iload 6 <|
  tb_const 5 <|
  tb_idiv <|
  tb_const 400 <|
  tb_irem <|
  t_L_acts_335
def t_L_acts_299 : am_T := tb_const 4 <|
  tb_aload 1 <|
  tb_const 9 <|
  tb_iald <|
  tb_bin (fun x y => x * y) <|
  tb_istore 8 <|
  tb_aload 3 <|
  tb_iload 8 <|
  tb_iload 6 <|
  tb_const 5 <|
  tb_irem <|
  tb_if (fun x => x ≠ 0) (t_L_acts_327) <|
  tb_iload 6 <|
  tb_const 5 <|
  tb_idiv <|
  tb_const (100001) <|
  tb_irem <|
  t_L_acts_335
def t_L_acts_298 : am_T := tb_zret
def t_L_acts_297 : am_T := tb_const 0 <|
  t_L_acts_298
def t_L_acts_258 : am_T := tb_aload 1 <|
  tb_const 9 <|
  tb_iald <|
  tb_const 12 <|
  tb_ic (fun x y => x ≠ y) (t_L_acts_299) <|
  tb_aload 0 <|
  tb_const 0 <|
  tb_const 12 <|
  tb_const 0 <|
  tb_const 0 <|
  tb_callV 4 sp_X4_line 5 <|
  tb_const (-1) <|
  tb_ic (fun x y => x ≠ y) (t_L_acts_297) <|
  tb_aload 0 <|
  tb_const 0 <|
  tb_const 0 <|
  tb_const (65536) <|
  tb_const 0 <|
  tb_callV 4 sp_X4_line 5 <|
  tb_const (-1) <|
  tb_ic (fun x y => x ≠ y) (t_L_acts_297) <|
  tb_const 1 <|
  t_L_acts_298
def t_L_acts_244 : am_T := tb_iload 7 <|
  tb_const 13 <|
  tb_ic (fun x y => x < y) (t_L_acts_258) <|
  tb_aload 1 <|
  tb_const 9 <|
  tb_iald <|
  tb_if (fun x => x ≠ 0) (t_L_acts_426) <|
  t_L_acts_258
def t_L_acts_243 : am_T := tb_zret
def t_L_acts_242 : am_T := tb_const 0 <|
  t_L_acts_243
def t_L_acts_179 : am_T := tb_aload 2 <|
  tb_const 3 <|
  tb_aload 1 <|
  tb_const 8 <|
  tb_iald <|
  tb_bin (fun x y => x * y) <|
  tb_iload 8 <|
  tb_iast <|
  tb_aload 2 <|
  tb_const 3 <|
  tb_aload 1 <|
  tb_const 8 <|
  tb_iald <|
  tb_bin (fun x y => x * y) <|
  tb_const 1 <|
  tb_bin (fun x y => x + y) <|
  tb_iload 9 <|
  tb_iast <|
  tb_aload 2 <|
  tb_const 3 <|
  tb_aload 1 <|
  tb_const 8 <|
  tb_iald <|
  tb_bin (fun x y => x * y) <|
  tb_const 2 <|
  tb_bin (fun x y => x + y) <|
  tb_iload 11 <|
  tb_iast <|
  tb_aload 1 <|
  tb_const 8 <|
  tb_dup2 <|
  tb_iald <|
  tb_const 1 <|
  tb_bin (fun x y => x + y) <|
  tb_iast <|
  tb_aload 0 <|
  tb_iload 8 <|
  tb_iload 9 <|
  tb_iload 11 <|
  tb_callV 4 sp_X4_takes 4 <|
  tb_aload 1 <|
  tb_const 8 <|
  tb_iald <|
  tb_ic (fun x y => x ≠ y) (t_L_acts_242) <|
  tb_const 1 <|
  t_L_acts_243
def t_L_acts_178 : am_T := tb_zret
def t_L_acts_177 : am_T := tb_const 0 <|
  t_L_acts_178
def t_L_acts_173 : am_T := tb_const 1 <|
  t_L_acts_178
def t_L_acts_137 : am_T := tb_aload 0 <|
  tb_iload 8 <|
  tb_const 16 <|
  tb_iload 11 <|
  tb_callV 4 sp_X4_takes 4 <|
  tb_const (-1) <|
  tb_ic (fun x y => x ≠ y) (t_L_acts_177) <|
  tb_iload 10 <|
  tb_if (fun x => x = 0) (t_L_acts_173) <|
  tb_aload 0 <|
  tb_iload 8 <|
  tb_iload 9 <|
  tb_iload 10 <|
  tb_const 1 <|
  tb_bin (fun x y => x - y) <|
  tb_callV 4 sp_X4_takes 4 <|
  tb_const (-2) <|
  tb_ic (fun x y => x ≠ y) (t_L_acts_177) <|
  t_L_acts_173
def t_L_acts_121 : am_T := tb_aload 1 <|
  tb_const 8 <|
  tb_iald <|
  tb_const 8 <|
  tb_ic (fun x y => x = y) (t_L_acts_137) <|
  tb_iload 11 <|
  tb_const (100000) <|
  tb_ic (fun x y => x ≤ y) (t_L_acts_179) <|
  t_L_acts_137
def t_L_acts_120 : am_T := tb_zret
def t_L_acts_119 : am_T := tb_const 0 <|
  t_L_acts_120
def t_L_acts_62 : am_T := tb_istore 10 <|
  tb_iload 10 <|
  tb_iload 6 <|
  tb_const 30 <|
  tb_idiv <|
  tb_const 60 <|
  tb_irem <|
  tb_bin (fun x y => x + y) <|
  tb_istore 11 <|
  tb_aload 1 <|
  tb_aload 2 <|
  tb_iload 9 <|
  tb_iload 11 <|
  tb_callS sp_L_has 4 <|
  tb_istore 12 <|
  tb_iload 12 <|
  tb_if (fun x => x < 0) (t_L_acts_121) <|
  tb_iload 12 <|
  tb_iload 8 <|
  tb_ic (fun x y => x = y) (t_L_acts_121) <|
  tb_aload 0 <|
  tb_iload 8 <|
  tb_iload 9 <|
  tb_iload 11 <|
  tb_callV 4 sp_X4_takes 4 <|
  tb_const (-2) <|
  tb_ic (fun x y => x ≠ y) (t_L_acts_119) <|
  tb_const 1 <|
  t_L_acts_120
def t_L_acts_52 : am_T := tb_aload 2 <|
  tb_const 3 <|
  tb_aload 1 <|
  tb_const 8 <|
  tb_iald <|
  tb_bin (fun x y => x * y) <|
  tb_const 1 <|
  tb_bin (fun x y => x - y) <|
  tb_iald <|
  t_L_acts_62
def t_L_acts_0 : am_T := tb_iload 5 <|
  tb_const 5 <|
  tb_bin (fun x y => x >>> (y &&& 31)) <|
  tb_const (10000000) <|
  tb_callS sp_L_low 2 <|
  tb_istore 6 <|
  tb_iload 5 <|
  tb_const 26 <|
  tb_callS sp_L_low 2 <|
  tb_istore 7 <|
  tb_iload 7 <|
  tb_const 4 <|
  tb_ic (fun x y => y ≤ x) (t_L_acts_244) <|
  tb_iload 6 <|
  tb_const 5 <|
  tb_irem <|
  tb_istore 8 <|
  tb_iload 6 <|
  tb_const 5 <|
  tb_idiv <|
  tb_const 6 <|
  tb_irem <|
  tb_istore 9 <|
  tb_aload 1 <|
  tb_const 8 <|
  tb_iald <|
  tb_if (fun x => x ≠ 0) (t_L_acts_52) <|
  tb_const 0 <|
  t_L_acts_62
def h_L_acts : am_Hd := fun h => if h = 0 then t_L_acts_0 else tb_bad
theorem h_L_acts_0 : h_L_acts 0 = t_L_acts_0 := rfl
def rm_L_acts : Room := { frames := 5, cells := 0, slots := 0, locals := 113 }
def sp_L_acts : am_sp := fun as M Q => as.length ≤ 13 ∧ am_OK h_L_acts Q 0 (am_in 13 as) M
theorem s_L_acts_864 {G : am_G} {bc bs : Nat} (X : am_Cx G cL_acts RL "acts" rm_L_acts (some .boolean) 13 bc bs true) : am_S G 864 (t_L_acts_864) := by
  unfold t_L_acts_864
  exact as_zret (pc := 864) X ⟨rfl, rfl⟩ rfl dL_acts_864
theorem s_L_acts_863 {G : am_G} {bc bs : Nat} (X : am_Cx G cL_acts RL "acts" rm_L_acts (some .boolean) 13 bc bs true) : am_S G 863 (t_L_acts_863) := by
  unfold t_L_acts_863
  refine as_iconst (pc := 863) X dL_acts_863 (by decide) ?_
  exact s_L_acts_864 X
theorem s_L_acts_832 {G : am_G} {bc bs : Nat} (X : am_Cx G cL_acts RL "acts" rm_L_acts (some .boolean) 13 bc bs true) : am_S G 832 (t_L_acts_832) := by
  unfold t_L_acts_832
  refine as_istore (pc := 832) X dL_acts_832 ?_ (by decide)
  refine as_aload_n (pc := 834) X dL_acts_834 rfl ?_
  refine as_iload (pc := 835) X dL_acts_835 ?_
  refine as_iald (pc := 837) X dL_acts_837 ?_
  refine as_istore (pc := 838) X dL_acts_838 ?_ (by decide)
  refine as_aload_n (pc := 840) X dL_acts_840 rfl ?_
  refine as_iload (pc := 841) X dL_acts_841 ?_
  refine as_iload (pc := 843) X dL_acts_843 ?_
  refine as_iast (pc := 845) X dL_acts_845 ?_
  refine as_aload_n (pc := 846) X dL_acts_846 rfl ?_
  refine as_iload (pc := 847) X dL_acts_847 ?_
  refine as_iload (pc := 849) X dL_acts_849 ?_
  refine as_callV (ci := 4) (np := 2) (ix := 89) (pc := 851) X ct_X4_set (Cn := (RX4, TX4, 7)) rfl ⟨rfl, rfl⟩ aw_521 aw_522 aw_523 aw_524 aw_17 (by decide +kernel) (by decide) dL_acts_851 ?_
  refine as_iload (pc := 854) X dL_acts_854 ?_
  refine as_ic_ne (pc := 856) X 863 dL_acts_856 (by decide) (s_L_acts_863 X) ?_
  refine as_iconst (pc := 859) X dL_acts_859 (by decide) ?_
  exact as_goto (pc := 860) X 864 dL_acts_860 (by decide) (s_L_acts_864 X)
theorem s_L_acts_830 {G : am_G} {bc bs : Nat} (X : am_Cx G cL_acts RL "acts" rm_L_acts (some .boolean) 13 bc bs true) : am_S G 830 (t_L_acts_830) := by
  unfold t_L_acts_830
  refine as_iload (pc := 830) X dL_acts_830 ?_
  exact s_L_acts_832 X
theorem s_L_acts_811 {G : am_G} {bc bs : Nat} (X : am_Cx G cL_acts RL "acts" rm_L_acts (some .boolean) 13 bc bs true) : am_S G 811 (t_L_acts_811) := by
  unfold t_L_acts_811
  refine as_irem (pc := 811) X dL_acts_811 ?_
  refine as_istore (pc := 812) X dL_acts_812 ?_ (by decide)
  refine as_iload (pc := 814) X dL_acts_814 ?_
  refine as_bipush (pc := 816) X dL_acts_816 (by decide) ?_
  refine as_ic_ne (pc := 818) X 830 dL_acts_818 (by decide) (s_L_acts_830 X) ?_
  refine as_iload (pc := 821) X dL_acts_821 ?_
  refine as_if_ne (pc := 823) X 830 dL_acts_823 (by decide) (s_L_acts_830 X) ?_
  refine as_iconst (pc := 826) X dL_acts_826 (by decide) ?_
  exact as_goto (pc := 827) X 832 dL_acts_827 (by decide) (s_L_acts_832 X)
theorem s_L_acts_804 {G : am_G} {bc bs : Nat} (X : am_Cx G cL_acts RL "acts" rm_L_acts (some .boolean) 13 bc bs true) : am_S G 804 (t_L_acts_804) := by
  unfold t_L_acts_804
  refine as_iload (pc := 804) X dL_acts_804 ?_
  refine as_callS (np := 1) (ix := 86) (pc := 806) X ct_L_top ⟨rfl, rfl⟩ aw_518 aw_519 aw_520 aw_16 (by decide +kernel) (by decide) dL_acts_806 ?_
  refine as_iconst (pc := 809) X dL_acts_809 (by decide) ?_
  refine as_iadd (pc := 810) X dL_acts_810 ?_
  exact s_L_acts_811 X
theorem s_L_acts_792 {G : am_G} {bc bs : Nat} (X : am_Cx G cL_acts RL "acts" rm_L_acts (some .boolean) 13 bc bs true) : am_S G 792 (t_L_acts_792) := by
  unfold t_L_acts_792
  refine as_iload (pc := 792) X dL_acts_792 ?_
  refine as_bipush (pc := 794) X dL_acts_794 (by decide) ?_
  refine as_ic_ne (pc := 796) X 804 dL_acts_796 (by decide) (s_L_acts_804 X) ?_
  refine as_bipush (pc := 799) X dL_acts_799 (by decide) ?_
  exact as_goto (pc := 801) X 811 dL_acts_801 (by decide) (s_L_acts_811 X)
theorem s_L_acts_781 {G : am_G} {bc bs : Nat} (X : am_Cx G cL_acts RL "acts" rm_L_acts (some .boolean) 13 bc bs true) : am_S G 781 (t_L_acts_781) := by
  unfold t_L_acts_781
  refine as_iload (pc := 781) X dL_acts_781 ?_
  refine as_iconst (pc := 783) X dL_acts_783 (by decide) ?_
  refine as_ic_ne (pc := 784) X 792 dL_acts_784 (by decide) (s_L_acts_792 X) ?_
  refine as_bipush (pc := 787) X dL_acts_787 (by decide) ?_
  exact as_goto (pc := 789) X 811 dL_acts_789 (by decide) (s_L_acts_811 X)
theorem s_L_acts_758 {G : am_G} {bc bs : Nat} (X : am_Cx G cL_acts RL "acts" rm_L_acts (some .boolean) 13 bc bs true) : am_S G 758 (t_L_acts_758) := by
  unfold t_L_acts_758
  refine as_iload (pc := 758) X dL_acts_758 ?_
  refine as_bipush (pc := 760) X dL_acts_760 (by decide) ?_
  refine as_irem (pc := 762) X dL_acts_762 ?_
  refine as_istore (pc := 763) X dL_acts_763 ?_ (by decide)
  refine as_iload (pc := 765) X dL_acts_765 ?_
  refine as_bipush (pc := 767) X dL_acts_767 (by decide) ?_
  refine as_idiv (pc := 769) X dL_acts_769 ?_
  refine as_iload (pc := 770) X dL_acts_770 ?_
  refine as_if_ne (pc := 772) X 781 dL_acts_772 (by decide) (s_L_acts_781 X) ?_
  refine as_sipush (pc := 775) X dL_acts_775 (by decide) ?_
  exact as_goto (pc := 778) X 811 dL_acts_778 (by decide) (s_L_acts_811 X)
theorem s_L_acts_757 {G : am_G} {bc bs : Nat} (X : am_Cx G cL_acts RL "acts" rm_L_acts (some .boolean) 13 bc bs true) : am_S G 757 (t_L_acts_757) := by
  unfold t_L_acts_757
  exact as_zret (pc := 757) X ⟨rfl, rfl⟩ rfl dL_acts_757
theorem s_L_acts_756 {G : am_G} {bc bs : Nat} (X : am_Cx G cL_acts RL "acts" rm_L_acts (some .boolean) 13 bc bs true) : am_S G 756 (t_L_acts_756) := by
  unfold t_L_acts_756
  refine as_iconst (pc := 756) X dL_acts_756 (by decide) ?_
  exact s_L_acts_757 X
theorem s_L_acts_722 {G : am_G} {bc bs : Nat} (X : am_Cx G cL_acts RL "acts" rm_L_acts (some .boolean) 13 bc bs true) : am_S G 722 (t_L_acts_722) := by
  unfold t_L_acts_722
  refine as_iload (pc := 722) X dL_acts_722 ?_
  refine as_aload_n (pc := 724) X dL_acts_724 rfl ?_
  refine as_bipush (pc := 725) X dL_acts_725 (by decide) ?_
  refine as_iald (pc := 727) X dL_acts_727 ?_
  refine as_irem (pc := 728) X dL_acts_728 ?_
  refine as_istore (pc := 729) X dL_acts_729 ?_ (by decide)
  refine as_aload_n (pc := 731) X dL_acts_731 rfl ?_
  refine as_aload (pc := 732) X dL_acts_732 ?_
  refine as_iload (pc := 734) X dL_acts_734 ?_
  refine as_callS (np := 3) (ix := 82) (pc := 736) X ct_L_goes ⟨rfl, rfl⟩ aw_515 aw_516 aw_517 aw_16 (by decide +kernel) (by decide) dL_acts_736 ?_
  refine as_aload_n (pc := 739) X dL_acts_739 rfl ?_
  refine as_iload (pc := 740) X dL_acts_740 ?_
  refine as_callV (ci := 4) (np := 1) (ix := 79) (pc := 742) X ct_X4_withdraw (Cn := (RX4, TX4, 7)) rfl ⟨rfl, rfl⟩ aw_506 aw_507 aw_508 aw_509 aw_17 (by decide +kernel) (by decide) dL_acts_742 ?_
  refine as_aload_n (pc := 745) X dL_acts_745 rfl ?_
  refine as_bipush (pc := 746) X dL_acts_746 (by decide) ?_
  refine as_iald (pc := 748) X dL_acts_748 ?_
  refine as_ic_ne (pc := 749) X 756 dL_acts_749 (by decide) (s_L_acts_756 X) ?_
  refine as_iconst (pc := 752) X dL_acts_752 (by decide) ?_
  exact as_goto (pc := 753) X 757 dL_acts_753 (by decide) (s_L_acts_757 X)
theorem s_L_acts_721 {G : am_G} {bc bs : Nat} (X : am_Cx G cL_acts RL "acts" rm_L_acts (some .boolean) 13 bc bs true) : am_S G 721 (t_L_acts_721) := by
  unfold t_L_acts_721
  exact as_zret (pc := 721) X ⟨rfl, rfl⟩ rfl dL_acts_721
theorem s_L_acts_720 {G : am_G} {bc bs : Nat} (X : am_Cx G cL_acts RL "acts" rm_L_acts (some .boolean) 13 bc bs true) : am_S G 720 (t_L_acts_720) := by
  unfold t_L_acts_720
  refine as_iconst (pc := 720) X dL_acts_720 (by decide) ?_
  exact s_L_acts_721 X
theorem s_L_acts_693 {G : am_G} {bc bs : Nat} (X : am_Cx G cL_acts RL "acts" rm_L_acts (some .boolean) 13 bc bs true) : am_S G 693 (t_L_acts_693) := by
  unfold t_L_acts_693
  refine as_iload (pc := 693) X dL_acts_693 ?_
  refine as_bipush (pc := 695) X dL_acts_695 (by decide) ?_
  refine as_ic_ne (pc := 697) X 758 dL_acts_697 (by decide) (s_L_acts_758 X) ?_
  refine as_aload_n (pc := 700) X dL_acts_700 rfl ?_
  refine as_bipush (pc := 701) X dL_acts_701 (by decide) ?_
  refine as_iald (pc := 703) X dL_acts_703 ?_
  refine as_if_ne (pc := 704) X 722 dL_acts_704 (by decide) (s_L_acts_722 X) ?_
  refine as_aload_n (pc := 707) X dL_acts_707 rfl ?_
  refine as_iconst (pc := 708) X dL_acts_708 (by decide) ?_
  refine as_callV (ci := 4) (np := 1) (ix := 79) (pc := 709) X ct_X4_withdraw (Cn := (RX4, TX4, 7)) rfl ⟨rfl, rfl⟩ aw_506 aw_507 aw_508 aw_509 aw_17 (by decide +kernel) (by decide) dL_acts_709 ?_
  refine as_iconst (pc := 712) X dL_acts_712 (by decide) ?_
  refine as_ic_ne (pc := 713) X 720 dL_acts_713 (by decide) (s_L_acts_720 X) ?_
  refine as_iconst (pc := 716) X dL_acts_716 (by decide) ?_
  exact as_goto (pc := 717) X 721 dL_acts_717 (by decide) (s_L_acts_721 X)
theorem s_L_acts_692 {G : am_G} {bc bs : Nat} (X : am_Cx G cL_acts RL "acts" rm_L_acts (some .boolean) 13 bc bs true) : am_S G 692 (t_L_acts_692) := by
  unfold t_L_acts_692
  exact as_zret (pc := 692) X ⟨rfl, rfl⟩ rfl dL_acts_692
theorem s_L_acts_691 {G : am_G} {bc bs : Nat} (X : am_Cx G cL_acts RL "acts" rm_L_acts (some .boolean) 13 bc bs true) : am_S G 691 (t_L_acts_691) := by
  unfold t_L_acts_691
  refine as_iconst (pc := 691) X dL_acts_691 (by decide) ?_
  exact s_L_acts_692 X
theorem s_L_acts_677 {G : am_G} {bc bs : Nat} (X : am_Cx G cL_acts RL "acts" rm_L_acts (some .boolean) 13 bc bs true) : am_S G 677 (t_L_acts_677) := by
  unfold t_L_acts_677
  refine as_callV (ci := 4) (np := 3) (ix := 76) (pc := 677) X ct_X4_correct (Cn := (RX4, TX4, 7)) rfl ⟨rfl, rfl⟩ aw_486 aw_487 aw_488 aw_489 aw_17 (by decide +kernel) (by decide) dL_acts_677 ?_
  refine as_aload_n (pc := 680) X dL_acts_680 rfl ?_
  refine as_bipush (pc := 681) X dL_acts_681 (by decide) ?_
  refine as_iald (pc := 683) X dL_acts_683 ?_
  refine as_ic_ne (pc := 684) X 691 dL_acts_684 (by decide) (s_L_acts_691 X) ?_
  refine as_iconst (pc := 687) X dL_acts_687 (by decide) ?_
  exact as_goto (pc := 688) X 692 dL_acts_688 (by decide) (s_L_acts_692 X)
theorem s_L_acts_675 {G : am_G} {bc bs : Nat} (X : am_Cx G cL_acts RL "acts" rm_L_acts (some .boolean) 13 bc bs true) : am_S G 675 (t_L_acts_675) := by
  unfold t_L_acts_675
  refine as_iload (pc := 675) X dL_acts_675 ?_
  exact s_L_acts_677 X
theorem s_L_acts_651 {G : am_G} {bc bs : Nat} (X : am_Cx G cL_acts RL "acts" rm_L_acts (some .boolean) 13 bc bs true) : am_S G 651 (t_L_acts_651) := by
  unfold t_L_acts_651
  refine as_iast (pc := 651) X dL_acts_651 ?_
  refine as_aload_n (pc := 652) X dL_acts_652 rfl ?_
  refine as_bipush (pc := 653) X dL_acts_653 (by decide) ?_
  refine as_dup2 (pc := 655) X dL_acts_655 ?_
  refine as_iald (pc := 656) X dL_acts_656 ?_
  refine as_iconst (pc := 657) X dL_acts_657 (by decide) ?_
  refine as_iadd (pc := 658) X dL_acts_658 ?_
  refine as_iast (pc := 659) X dL_acts_659 ?_
  refine as_aload_n (pc := 660) X dL_acts_660 rfl ?_
  refine as_iload (pc := 661) X dL_acts_661 ?_
  refine as_iload (pc := 663) X dL_acts_663 ?_
  refine as_iload (pc := 665) X dL_acts_665 ?_
  refine as_if_ne (pc := 667) X 675 dL_acts_667 (by decide) (s_L_acts_675 X) ?_
  refine as_bipush (pc := 670) X dL_acts_670 (by decide) ?_
  exact as_goto (pc := 672) X 677 dL_acts_672 (by decide) (s_L_acts_677 X)
theorem s_L_acts_649 {G : am_G} {bc bs : Nat} (X : am_Cx G cL_acts RL "acts" rm_L_acts (some .boolean) 13 bc bs true) : am_S G 649 (t_L_acts_649) := by
  unfold t_L_acts_649
  refine as_iload (pc := 649) X dL_acts_649 ?_
  exact s_L_acts_651 X
theorem s_L_acts_605 {G : am_G} {bc bs : Nat} (X : am_Cx G cL_acts RL "acts" rm_L_acts (some .boolean) 13 bc bs true) : am_S G 605 (t_L_acts_605) := by
  unfold t_L_acts_605
  refine as_aload (pc := 605) X dL_acts_605 ?_
  refine as_iconst (pc := 607) X dL_acts_607 (by decide) ?_
  refine as_aload_n (pc := 608) X dL_acts_608 rfl ?_
  refine as_bipush (pc := 609) X dL_acts_609 (by decide) ?_
  refine as_iald (pc := 611) X dL_acts_611 ?_
  refine as_imul (pc := 612) X dL_acts_612 ?_
  refine as_iload (pc := 613) X dL_acts_613 ?_
  refine as_iast (pc := 615) X dL_acts_615 ?_
  refine as_aload (pc := 616) X dL_acts_616 ?_
  refine as_iconst (pc := 618) X dL_acts_618 (by decide) ?_
  refine as_aload_n (pc := 619) X dL_acts_619 rfl ?_
  refine as_bipush (pc := 620) X dL_acts_620 (by decide) ?_
  refine as_iald (pc := 622) X dL_acts_622 ?_
  refine as_imul (pc := 623) X dL_acts_623 ?_
  refine as_iconst (pc := 624) X dL_acts_624 (by decide) ?_
  refine as_iadd (pc := 625) X dL_acts_625 ?_
  refine as_iload (pc := 626) X dL_acts_626 ?_
  refine as_iast (pc := 628) X dL_acts_628 ?_
  refine as_aload (pc := 629) X dL_acts_629 ?_
  refine as_iconst (pc := 631) X dL_acts_631 (by decide) ?_
  refine as_aload_n (pc := 632) X dL_acts_632 rfl ?_
  refine as_bipush (pc := 633) X dL_acts_633 (by decide) ?_
  refine as_iald (pc := 635) X dL_acts_635 ?_
  refine as_imul (pc := 636) X dL_acts_636 ?_
  refine as_iconst (pc := 637) X dL_acts_637 (by decide) ?_
  refine as_iadd (pc := 638) X dL_acts_638 ?_
  refine as_iload (pc := 639) X dL_acts_639 ?_
  refine as_if_ne (pc := 641) X 649 dL_acts_641 (by decide) (s_L_acts_649 X) ?_
  refine as_bipush (pc := 644) X dL_acts_644 (by decide) ?_
  exact as_goto (pc := 646) X 651 dL_acts_646 (by decide) (s_L_acts_651 X)
theorem s_L_acts_604 {G : am_G} {bc bs : Nat} (X : am_Cx G cL_acts RL "acts" rm_L_acts (some .boolean) 13 bc bs true) : am_S G 604 (t_L_acts_604) := by
  unfold t_L_acts_604
  exact as_zret (pc := 604) X ⟨rfl, rfl⟩ rfl dL_acts_604
theorem s_L_acts_603 {G : am_G} {bc bs : Nat} (X : am_Cx G cL_acts RL "acts" rm_L_acts (some .boolean) 13 bc bs true) : am_S G 603 (t_L_acts_603) := by
  unfold t_L_acts_603
  refine as_iconst (pc := 603) X dL_acts_603 (by decide) ?_
  exact s_L_acts_604 X
theorem s_L_acts_562 {G : am_G} {bc bs : Nat} (X : am_Cx G cL_acts RL "acts" rm_L_acts (some .boolean) 13 bc bs true) : am_S G 562 (t_L_acts_562) := by
  unfold t_L_acts_562
  refine as_aload_n (pc := 562) X dL_acts_562 rfl ?_
  refine as_bipush (pc := 563) X dL_acts_563 (by decide) ?_
  refine as_iald (pc := 565) X dL_acts_565 ?_
  refine as_bipush (pc := 566) X dL_acts_566 (by decide) ?_
  refine as_ic_ne (pc := 568) X 605 dL_acts_568 (by decide) (s_L_acts_605 X) ?_
  refine as_aload_n (pc := 571) X dL_acts_571 rfl ?_
  refine as_iconst (pc := 572) X dL_acts_572 (by decide) ?_
  refine as_iload (pc := 573) X dL_acts_573 ?_
  refine as_iload (pc := 575) X dL_acts_575 ?_
  refine as_callV (ci := 4) (np := 3) (ix := 76) (pc := 577) X ct_X4_correct (Cn := (RX4, TX4, 7)) rfl ⟨rfl, rfl⟩ aw_486 aw_487 aw_488 aw_489 aw_17 (by decide +kernel) (by decide) dL_acts_577 ?_
  refine as_iconst (pc := 580) X dL_acts_580 (by decide) ?_
  refine as_ic_ne (pc := 581) X 603 dL_acts_581 (by decide) (s_L_acts_603 X) ?_
  refine as_aload_n (pc := 584) X dL_acts_584 rfl ?_
  refine as_iconst (pc := 585) X dL_acts_585 (by decide) ?_
  refine as_iload (pc := 586) X dL_acts_586 ?_
  refine as_aload_n (pc := 588) X dL_acts_588 rfl ?_
  refine as_bipush (pc := 589) X dL_acts_589 (by decide) ?_
  refine as_iald (pc := 591) X dL_acts_591 ?_
  refine as_callV (ci := 4) (np := 3) (ix := 76) (pc := 592) X ct_X4_correct (Cn := (RX4, TX4, 7)) rfl ⟨rfl, rfl⟩ aw_486 aw_487 aw_488 aw_489 aw_17 (by decide +kernel) (by decide) dL_acts_592 ?_
  refine as_iconst (pc := 595) X dL_acts_595 (by decide) ?_
  refine as_ic_ne (pc := 596) X 603 dL_acts_596 (by decide) (s_L_acts_603 X) ?_
  refine as_iconst (pc := 599) X dL_acts_599 (by decide) ?_
  exact as_goto (pc := 600) X 604 dL_acts_600 (by decide) (s_L_acts_604 X)
theorem s_L_acts_561 {G : am_G} {bc bs : Nat} (X : am_Cx G cL_acts RL "acts" rm_L_acts (some .boolean) 13 bc bs true) : am_S G 561 (t_L_acts_561) := by
  unfold t_L_acts_561
  exact as_zret (pc := 561) X ⟨rfl, rfl⟩ rfl dL_acts_561
theorem s_L_acts_560 {G : am_G} {bc bs : Nat} (X : am_Cx G cL_acts RL "acts" rm_L_acts (some .boolean) 13 bc bs true) : am_S G 560 (t_L_acts_560) := by
  unfold t_L_acts_560
  refine as_iconst (pc := 560) X dL_acts_560 (by decide) ?_
  exact s_L_acts_561 X
theorem s_L_acts_534 {G : am_G} {bc bs : Nat} (X : am_Cx G cL_acts RL "acts" rm_L_acts (some .boolean) 13 bc bs true) : am_S G 534 (t_L_acts_534) := by
  unfold t_L_acts_534
  refine as_istore (pc := 534) X dL_acts_534 ?_ (by decide)
  refine as_iload (pc := 536) X dL_acts_536 ?_
  refine as_if_ne (pc := 538) X 562 dL_acts_538 (by decide) (s_L_acts_562 X) ?_
  refine as_aload_n (pc := 541) X dL_acts_541 rfl ?_
  refine as_iload (pc := 542) X dL_acts_542 ?_
  refine as_iload (pc := 544) X dL_acts_544 ?_
  refine as_iload (pc := 546) X dL_acts_546 ?_
  refine as_callV (ci := 4) (np := 3) (ix := 76) (pc := 548) X ct_X4_correct (Cn := (RX4, TX4, 7)) rfl ⟨rfl, rfl⟩ aw_486 aw_487 aw_488 aw_489 aw_17 (by decide +kernel) (by decide) dL_acts_548 ?_
  refine as_bipush (pc := 551) X dL_acts_551 (by decide) ?_
  refine as_ic_ne (pc := 553) X 560 dL_acts_553 (by decide) (s_L_acts_560 X) ?_
  refine as_iconst (pc := 556) X dL_acts_556 (by decide) ?_
  exact as_goto (pc := 557) X 561 dL_acts_557 (by decide) (s_L_acts_561 X)
theorem s_L_acts_533 {G : am_G} {bc bs : Nat} (X : am_Cx G cL_acts RL "acts" rm_L_acts (some .boolean) 13 bc bs true) : am_S G 533 (t_L_acts_533) := by
  unfold t_L_acts_533
  refine as_iconst (pc := 533) X dL_acts_533 (by decide) ?_
  exact s_L_acts_534 X
theorem s_L_acts_514 {G : am_G} {bc bs : Nat} (X : am_Cx G cL_acts RL "acts" rm_L_acts (some .boolean) 13 bc bs true) : am_S G 514 (t_L_acts_514) := by
  unfold t_L_acts_514
  refine as_aload_n (pc := 514) X dL_acts_514 rfl ?_
  refine as_aload (pc := 515) X dL_acts_515 ?_
  refine as_iload (pc := 517) X dL_acts_517 ?_
  refine as_iload (pc := 519) X dL_acts_519 ?_
  refine as_iload (pc := 521) X dL_acts_521 ?_
  refine as_callS (np := 5) (ix := 19) (pc := 523) X ct_L_told ⟨rfl, rfl⟩ aw_483 aw_484 aw_485 aw_16 (by decide +kernel) (by decide) dL_acts_523 ?_
  refine as_if_ge (pc := 526) X 533 dL_acts_526 (by decide) (s_L_acts_533 X) ?_
  refine as_iconst (pc := 529) X dL_acts_529 (by decide) ?_
  exact as_goto (pc := 530) X 534 dL_acts_530 (by decide) (s_L_acts_534 X)
theorem s_L_acts_470 {G : am_G} {bc bs : Nat} (X : am_Cx G cL_acts RL "acts" rm_L_acts (some .boolean) 13 bc bs true) : am_S G 470 (t_L_acts_470) := by
  unfold t_L_acts_470
  refine as_iload (pc := 470) X dL_acts_470 ?_
  refine as_bipush (pc := 472) X dL_acts_472 (by decide) ?_
  refine as_ic_ge (pc := 474) X 693 dL_acts_474 (by decide) (s_L_acts_693 X) ?_
  refine as_iload (pc := 477) X dL_acts_477 ?_
  refine as_bipush (pc := 479) X dL_acts_479 (by decide) ?_
  refine as_idiv (pc := 481) X dL_acts_481 ?_
  refine as_iconst (pc := 482) X dL_acts_482 (by decide) ?_
  refine as_irem (pc := 483) X dL_acts_483 ?_
  refine as_istore (pc := 484) X dL_acts_484 ?_ (by decide)
  refine as_iload (pc := 486) X dL_acts_486 ?_
  refine as_bipush (pc := 488) X dL_acts_488 (by decide) ?_
  refine as_idiv (pc := 490) X dL_acts_490 ?_
  refine as_aload_n (pc := 491) X dL_acts_491 rfl ?_
  refine as_bipush (pc := 492) X dL_acts_492 (by decide) ?_
  refine as_iald (pc := 494) X dL_acts_494 ?_
  refine as_irem (pc := 495) X dL_acts_495 ?_
  refine as_istore (pc := 496) X dL_acts_496 ?_ (by decide)
  refine as_iload (pc := 498) X dL_acts_498 ?_
  refine as_if_eq (pc := 500) X 514 dL_acts_500 (by decide) (s_L_acts_514 X) ?_
  refine as_aload_n (pc := 503) X dL_acts_503 rfl ?_
  refine as_iload (pc := 504) X dL_acts_504 ?_
  refine as_iload (pc := 506) X dL_acts_506 ?_
  refine as_callS (np := 3) (ix := 23) (pc := 508) X ct_L_ahead ⟨rfl, rfl⟩ aw_480 aw_481 aw_482 aw_16 (by decide +kernel) (by decide) dL_acts_508 ?_
  refine as_if_eq (pc := 511) X 533 dL_acts_511 (by decide) (s_L_acts_533 X) ?_
  exact s_L_acts_514 X
theorem s_L_acts_469 {G : am_G} {bc bs : Nat} (X : am_Cx G cL_acts RL "acts" rm_L_acts (some .boolean) 13 bc bs true) : am_S G 469 (t_L_acts_469) := by
  unfold t_L_acts_469
  exact as_zret (pc := 469) X ⟨rfl, rfl⟩ rfl dL_acts_469
theorem s_L_acts_468 {G : am_G} {bc bs : Nat} (X : am_Cx G cL_acts RL "acts" rm_L_acts (some .boolean) 13 bc bs true) : am_S G 468 (t_L_acts_468) := by
  unfold t_L_acts_468
  refine as_iconst (pc := 468) X dL_acts_468 (by decide) ?_
  exact s_L_acts_469 X
theorem s_L_acts_426 {G : am_G} {bc bs : Nat} (X : am_Cx G cL_acts RL "acts" rm_L_acts (some .boolean) 13 bc bs true) : am_S G 426 (t_L_acts_426) := by
  unfold t_L_acts_426
  refine as_iload (pc := 426) X dL_acts_426 ?_
  refine as_aload_n (pc := 428) X dL_acts_428 rfl ?_
  refine as_bipush (pc := 429) X dL_acts_429 (by decide) ?_
  refine as_iald (pc := 431) X dL_acts_431 ?_
  refine as_irem (pc := 432) X dL_acts_432 ?_
  refine as_istore (pc := 433) X dL_acts_433 ?_ (by decide)
  refine as_iload (pc := 435) X dL_acts_435 ?_
  refine as_bipush (pc := 437) X dL_acts_437 (by decide) ?_
  refine as_ic_ne (pc := 439) X 470 dL_acts_439 (by decide) (s_L_acts_470 X) ?_
  refine as_aload_n (pc := 442) X dL_acts_442 rfl ?_
  refine as_aload_n (pc := 443) X dL_acts_443 rfl ?_
  refine as_aload (pc := 444) X dL_acts_444 ?_
  refine as_iload (pc := 446) X dL_acts_446 ?_
  refine as_callS (np := 4) (ix := 68) (pc := 448) X ct_L_drops ⟨rfl, rfl⟩ aw_458 aw_459 aw_460 aw_16 (by decide +kernel) (by decide) dL_acts_448 ?_
  refine as_aload_n (pc := 451) X dL_acts_451 rfl ?_
  refine as_iload (pc := 452) X dL_acts_452 ?_
  refine as_callV (ci := 4) (np := 1) (ix := 72) (pc := 454) X ct_X4_drop (Cn := (RX4, TX4, 7)) rfl ⟨rfl, rfl⟩ aw_461 aw_462 aw_463 aw_464 aw_17 (by decide +kernel) (by decide) dL_acts_454 ?_
  refine as_aload_n (pc := 457) X dL_acts_457 rfl ?_
  refine as_bipush (pc := 458) X dL_acts_458 (by decide) ?_
  refine as_iald (pc := 460) X dL_acts_460 ?_
  refine as_ic_ne (pc := 461) X 468 dL_acts_461 (by decide) (s_L_acts_468 X) ?_
  refine as_iconst (pc := 464) X dL_acts_464 (by decide) ?_
  exact as_goto (pc := 465) X 469 dL_acts_465 (by decide) (s_L_acts_469 X)
theorem s_L_acts_425 {G : am_G} {bc bs : Nat} (X : am_Cx G cL_acts RL "acts" rm_L_acts (some .boolean) 13 bc bs true) : am_S G 425 (t_L_acts_425) := by
  unfold t_L_acts_425
  exact as_zret (pc := 425) X ⟨rfl, rfl⟩ rfl dL_acts_425
theorem s_L_acts_424 {G : am_G} {bc bs : Nat} (X : am_Cx G cL_acts RL "acts" rm_L_acts (some .boolean) 13 bc bs true) : am_S G 424 (t_L_acts_424) := by
  unfold t_L_acts_424
  refine as_iconst (pc := 424) X dL_acts_424 (by decide) ?_
  exact s_L_acts_425 X
theorem s_L_acts_335 {G : am_G} {bc bs : Nat} (X : am_Cx G cL_acts RL "acts" rm_L_acts (some .boolean) 13 bc bs true) : am_S G 335 (t_L_acts_335) := by
  unfold t_L_acts_335
  refine as_iast (pc := 335) X dL_acts_335 ?_
  refine as_aload_n (pc := 336) X dL_acts_336 rfl ?_
  refine as_iload (pc := 337) X dL_acts_337 ?_
  refine as_iconst (pc := 339) X dL_acts_339 (by decide) ?_
  refine as_iadd (pc := 340) X dL_acts_340 ?_
  refine as_iload (pc := 341) X dL_acts_341 ?_
  refine as_bipush (pc := 343) X dL_acts_343 (by decide) ?_
  refine as_idiv (pc := 345) X dL_acts_345 ?_
  refine as_iconst (pc := 346) X dL_acts_346 (by decide) ?_
  refine as_irem (pc := 347) X dL_acts_347 ?_
  refine as_iast (pc := 348) X dL_acts_348 ?_
  refine as_aload_n (pc := 349) X dL_acts_349 rfl ?_
  refine as_iload (pc := 350) X dL_acts_350 ?_
  refine as_iconst (pc := 352) X dL_acts_352 (by decide) ?_
  refine as_iadd (pc := 353) X dL_acts_353 ?_
  refine as_iload (pc := 354) X dL_acts_354 ?_
  refine as_bipush (pc := 356) X dL_acts_356 (by decide) ?_
  refine as_idiv (pc := 358) X dL_acts_358 ?_
  refine as_bipush (pc := 359) X dL_acts_359 (by decide) ?_
  refine as_irem (pc := 361) X dL_acts_361 ?_
  refine as_iast (pc := 362) X dL_acts_362 ?_
  refine as_aload_n (pc := 363) X dL_acts_363 rfl ?_
  refine as_iload (pc := 364) X dL_acts_364 ?_
  refine as_iconst (pc := 366) X dL_acts_366 (by decide) ?_
  refine as_iadd (pc := 367) X dL_acts_367 ?_
  refine as_iload (pc := 368) X dL_acts_368 ?_
  refine as_bipush (pc := 370) X dL_acts_370 (by decide) ?_
  refine as_idiv (pc := 372) X dL_acts_372 ?_
  refine as_bipush (pc := 373) X dL_acts_373 (by decide) ?_
  refine as_irem (pc := 375) X dL_acts_375 ?_
  refine as_iast (pc := 376) X dL_acts_376 ?_
  refine as_aload_n (pc := 377) X dL_acts_377 rfl ?_
  refine as_bipush (pc := 378) X dL_acts_378 (by decide) ?_
  refine as_dup2 (pc := 380) X dL_acts_380 ?_
  refine as_iald (pc := 381) X dL_acts_381 ?_
  refine as_iconst (pc := 382) X dL_acts_382 (by decide) ?_
  refine as_iadd (pc := 383) X dL_acts_383 ?_
  refine as_iast (pc := 384) X dL_acts_384 ?_
  refine as_aload_n (pc := 385) X dL_acts_385 rfl ?_
  refine as_aload_n (pc := 386) X dL_acts_386 rfl ?_
  refine as_iload (pc := 387) X dL_acts_387 ?_
  refine as_iald (pc := 389) X dL_acts_389 ?_
  refine as_aload_n (pc := 390) X dL_acts_390 rfl ?_
  refine as_iload (pc := 391) X dL_acts_391 ?_
  refine as_iconst (pc := 393) X dL_acts_393 (by decide) ?_
  refine as_iadd (pc := 394) X dL_acts_394 ?_
  refine as_iald (pc := 395) X dL_acts_395 ?_
  refine as_aload_n (pc := 396) X dL_acts_396 rfl ?_
  refine as_iload (pc := 397) X dL_acts_397 ?_
  refine as_iconst (pc := 399) X dL_acts_399 (by decide) ?_
  refine as_iadd (pc := 400) X dL_acts_400 ?_
  refine as_iald (pc := 401) X dL_acts_401 ?_
  refine as_aload_n (pc := 402) X dL_acts_402 rfl ?_
  refine as_iload (pc := 403) X dL_acts_403 ?_
  refine as_iconst (pc := 405) X dL_acts_405 (by decide) ?_
  refine as_iadd (pc := 406) X dL_acts_406 ?_
  refine as_iald (pc := 407) X dL_acts_407 ?_
  refine as_callV (ci := 4) (np := 4) (ix := 62) (pc := 408) X ct_X4_line (Cn := (RX4, TX4, 7)) rfl ⟨rfl, rfl⟩ aw_444 aw_445 aw_446 aw_447 aw_17 (by decide +kernel) (by decide) dL_acts_408 ?_
  refine as_aload_n (pc := 411) X dL_acts_411 rfl ?_
  refine as_bipush (pc := 412) X dL_acts_412 (by decide) ?_
  refine as_iald (pc := 414) X dL_acts_414 ?_
  refine as_iconst (pc := 415) X dL_acts_415 (by decide) ?_
  refine as_isub (pc := 416) X dL_acts_416 ?_
  refine as_ic_ne (pc := 417) X 424 dL_acts_417 (by decide) (s_L_acts_424 X) ?_
  refine as_iconst (pc := 420) X dL_acts_420 (by decide) ?_
  exact as_goto (pc := 421) X 425 dL_acts_421 (by decide) (s_L_acts_425 X)
theorem s_L_acts_327 {G : am_G} {bc bs : Nat} (X : am_Cx G cL_acts RL "acts" rm_L_acts (some .boolean) 13 bc bs true) : am_S G 327 (t_L_acts_327) := by
  unfold t_L_acts_327
  refine as_iload (pc := 327) X dL_acts_327 ?_
  refine as_iconst (pc := 329) X dL_acts_329 (by decide) ?_
  refine as_idiv (pc := 330) X dL_acts_330 ?_
  refine as_sipush (pc := 331) X dL_acts_331 (by decide) ?_
  refine as_irem (pc := 334) X dL_acts_334 ?_
  exact s_L_acts_335 X
theorem s_L_acts_299 {G : am_G} {bc bs : Nat} (X : am_Cx G cL_acts RL "acts" rm_L_acts (some .boolean) 13 bc bs true) : am_S G 299 (t_L_acts_299) := by
  unfold t_L_acts_299
  refine as_iconst (pc := 299) X dL_acts_299 (by decide) ?_
  refine as_aload_n (pc := 300) X dL_acts_300 rfl ?_
  refine as_bipush (pc := 301) X dL_acts_301 (by decide) ?_
  refine as_iald (pc := 303) X dL_acts_303 ?_
  refine as_imul (pc := 304) X dL_acts_304 ?_
  refine as_istore (pc := 305) X dL_acts_305 ?_ (by decide)
  refine as_aload_n (pc := 307) X dL_acts_307 rfl ?_
  refine as_iload (pc := 308) X dL_acts_308 ?_
  refine as_iload (pc := 310) X dL_acts_310 ?_
  refine as_iconst (pc := 312) X dL_acts_312 (by decide) ?_
  refine as_irem (pc := 313) X dL_acts_313 ?_
  refine as_if_ne (pc := 314) X 327 dL_acts_314 (by decide) (s_L_acts_327 X) ?_
  refine as_iload (pc := 317) X dL_acts_317 ?_
  refine as_iconst (pc := 319) X dL_acts_319 (by decide) ?_
  refine as_idiv (pc := 320) X dL_acts_320 ?_
  refine as_ldc (pc := 321) X dL_acts_321 aw_457 ?_
  refine as_irem (pc := 323) X dL_acts_323 ?_
  exact as_goto (pc := 324) X 335 dL_acts_324 (by decide) (s_L_acts_335 X)
theorem s_L_acts_298 {G : am_G} {bc bs : Nat} (X : am_Cx G cL_acts RL "acts" rm_L_acts (some .boolean) 13 bc bs true) : am_S G 298 (t_L_acts_298) := by
  unfold t_L_acts_298
  exact as_zret (pc := 298) X ⟨rfl, rfl⟩ rfl dL_acts_298
theorem s_L_acts_297 {G : am_G} {bc bs : Nat} (X : am_Cx G cL_acts RL "acts" rm_L_acts (some .boolean) 13 bc bs true) : am_S G 297 (t_L_acts_297) := by
  unfold t_L_acts_297
  refine as_iconst (pc := 297) X dL_acts_297 (by decide) ?_
  exact s_L_acts_298 X
theorem s_L_acts_258 {G : am_G} {bc bs : Nat} (X : am_Cx G cL_acts RL "acts" rm_L_acts (some .boolean) 13 bc bs true) : am_S G 258 (t_L_acts_258) := by
  unfold t_L_acts_258
  refine as_aload_n (pc := 258) X dL_acts_258 rfl ?_
  refine as_bipush (pc := 259) X dL_acts_259 (by decide) ?_
  refine as_iald (pc := 261) X dL_acts_261 ?_
  refine as_bipush (pc := 262) X dL_acts_262 (by decide) ?_
  refine as_ic_ne (pc := 264) X 299 dL_acts_264 (by decide) (s_L_acts_299 X) ?_
  refine as_aload_n (pc := 267) X dL_acts_267 rfl ?_
  refine as_iconst (pc := 268) X dL_acts_268 (by decide) ?_
  refine as_bipush (pc := 269) X dL_acts_269 (by decide) ?_
  refine as_iconst (pc := 271) X dL_acts_271 (by decide) ?_
  refine as_iconst (pc := 272) X dL_acts_272 (by decide) ?_
  refine as_callV (ci := 4) (np := 4) (ix := 62) (pc := 273) X ct_X4_line (Cn := (RX4, TX4, 7)) rfl ⟨rfl, rfl⟩ aw_444 aw_445 aw_446 aw_447 aw_17 (by decide +kernel) (by decide) dL_acts_273 ?_
  refine as_iconst (pc := 276) X dL_acts_276 (by decide) ?_
  refine as_ic_ne (pc := 277) X 297 dL_acts_277 (by decide) (s_L_acts_297 X) ?_
  refine as_aload_n (pc := 280) X dL_acts_280 rfl ?_
  refine as_iconst (pc := 281) X dL_acts_281 (by decide) ?_
  refine as_iconst (pc := 282) X dL_acts_282 (by decide) ?_
  refine as_ldc (pc := 283) X dL_acts_283 aw_456 ?_
  refine as_iconst (pc := 285) X dL_acts_285 (by decide) ?_
  refine as_callV (ci := 4) (np := 4) (ix := 62) (pc := 286) X ct_X4_line (Cn := (RX4, TX4, 7)) rfl ⟨rfl, rfl⟩ aw_444 aw_445 aw_446 aw_447 aw_17 (by decide +kernel) (by decide) dL_acts_286 ?_
  refine as_iconst (pc := 289) X dL_acts_289 (by decide) ?_
  refine as_ic_ne (pc := 290) X 297 dL_acts_290 (by decide) (s_L_acts_297 X) ?_
  refine as_iconst (pc := 293) X dL_acts_293 (by decide) ?_
  exact as_goto (pc := 294) X 298 dL_acts_294 (by decide) (s_L_acts_298 X)
theorem s_L_acts_244 {G : am_G} {bc bs : Nat} (X : am_Cx G cL_acts RL "acts" rm_L_acts (some .boolean) 13 bc bs true) : am_S G 244 (t_L_acts_244) := by
  unfold t_L_acts_244
  refine as_iload (pc := 244) X dL_acts_244 ?_
  refine as_bipush (pc := 246) X dL_acts_246 (by decide) ?_
  refine as_ic_lt (pc := 248) X 258 dL_acts_248 (by decide) (s_L_acts_258 X) ?_
  refine as_aload_n (pc := 251) X dL_acts_251 rfl ?_
  refine as_bipush (pc := 252) X dL_acts_252 (by decide) ?_
  refine as_iald (pc := 254) X dL_acts_254 ?_
  refine as_if_ne (pc := 255) X 426 dL_acts_255 (by decide) (s_L_acts_426 X) ?_
  exact s_L_acts_258 X
theorem s_L_acts_243 {G : am_G} {bc bs : Nat} (X : am_Cx G cL_acts RL "acts" rm_L_acts (some .boolean) 13 bc bs true) : am_S G 243 (t_L_acts_243) := by
  unfold t_L_acts_243
  exact as_zret (pc := 243) X ⟨rfl, rfl⟩ rfl dL_acts_243
theorem s_L_acts_242 {G : am_G} {bc bs : Nat} (X : am_Cx G cL_acts RL "acts" rm_L_acts (some .boolean) 13 bc bs true) : am_S G 242 (t_L_acts_242) := by
  unfold t_L_acts_242
  refine as_iconst (pc := 242) X dL_acts_242 (by decide) ?_
  exact s_L_acts_243 X
theorem s_L_acts_179 {G : am_G} {bc bs : Nat} (X : am_Cx G cL_acts RL "acts" rm_L_acts (some .boolean) 13 bc bs true) : am_S G 179 (t_L_acts_179) := by
  unfold t_L_acts_179
  refine as_aload_n (pc := 179) X dL_acts_179 rfl ?_
  refine as_iconst (pc := 180) X dL_acts_180 (by decide) ?_
  refine as_aload_n (pc := 181) X dL_acts_181 rfl ?_
  refine as_bipush (pc := 182) X dL_acts_182 (by decide) ?_
  refine as_iald (pc := 184) X dL_acts_184 ?_
  refine as_imul (pc := 185) X dL_acts_185 ?_
  refine as_iload (pc := 186) X dL_acts_186 ?_
  refine as_iast (pc := 188) X dL_acts_188 ?_
  refine as_aload_n (pc := 189) X dL_acts_189 rfl ?_
  refine as_iconst (pc := 190) X dL_acts_190 (by decide) ?_
  refine as_aload_n (pc := 191) X dL_acts_191 rfl ?_
  refine as_bipush (pc := 192) X dL_acts_192 (by decide) ?_
  refine as_iald (pc := 194) X dL_acts_194 ?_
  refine as_imul (pc := 195) X dL_acts_195 ?_
  refine as_iconst (pc := 196) X dL_acts_196 (by decide) ?_
  refine as_iadd (pc := 197) X dL_acts_197 ?_
  refine as_iload (pc := 198) X dL_acts_198 ?_
  refine as_iast (pc := 200) X dL_acts_200 ?_
  refine as_aload_n (pc := 201) X dL_acts_201 rfl ?_
  refine as_iconst (pc := 202) X dL_acts_202 (by decide) ?_
  refine as_aload_n (pc := 203) X dL_acts_203 rfl ?_
  refine as_bipush (pc := 204) X dL_acts_204 (by decide) ?_
  refine as_iald (pc := 206) X dL_acts_206 ?_
  refine as_imul (pc := 207) X dL_acts_207 ?_
  refine as_iconst (pc := 208) X dL_acts_208 (by decide) ?_
  refine as_iadd (pc := 209) X dL_acts_209 ?_
  refine as_iload (pc := 210) X dL_acts_210 ?_
  refine as_iast (pc := 212) X dL_acts_212 ?_
  refine as_aload_n (pc := 213) X dL_acts_213 rfl ?_
  refine as_bipush (pc := 214) X dL_acts_214 (by decide) ?_
  refine as_dup2 (pc := 216) X dL_acts_216 ?_
  refine as_iald (pc := 217) X dL_acts_217 ?_
  refine as_iconst (pc := 218) X dL_acts_218 (by decide) ?_
  refine as_iadd (pc := 219) X dL_acts_219 ?_
  refine as_iast (pc := 220) X dL_acts_220 ?_
  refine as_aload_n (pc := 221) X dL_acts_221 rfl ?_
  refine as_iload (pc := 222) X dL_acts_222 ?_
  refine as_iload (pc := 224) X dL_acts_224 ?_
  refine as_iload (pc := 226) X dL_acts_226 ?_
  refine as_callV (ci := 4) (np := 3) (ix := 56) (pc := 228) X ct_X4_takes (Cn := (RX4, TX4, 7)) rfl ⟨rfl, rfl⟩ aw_415 aw_416 aw_417 aw_418 aw_17 (by decide +kernel) (by decide) dL_acts_228 ?_
  refine as_aload_n (pc := 231) X dL_acts_231 rfl ?_
  refine as_bipush (pc := 232) X dL_acts_232 (by decide) ?_
  refine as_iald (pc := 234) X dL_acts_234 ?_
  refine as_ic_ne (pc := 235) X 242 dL_acts_235 (by decide) (s_L_acts_242 X) ?_
  refine as_iconst (pc := 238) X dL_acts_238 (by decide) ?_
  exact as_goto (pc := 239) X 243 dL_acts_239 (by decide) (s_L_acts_243 X)
theorem s_L_acts_178 {G : am_G} {bc bs : Nat} (X : am_Cx G cL_acts RL "acts" rm_L_acts (some .boolean) 13 bc bs true) : am_S G 178 (t_L_acts_178) := by
  unfold t_L_acts_178
  exact as_zret (pc := 178) X ⟨rfl, rfl⟩ rfl dL_acts_178
theorem s_L_acts_177 {G : am_G} {bc bs : Nat} (X : am_Cx G cL_acts RL "acts" rm_L_acts (some .boolean) 13 bc bs true) : am_S G 177 (t_L_acts_177) := by
  unfold t_L_acts_177
  refine as_iconst (pc := 177) X dL_acts_177 (by decide) ?_
  exact s_L_acts_178 X
theorem s_L_acts_173 {G : am_G} {bc bs : Nat} (X : am_Cx G cL_acts RL "acts" rm_L_acts (some .boolean) 13 bc bs true) : am_S G 173 (t_L_acts_173) := by
  unfold t_L_acts_173
  refine as_iconst (pc := 173) X dL_acts_173 (by decide) ?_
  exact as_goto (pc := 174) X 178 dL_acts_174 (by decide) (s_L_acts_178 X)
theorem s_L_acts_137 {G : am_G} {bc bs : Nat} (X : am_Cx G cL_acts RL "acts" rm_L_acts (some .boolean) 13 bc bs true) : am_S G 137 (t_L_acts_137) := by
  unfold t_L_acts_137
  refine as_aload_n (pc := 137) X dL_acts_137 rfl ?_
  refine as_iload (pc := 138) X dL_acts_138 ?_
  refine as_bipush (pc := 140) X dL_acts_140 (by decide) ?_
  refine as_iload (pc := 142) X dL_acts_142 ?_
  refine as_callV (ci := 4) (np := 3) (ix := 56) (pc := 144) X ct_X4_takes (Cn := (RX4, TX4, 7)) rfl ⟨rfl, rfl⟩ aw_415 aw_416 aw_417 aw_418 aw_17 (by decide +kernel) (by decide) dL_acts_144 ?_
  refine as_iconst (pc := 147) X dL_acts_147 (by decide) ?_
  refine as_ic_ne (pc := 148) X 177 dL_acts_148 (by decide) (s_L_acts_177 X) ?_
  refine as_iload (pc := 151) X dL_acts_151 ?_
  refine as_if_eq (pc := 153) X 173 dL_acts_153 (by decide) (s_L_acts_173 X) ?_
  refine as_aload_n (pc := 156) X dL_acts_156 rfl ?_
  refine as_iload (pc := 157) X dL_acts_157 ?_
  refine as_iload (pc := 159) X dL_acts_159 ?_
  refine as_iload (pc := 161) X dL_acts_161 ?_
  refine as_iconst (pc := 163) X dL_acts_163 (by decide) ?_
  refine as_isub (pc := 164) X dL_acts_164 ?_
  refine as_callV (ci := 4) (np := 3) (ix := 56) (pc := 165) X ct_X4_takes (Cn := (RX4, TX4, 7)) rfl ⟨rfl, rfl⟩ aw_415 aw_416 aw_417 aw_418 aw_17 (by decide +kernel) (by decide) dL_acts_165 ?_
  refine as_bipush (pc := 168) X dL_acts_168 (by decide) ?_
  refine as_ic_ne (pc := 170) X 177 dL_acts_170 (by decide) (s_L_acts_177 X) ?_
  exact s_L_acts_173 X
theorem s_L_acts_121 {G : am_G} {bc bs : Nat} (X : am_Cx G cL_acts RL "acts" rm_L_acts (some .boolean) 13 bc bs true) : am_S G 121 (t_L_acts_121) := by
  unfold t_L_acts_121
  refine as_aload_n (pc := 121) X dL_acts_121 rfl ?_
  refine as_bipush (pc := 122) X dL_acts_122 (by decide) ?_
  refine as_iald (pc := 124) X dL_acts_124 ?_
  refine as_bipush (pc := 125) X dL_acts_125 (by decide) ?_
  refine as_ic_eq (pc := 127) X 137 dL_acts_127 (by decide) (s_L_acts_137 X) ?_
  refine as_iload (pc := 130) X dL_acts_130 ?_
  refine as_ldc (pc := 132) X dL_acts_132 aw_443 ?_
  refine as_ic_le (pc := 134) X 179 dL_acts_134 (by decide) (s_L_acts_179 X) ?_
  exact s_L_acts_137 X
theorem s_L_acts_120 {G : am_G} {bc bs : Nat} (X : am_Cx G cL_acts RL "acts" rm_L_acts (some .boolean) 13 bc bs true) : am_S G 120 (t_L_acts_120) := by
  unfold t_L_acts_120
  exact as_zret (pc := 120) X ⟨rfl, rfl⟩ rfl dL_acts_120
theorem s_L_acts_119 {G : am_G} {bc bs : Nat} (X : am_Cx G cL_acts RL "acts" rm_L_acts (some .boolean) 13 bc bs true) : am_S G 119 (t_L_acts_119) := by
  unfold t_L_acts_119
  refine as_iconst (pc := 119) X dL_acts_119 (by decide) ?_
  exact s_L_acts_120 X
theorem s_L_acts_62 {G : am_G} {bc bs : Nat} (X : am_Cx G cL_acts RL "acts" rm_L_acts (some .boolean) 13 bc bs true) : am_S G 62 (t_L_acts_62) := by
  unfold t_L_acts_62
  refine as_istore (pc := 62) X dL_acts_62 ?_ (by decide)
  refine as_iload (pc := 64) X dL_acts_64 ?_
  refine as_iload (pc := 66) X dL_acts_66 ?_
  refine as_bipush (pc := 68) X dL_acts_68 (by decide) ?_
  refine as_idiv (pc := 70) X dL_acts_70 ?_
  refine as_bipush (pc := 71) X dL_acts_71 (by decide) ?_
  refine as_irem (pc := 73) X dL_acts_73 ?_
  refine as_iadd (pc := 74) X dL_acts_74 ?_
  refine as_istore (pc := 75) X dL_acts_75 ?_ (by decide)
  refine as_aload_n (pc := 77) X dL_acts_77 rfl ?_
  refine as_aload_n (pc := 78) X dL_acts_78 rfl ?_
  refine as_iload (pc := 79) X dL_acts_79 ?_
  refine as_iload (pc := 81) X dL_acts_81 ?_
  refine as_callS (np := 4) (ix := 53) (pc := 83) X ct_L_has ⟨rfl, rfl⟩ aw_409 aw_410 aw_411 aw_16 (by decide +kernel) (by decide) dL_acts_83 ?_
  refine as_istore (pc := 86) X dL_acts_86 ?_ (by decide)
  refine as_iload (pc := 88) X dL_acts_88 ?_
  refine as_if_lt (pc := 90) X 121 dL_acts_90 (by decide) (s_L_acts_121 X) ?_
  refine as_iload (pc := 93) X dL_acts_93 ?_
  refine as_iload (pc := 95) X dL_acts_95 ?_
  refine as_ic_eq (pc := 97) X 121 dL_acts_97 (by decide) (s_L_acts_121 X) ?_
  refine as_aload_n (pc := 100) X dL_acts_100 rfl ?_
  refine as_iload (pc := 101) X dL_acts_101 ?_
  refine as_iload (pc := 103) X dL_acts_103 ?_
  refine as_iload (pc := 105) X dL_acts_105 ?_
  refine as_callV (ci := 4) (np := 3) (ix := 56) (pc := 107) X ct_X4_takes (Cn := (RX4, TX4, 7)) rfl ⟨rfl, rfl⟩ aw_415 aw_416 aw_417 aw_418 aw_17 (by decide +kernel) (by decide) dL_acts_107 ?_
  refine as_bipush (pc := 110) X dL_acts_110 (by decide) ?_
  refine as_ic_ne (pc := 112) X 119 dL_acts_112 (by decide) (s_L_acts_119 X) ?_
  refine as_iconst (pc := 115) X dL_acts_115 (by decide) ?_
  exact as_goto (pc := 116) X 120 dL_acts_116 (by decide) (s_L_acts_120 X)
theorem s_L_acts_52 {G : am_G} {bc bs : Nat} (X : am_Cx G cL_acts RL "acts" rm_L_acts (some .boolean) 13 bc bs true) : am_S G 52 (t_L_acts_52) := by
  unfold t_L_acts_52
  refine as_aload_n (pc := 52) X dL_acts_52 rfl ?_
  refine as_iconst (pc := 53) X dL_acts_53 (by decide) ?_
  refine as_aload_n (pc := 54) X dL_acts_54 rfl ?_
  refine as_bipush (pc := 55) X dL_acts_55 (by decide) ?_
  refine as_iald (pc := 57) X dL_acts_57 ?_
  refine as_imul (pc := 58) X dL_acts_58 ?_
  refine as_iconst (pc := 59) X dL_acts_59 (by decide) ?_
  refine as_isub (pc := 60) X dL_acts_60 ?_
  refine as_iald (pc := 61) X dL_acts_61 ?_
  exact s_L_acts_62 X
theorem s_L_acts_0 {G : am_G} {bc bs : Nat} (X : am_Cx G cL_acts RL "acts" rm_L_acts (some .boolean) 13 bc bs true) : am_S G 0 (t_L_acts_0) := by
  unfold t_L_acts_0
  refine as_iload (pc := 0) X dL_acts_0 ?_
  refine as_iconst (pc := 2) X dL_acts_2 (by decide) ?_
  refine as_ishr (pc := 3) X dL_acts_3 ?_
  refine as_ldc (pc := 4) X dL_acts_4 aw_408 ?_
  refine as_callS (np := 2) (ix := 49) (pc := 6) X ct_L_low ⟨rfl, rfl⟩ aw_401 aw_402 aw_403 aw_16 (by decide +kernel) (by decide) dL_acts_6 ?_
  refine as_istore (pc := 9) X dL_acts_9 ?_ (by decide)
  refine as_iload (pc := 11) X dL_acts_11 ?_
  refine as_bipush (pc := 13) X dL_acts_13 (by decide) ?_
  refine as_callS (np := 2) (ix := 49) (pc := 15) X ct_L_low ⟨rfl, rfl⟩ aw_401 aw_402 aw_403 aw_16 (by decide +kernel) (by decide) dL_acts_15 ?_
  refine as_istore (pc := 18) X dL_acts_18 ?_ (by decide)
  refine as_iload (pc := 20) X dL_acts_20 ?_
  refine as_iconst (pc := 22) X dL_acts_22 (by decide) ?_
  refine as_ic_ge (pc := 23) X 244 dL_acts_23 (by decide) (s_L_acts_244 X) ?_
  refine as_iload (pc := 26) X dL_acts_26 ?_
  refine as_iconst (pc := 28) X dL_acts_28 (by decide) ?_
  refine as_irem (pc := 29) X dL_acts_29 ?_
  refine as_istore (pc := 30) X dL_acts_30 ?_ (by decide)
  refine as_iload (pc := 32) X dL_acts_32 ?_
  refine as_iconst (pc := 34) X dL_acts_34 (by decide) ?_
  refine as_idiv (pc := 35) X dL_acts_35 ?_
  refine as_bipush (pc := 36) X dL_acts_36 (by decide) ?_
  refine as_irem (pc := 38) X dL_acts_38 ?_
  refine as_istore (pc := 39) X dL_acts_39 ?_ (by decide)
  refine as_aload_n (pc := 41) X dL_acts_41 rfl ?_
  refine as_bipush (pc := 42) X dL_acts_42 (by decide) ?_
  refine as_iald (pc := 44) X dL_acts_44 ?_
  refine as_if_ne (pc := 45) X 52 dL_acts_45 (by decide) (s_L_acts_52 X) ?_
  refine as_iconst (pc := 48) X dL_acts_48 (by decide) ?_
  exact as_goto (pc := 49) X 62 dL_acts_49 (by decide) (s_L_acts_62 X)
theorem s_L_acts {G : am_G} {bc bs : Nat} (X : am_Cx G cL_acts RL "acts" rm_L_acts (some .boolean) 13 bc bs true) (h : Nat) : am_S G h (h_L_acts h) := by
  unfold h_L_acts
  split
  · next e => rw [e]; exact s_L_acts_0 X
  exact as_bad
theorem ct_L_acts : am_Ct yL_acts cL_acts 13 (some .boolean) rm_L_acts sp_L_acts := am_met (own := RL) (nm := "acts") (by decide) rfl rfl (Or.inr (Or.inr (Or.inl rfl))) (fun _ _ => h_L_acts) (fun _ _ _ X => s_L_acts X) (fun _ _ _ _ h => h)
-- X4_whoHas
theorem dX4_whoHas_0 : decode cX4_whoHas 0 = .ok (.iload_n 1, 1) := by decide +kernel
theorem dX4_whoHas_1 : decode cX4_whoHas 1 = .ok (.invokestatic 49, 3) := by decide +kernel
theorem dX4_whoHas_4 : decode cX4_whoHas 4 = .ok (.ifCond .eq 10, 3) := by decide +kernel
theorem dX4_whoHas_7 : decode cX4_whoHas 7 = .ok (.iload_n 2, 1) := by decide +kernel
theorem dX4_whoHas_8 : decode cX4_whoHas 8 = .ok (.invokestatic 52, 3) := by decide +kernel
theorem dX4_whoHas_11 : decode cX4_whoHas 11 = .ok (.ifCond .ne 5, 3) := by decide +kernel
theorem dX4_whoHas_14 : decode cX4_whoHas 14 = .ok (.iconst (-1), 1) := by decide +kernel
theorem dX4_whoHas_15 : decode cX4_whoHas 15 = .ok (.ireturn, 1) := by decide +kernel
theorem dX4_whoHas_16 : decode cX4_whoHas 16 = .ok (.aload_n 0, 1) := by decide +kernel
theorem dX4_whoHas_17 : decode cX4_whoHas 17 = .ok (.getfield 20, 3) := by decide +kernel
theorem dX4_whoHas_20 : decode cX4_whoHas 20 = .ok (.iload_n 1, 1) := by decide +kernel
theorem dX4_whoHas_21 : decode cX4_whoHas 21 = .ok (.iload_n 2, 1) := by decide +kernel
theorem dX4_whoHas_22 : decode cX4_whoHas 22 = .ok (.invokevirtual 55, 3) := by decide +kernel
theorem dX4_whoHas_25 : decode cX4_whoHas 25 = .ok (.invokestatic 79, 3) := by decide +kernel
theorem dX4_whoHas_28 : decode cX4_whoHas 28 = .ok (.ireturn, 1) := by decide +kernel
def t_X4_whoHas_16 : am_T := tb_aload 0 <|
  tb_getR 4 1 <|
  tb_iload 1 <|
  tb_iload 2 <|
  tb_callV 1 sp_X1_holderAt 3 <|
  tb_callS sp_X4_orNotFound 1 <|
  tb_iret
def t_X4_whoHas_14 : am_T := tb_const (-1) <|
  tb_iret
def t_X4_whoHas_0 : am_T := tb_iload 1 <|
  tb_callS sp_X4_isName 1 <|
  tb_if (fun x => x = 0) (t_X4_whoHas_14) <|
  tb_iload 2 <|
  tb_callS sp_X4_isTime 1 <|
  tb_if (fun x => x ≠ 0) (t_X4_whoHas_16) <|
  t_X4_whoHas_14
def h_X4_whoHas : am_Hd := fun h => if h = 0 then t_X4_whoHas_0 else tb_bad
theorem h_X4_whoHas_0 : h_X4_whoHas 0 = t_X4_whoHas_0 := rfl
def rm_X4_whoHas : Room := { frames := 2, cells := 0, slots := 0, locals := 46 }
def sp_X4_whoHas : am_sp := fun as M Q => as.length ≤ 3 ∧ am_OK h_X4_whoHas Q 0 (am_in 3 as) M
theorem s_X4_whoHas_16 {G : am_G} {bc bs : Nat} (X : am_Cx G cX4_whoHas RX4 "whoHas" rm_X4_whoHas (some .int) 3 bc bs true) : am_S G 16 (t_X4_whoHas_16) := by
  unfold t_X4_whoHas_16
  refine as_aload_n (pc := 16) X dX4_whoHas_16 rfl ?_
  refine as_getR (ci := 4) (j := 1) (pc := 17) X (Cn := RX4) (Tf := TX4) (N := 7) rfl rfl (by decide) iw_X4 aw_225 rfl dX4_whoHas_17 ?_
  refine as_iload_n (pc := 20) X dX4_whoHas_20 rfl ?_
  refine as_iload_n (pc := 21) X dX4_whoHas_21 rfl ?_
  refine as_callV (ci := 1) (np := 2) (ix := 55) (pc := 22) X ct_X1_holderAt (Cn := (RX1, TX1, 14)) rfl ⟨rfl, rfl⟩ aw_271 aw_272 aw_273 aw_274 aw_19 (by decide +kernel) (by decide) dX4_whoHas_22 ?_
  refine as_callS (np := 1) (ix := 79) (pc := 25) X ct_X4_orNotFound ⟨rfl, rfl⟩ aw_261 aw_262 aw_263 aw_17 (by decide +kernel) (by decide) dX4_whoHas_25 ?_
  exact as_iret (pc := 28) X ⟨rfl, rfl⟩ rfl dX4_whoHas_28
theorem s_X4_whoHas_14 {G : am_G} {bc bs : Nat} (X : am_Cx G cX4_whoHas RX4 "whoHas" rm_X4_whoHas (some .int) 3 bc bs true) : am_S G 14 (t_X4_whoHas_14) := by
  unfold t_X4_whoHas_14
  refine as_iconst (pc := 14) X dX4_whoHas_14 (by decide) ?_
  exact as_iret (pc := 15) X ⟨rfl, rfl⟩ rfl dX4_whoHas_15
theorem s_X4_whoHas_0 {G : am_G} {bc bs : Nat} (X : am_Cx G cX4_whoHas RX4 "whoHas" rm_X4_whoHas (some .int) 3 bc bs true) : am_S G 0 (t_X4_whoHas_0) := by
  unfold t_X4_whoHas_0
  refine as_iload_n (pc := 0) X dX4_whoHas_0 rfl ?_
  refine as_callS (np := 1) (ix := 49) (pc := 1) X ct_X4_isName ⟨rfl, rfl⟩ aw_268 aw_269 aw_270 aw_17 (by decide +kernel) (by decide) dX4_whoHas_1 ?_
  refine as_if_eq (pc := 4) X 14 dX4_whoHas_4 (by decide) (s_X4_whoHas_14 X) ?_
  refine as_iload_n (pc := 7) X dX4_whoHas_7 rfl ?_
  refine as_callS (np := 1) (ix := 52) (pc := 8) X ct_X4_isTime ⟨rfl, rfl⟩ aw_253 aw_254 aw_255 aw_17 (by decide +kernel) (by decide) dX4_whoHas_8 ?_
  refine as_if_ne (pc := 11) X 16 dX4_whoHas_11 (by decide) (s_X4_whoHas_16 X) ?_
  exact s_X4_whoHas_14 X
theorem s_X4_whoHas {G : am_G} {bc bs : Nat} (X : am_Cx G cX4_whoHas RX4 "whoHas" rm_X4_whoHas (some .int) 3 bc bs true) (h : Nat) : am_S G h (h_X4_whoHas h) := by
  unfold h_X4_whoHas
  split
  · next e => rw [e]; exact s_X4_whoHas_0 X
  exact as_bad
theorem ct_X4_whoHas : am_Ct yX4_whoHas cX4_whoHas 3 (some .int) rm_X4_whoHas sp_X4_whoHas := am_met (own := RX4) (nm := "whoHas") (by decide) rfl rfl (Or.inr (Or.inl rfl)) (fun _ _ => h_X4_whoHas) (fun _ _ _ X => s_X4_whoHas X) (fun _ _ _ _ h => h)
-- X4_nameOf
theorem dX4_nameOf_0 : decode cX4_nameOf 0 = .ok (.iload_n 1, 1) := by decide +kernel
theorem dX4_nameOf_1 : decode cX4_nameOf 1 = .ok (.invokestatic 45, 3) := by decide +kernel
theorem dX4_nameOf_4 : decode cX4_nameOf 4 = .ok (.ifCond .eq 10, 3) := by decide +kernel
theorem dX4_nameOf_7 : decode cX4_nameOf 7 = .ok (.iload_n 2, 1) := by decide +kernel
theorem dX4_nameOf_8 : decode cX4_nameOf 8 = .ok (.invokestatic 52, 3) := by decide +kernel
theorem dX4_nameOf_11 : decode cX4_nameOf 11 = .ok (.ifCond .ne 5, 3) := by decide +kernel
theorem dX4_nameOf_14 : decode cX4_nameOf 14 = .ok (.iconst (-1), 1) := by decide +kernel
theorem dX4_nameOf_15 : decode cX4_nameOf 15 = .ok (.ireturn, 1) := by decide +kernel
theorem dX4_nameOf_16 : decode cX4_nameOf 16 = .ok (.aload_n 0, 1) := by decide +kernel
theorem dX4_nameOf_17 : decode cX4_nameOf 17 = .ok (.getfield 20, 3) := by decide +kernel
theorem dX4_nameOf_20 : decode cX4_nameOf 20 = .ok (.iload_n 1, 1) := by decide +kernel
theorem dX4_nameOf_21 : decode cX4_nameOf 21 = .ok (.iload_n 2, 1) := by decide +kernel
theorem dX4_nameOf_22 : decode cX4_nameOf 22 = .ok (.invokevirtual 76, 3) := by decide +kernel
theorem dX4_nameOf_25 : decode cX4_nameOf 25 = .ok (.invokestatic 79, 3) := by decide +kernel
theorem dX4_nameOf_28 : decode cX4_nameOf 28 = .ok (.ireturn, 1) := by decide +kernel
def t_X4_nameOf_16 : am_T := tb_aload 0 <|
  tb_getR 4 1 <|
  tb_iload 1 <|
  tb_iload 2 <|
  tb_callV 1 sp_X1_nameAt 3 <|
  tb_callS sp_X4_orNotFound 1 <|
  tb_iret
def t_X4_nameOf_14 : am_T := tb_const (-1) <|
  tb_iret
def t_X4_nameOf_0 : am_T := tb_iload 1 <|
  tb_callS sp_X4_isPerson 1 <|
  tb_if (fun x => x = 0) (t_X4_nameOf_14) <|
  tb_iload 2 <|
  tb_callS sp_X4_isTime 1 <|
  tb_if (fun x => x ≠ 0) (t_X4_nameOf_16) <|
  t_X4_nameOf_14
def h_X4_nameOf : am_Hd := fun h => if h = 0 then t_X4_nameOf_0 else tb_bad
theorem h_X4_nameOf_0 : h_X4_nameOf 0 = t_X4_nameOf_0 := rfl
def rm_X4_nameOf : Room := { frames := 1, cells := 0, slots := 0, locals := 23 }
def sp_X4_nameOf : am_sp := fun as M Q => as.length ≤ 3 ∧ am_OK h_X4_nameOf Q 0 (am_in 3 as) M
theorem s_X4_nameOf_16 {G : am_G} {bc bs : Nat} (X : am_Cx G cX4_nameOf RX4 "nameOf" rm_X4_nameOf (some .int) 3 bc bs true) : am_S G 16 (t_X4_nameOf_16) := by
  unfold t_X4_nameOf_16
  refine as_aload_n (pc := 16) X dX4_nameOf_16 rfl ?_
  refine as_getR (ci := 4) (j := 1) (pc := 17) X (Cn := RX4) (Tf := TX4) (N := 7) rfl rfl (by decide) iw_X4 aw_225 rfl dX4_nameOf_17 ?_
  refine as_iload_n (pc := 20) X dX4_nameOf_20 rfl ?_
  refine as_iload_n (pc := 21) X dX4_nameOf_21 rfl ?_
  refine as_callV (ci := 1) (np := 2) (ix := 76) (pc := 22) X ct_X1_nameAt (Cn := (RX1, TX1, 14)) rfl ⟨rfl, rfl⟩ aw_257 aw_258 aw_259 aw_260 aw_19 (by decide +kernel) (by decide) dX4_nameOf_22 ?_
  refine as_callS (np := 1) (ix := 79) (pc := 25) X ct_X4_orNotFound ⟨rfl, rfl⟩ aw_261 aw_262 aw_263 aw_17 (by decide +kernel) (by decide) dX4_nameOf_25 ?_
  exact as_iret (pc := 28) X ⟨rfl, rfl⟩ rfl dX4_nameOf_28
theorem s_X4_nameOf_14 {G : am_G} {bc bs : Nat} (X : am_Cx G cX4_nameOf RX4 "nameOf" rm_X4_nameOf (some .int) 3 bc bs true) : am_S G 14 (t_X4_nameOf_14) := by
  unfold t_X4_nameOf_14
  refine as_iconst (pc := 14) X dX4_nameOf_14 (by decide) ?_
  exact as_iret (pc := 15) X ⟨rfl, rfl⟩ rfl dX4_nameOf_15
theorem s_X4_nameOf_0 {G : am_G} {bc bs : Nat} (X : am_Cx G cX4_nameOf RX4 "nameOf" rm_X4_nameOf (some .int) 3 bc bs true) : am_S G 0 (t_X4_nameOf_0) := by
  unfold t_X4_nameOf_0
  refine as_iload_n (pc := 0) X dX4_nameOf_0 rfl ?_
  refine as_callS (np := 1) (ix := 45) (pc := 1) X ct_X4_isPerson ⟨rfl, rfl⟩ aw_250 aw_251 aw_252 aw_17 (by decide +kernel) (by decide) dX4_nameOf_1 ?_
  refine as_if_eq (pc := 4) X 14 dX4_nameOf_4 (by decide) (s_X4_nameOf_14 X) ?_
  refine as_iload_n (pc := 7) X dX4_nameOf_7 rfl ?_
  refine as_callS (np := 1) (ix := 52) (pc := 8) X ct_X4_isTime ⟨rfl, rfl⟩ aw_253 aw_254 aw_255 aw_17 (by decide +kernel) (by decide) dX4_nameOf_8 ?_
  refine as_if_ne (pc := 11) X 16 dX4_nameOf_11 (by decide) (s_X4_nameOf_16 X) ?_
  exact s_X4_nameOf_14 X
theorem s_X4_nameOf {G : am_G} {bc bs : Nat} (X : am_Cx G cX4_nameOf RX4 "nameOf" rm_X4_nameOf (some .int) 3 bc bs true) (h : Nat) : am_S G h (h_X4_nameOf h) := by
  unfold h_X4_nameOf
  split
  · next e => rw [e]; exact s_X4_nameOf_0 X
  exact as_bad
theorem ct_X4_nameOf : am_Ct yX4_nameOf cX4_nameOf 3 (some .int) rm_X4_nameOf sp_X4_nameOf := am_met (own := RX4) (nm := "nameOf") (by decide) rfl rfl (Or.inr (Or.inl rfl)) (fun _ _ => h_X4_nameOf) (fun _ _ _ X => s_X4_nameOf X) (fun _ _ _ _ h => h)
-- L_areNamed
theorem dL_areNamed_0 : decode cL_areNamed 0 = .ok (.iconst 1, 1) := by decide +kernel
theorem dL_areNamed_1 : decode cL_areNamed 1 = .ok (.istore 4, 2) := by decide +kernel
theorem dL_areNamed_3 : decode cL_areNamed 3 = .ok (.iload_n 3, 1) := by decide +kernel
theorem dL_areNamed_4 : decode cL_areNamed 4 = .ok (.sipush 300, 3) := by decide +kernel
theorem dL_areNamed_7 : decode cL_areNamed 7 = .ok (.invokestatic 49, 3) := by decide +kernel
theorem dL_areNamed_10 : decode cL_areNamed 10 = .ok (.istore 5, 2) := by decide +kernel
theorem dL_areNamed_12 : decode cL_areNamed 12 = .ok (.iconst 0, 1) := by decide +kernel
theorem dL_areNamed_13 : decode cL_areNamed 13 = .ok (.istore 6, 2) := by decide +kernel
theorem dL_areNamed_15 : decode cL_areNamed 15 = .ok (.iload 6, 2) := by decide +kernel
theorem dL_areNamed_17 : decode cL_areNamed 17 = .ok (.bipush 16, 2) := by decide +kernel
theorem dL_areNamed_19 : decode cL_areNamed 19 = .ok (.if_icmp .ge 68, 3) := by decide +kernel
theorem dL_areNamed_22 : decode cL_areNamed 22 = .ok (.iload 4, 2) := by decide +kernel
theorem dL_areNamed_24 : decode cL_areNamed 24 = .ok (.ifCond .eq 63, 3) := by decide +kernel
theorem dL_areNamed_27 : decode cL_areNamed 27 = .ok (.aload_n 0, 1) := by decide +kernel
theorem dL_areNamed_28 : decode cL_areNamed 28 = .ok (.iload 6, 2) := by decide +kernel
theorem dL_areNamed_30 : decode cL_areNamed 30 = .ok (.iload 5, 2) := by decide +kernel
theorem dL_areNamed_32 : decode cL_areNamed 32 = .ok (.invokevirtual 108, 3) := by decide +kernel
theorem dL_areNamed_35 : decode cL_areNamed 35 = .ok (.aload_n 1, 1) := by decide +kernel
theorem dL_areNamed_36 : decode cL_areNamed 36 = .ok (.aload_n 2, 1) := by decide +kernel
theorem dL_areNamed_37 : decode cL_areNamed 37 = .ok (.iload 6, 2) := by decide +kernel
theorem dL_areNamed_39 : decode cL_areNamed 39 = .ok (.iload 5, 2) := by decide +kernel
theorem dL_areNamed_41 : decode cL_areNamed 41 = .ok (.invokestatic 53, 3) := by decide +kernel
theorem dL_areNamed_44 : decode cL_areNamed 44 = .ok (.if_icmp .ne 34, 3) := by decide +kernel
theorem dL_areNamed_47 : decode cL_areNamed 47 = .ok (.iload 6, 2) := by decide +kernel
theorem dL_areNamed_49 : decode cL_areNamed 49 = .ok (.bipush 11, 2) := by decide +kernel
theorem dL_areNamed_51 : decode cL_areNamed 51 = .ok (.if_icmp .gt 23, 3) := by decide +kernel
theorem dL_areNamed_54 : decode cL_areNamed 54 = .ok (.aload_n 0, 1) := by decide +kernel
theorem dL_areNamed_55 : decode cL_areNamed 55 = .ok (.iload 6, 2) := by decide +kernel
theorem dL_areNamed_57 : decode cL_areNamed 57 = .ok (.iload 5, 2) := by decide +kernel
theorem dL_areNamed_59 : decode cL_areNamed 59 = .ok (.invokevirtual 111, 3) := by decide +kernel
theorem dL_areNamed_62 : decode cL_areNamed 62 = .ok (.aload_n 1, 1) := by decide +kernel
theorem dL_areNamed_63 : decode cL_areNamed 63 = .ok (.aload_n 2, 1) := by decide +kernel
theorem dL_areNamed_64 : decode cL_areNamed 64 = .ok (.iload 6, 2) := by decide +kernel
theorem dL_areNamed_66 : decode cL_areNamed 66 = .ok (.iload 5, 2) := by decide +kernel
theorem dL_areNamed_68 : decode cL_areNamed 68 = .ok (.invokestatic 9, 3) := by decide +kernel
theorem dL_areNamed_71 : decode cL_areNamed 71 = .ok (.if_icmp .ne 7, 3) := by decide +kernel
theorem dL_areNamed_74 : decode cL_areNamed 74 = .ok (.iconst 1, 1) := by decide +kernel
theorem dL_areNamed_75 : decode cL_areNamed 75 = .ok (.goto 4, 3) := by decide +kernel
theorem dL_areNamed_78 : decode cL_areNamed 78 = .ok (.iconst 0, 1) := by decide +kernel
theorem dL_areNamed_79 : decode cL_areNamed 79 = .ok (.istore 4, 2) := by decide +kernel
theorem dL_areNamed_81 : decode cL_areNamed 81 = .ok (.iinc 6 1, 3) := by decide +kernel
theorem dL_areNamed_84 : decode cL_areNamed 84 = .ok (.goto (-69), 3) := by decide +kernel
theorem dL_areNamed_87 : decode cL_areNamed 87 = .ok (.iload 4, 2) := by decide +kernel
theorem dL_areNamed_89 : decode cL_areNamed 89 = .ok (.ireturn, 1) := by decide +kernel
def t_L_areNamed_87 : am_T := tb_iload 4 <|
  tb_zret
def t_L_areNamed_79 : am_T := tb_istore 4 <|
  tb_iinc 6 1 <|
  tb_head 15
def t_L_areNamed_78 : am_T := tb_const 0 <|
  t_L_areNamed_79
def t_L_areNamed_74 : am_T := tb_const 1 <|
  t_L_areNamed_79
def t_L_areNamed_15 : am_T := tb_iload 6 <|
  tb_const 16 <|
  tb_ic (fun x y => y ≤ x) (t_L_areNamed_87) <|
  tb_iload 4 <|
  tb_if (fun x => x = 0) (t_L_areNamed_87) <|
  tb_aload 0 <|
  tb_iload 6 <|
  tb_iload 5 <|
  tb_callV 4 sp_X4_whoHas 3 <|
  tb_aload 1 <|
  tb_aload 2 <|
  tb_iload 6 <|
  tb_iload 5 <|
  tb_callS sp_L_has 4 <|
  tb_ic (fun x y => x ≠ y) (t_L_areNamed_78) <|
  tb_iload 6 <|
  tb_const 11 <|
  tb_ic (fun x y => y < x) (t_L_areNamed_74) <|
  tb_aload 0 <|
  tb_iload 6 <|
  tb_iload 5 <|
  tb_callV 4 sp_X4_nameOf 3 <|
  tb_aload 1 <|
  tb_aload 2 <|
  tb_iload 6 <|
  tb_iload 5 <|
  tb_callS sp_L_name 4 <|
  tb_ic (fun x y => x ≠ y) (t_L_areNamed_78) <|
  t_L_areNamed_74
def t_L_areNamed_0 : am_T := tb_const 1 <|
  tb_istore 4 <|
  tb_iload 3 <|
  tb_const 300 <|
  tb_callS sp_L_low 2 <|
  tb_istore 5 <|
  tb_const 0 <|
  tb_istore 6 <|
  tb_head 15
def h_L_areNamed : am_Hd := fun h => if h = 0 then t_L_areNamed_0 else if h = 15 then t_L_areNamed_15 else tb_bad
theorem h_L_areNamed_0 : h_L_areNamed 0 = t_L_areNamed_0 := rfl
theorem h_L_areNamed_15 : h_L_areNamed 15 = t_L_areNamed_15 := rfl
def rm_L_areNamed : Room := { frames := 3, cells := 0, slots := 0, locals := 68 }
def sp_L_areNamed : am_sp := fun as M Q => as.length ≤ 7 ∧ am_OK h_L_areNamed Q 0 (am_in 7 as) M
theorem s_L_areNamed_87 {G : am_G} {bc bs : Nat} (X : am_Cx G cL_areNamed RL "areNamed" rm_L_areNamed (some .boolean) 7 bc bs true) : am_S G 87 (t_L_areNamed_87) := by
  unfold t_L_areNamed_87
  refine as_iload (pc := 87) X dL_areNamed_87 ?_
  exact as_zret (pc := 89) X ⟨rfl, rfl⟩ rfl dL_areNamed_89
theorem s_L_areNamed_79 {G : am_G} {bc bs : Nat} (X : am_Cx G cL_areNamed RL "areNamed" rm_L_areNamed (some .boolean) 7 bc bs true) : am_S G 79 (t_L_areNamed_79) := by
  unfold t_L_areNamed_79
  refine as_istore (pc := 79) X dL_areNamed_79 ?_ (by decide)
  refine as_iinc (pc := 81) X dL_areNamed_81 (by decide) (by decide) ?_
  exact as_goto (pc := 84) X 15 dL_areNamed_84 (by decide) (as_head)
theorem s_L_areNamed_78 {G : am_G} {bc bs : Nat} (X : am_Cx G cL_areNamed RL "areNamed" rm_L_areNamed (some .boolean) 7 bc bs true) : am_S G 78 (t_L_areNamed_78) := by
  unfold t_L_areNamed_78
  refine as_iconst (pc := 78) X dL_areNamed_78 (by decide) ?_
  exact s_L_areNamed_79 X
theorem s_L_areNamed_74 {G : am_G} {bc bs : Nat} (X : am_Cx G cL_areNamed RL "areNamed" rm_L_areNamed (some .boolean) 7 bc bs true) : am_S G 74 (t_L_areNamed_74) := by
  unfold t_L_areNamed_74
  refine as_iconst (pc := 74) X dL_areNamed_74 (by decide) ?_
  exact as_goto (pc := 75) X 79 dL_areNamed_75 (by decide) (s_L_areNamed_79 X)
theorem s_L_areNamed_15 {G : am_G} {bc bs : Nat} (X : am_Cx G cL_areNamed RL "areNamed" rm_L_areNamed (some .boolean) 7 bc bs true) : am_S G 15 (t_L_areNamed_15) := by
  unfold t_L_areNamed_15
  refine as_iload (pc := 15) X dL_areNamed_15 ?_
  refine as_bipush (pc := 17) X dL_areNamed_17 (by decide) ?_
  refine as_ic_ge (pc := 19) X 87 dL_areNamed_19 (by decide) (s_L_areNamed_87 X) ?_
  refine as_iload (pc := 22) X dL_areNamed_22 ?_
  refine as_if_eq (pc := 24) X 87 dL_areNamed_24 (by decide) (s_L_areNamed_87 X) ?_
  refine as_aload_n (pc := 27) X dL_areNamed_27 rfl ?_
  refine as_iload (pc := 28) X dL_areNamed_28 ?_
  refine as_iload (pc := 30) X dL_areNamed_30 ?_
  refine as_callV (ci := 4) (np := 2) (ix := 108) (pc := 32) X ct_X4_whoHas (Cn := (RX4, TX4, 7)) rfl ⟨rfl, rfl⟩ aw_264 aw_265 aw_266 aw_267 aw_17 (by decide +kernel) (by decide) dL_areNamed_32 ?_
  refine as_aload_n (pc := 35) X dL_areNamed_35 rfl ?_
  refine as_aload_n (pc := 36) X dL_areNamed_36 rfl ?_
  refine as_iload (pc := 37) X dL_areNamed_37 ?_
  refine as_iload (pc := 39) X dL_areNamed_39 ?_
  refine as_callS (np := 4) (ix := 53) (pc := 41) X ct_L_has ⟨rfl, rfl⟩ aw_409 aw_410 aw_411 aw_16 (by decide +kernel) (by decide) dL_areNamed_41 ?_
  refine as_ic_ne (pc := 44) X 78 dL_areNamed_44 (by decide) (s_L_areNamed_78 X) ?_
  refine as_iload (pc := 47) X dL_areNamed_47 ?_
  refine as_bipush (pc := 49) X dL_areNamed_49 (by decide) ?_
  refine as_ic_gt (pc := 51) X 74 dL_areNamed_51 (by decide) (s_L_areNamed_74 X) ?_
  refine as_aload_n (pc := 54) X dL_areNamed_54 rfl ?_
  refine as_iload (pc := 55) X dL_areNamed_55 ?_
  refine as_iload (pc := 57) X dL_areNamed_57 ?_
  refine as_callV (ci := 4) (np := 2) (ix := 111) (pc := 59) X ct_X4_nameOf (Cn := (RX4, TX4, 7)) rfl ⟨rfl, rfl⟩ aw_246 aw_247 aw_248 aw_249 aw_17 (by decide +kernel) (by decide) dL_areNamed_59 ?_
  refine as_aload_n (pc := 62) X dL_areNamed_62 rfl ?_
  refine as_aload_n (pc := 63) X dL_areNamed_63 rfl ?_
  refine as_iload (pc := 64) X dL_areNamed_64 ?_
  refine as_iload (pc := 66) X dL_areNamed_66 ?_
  refine as_callS (np := 4) (ix := 9) (pc := 68) X ct_L_name ⟨rfl, rfl⟩ aw_412 aw_413 aw_414 aw_16 (by decide +kernel) (by decide) dL_areNamed_68 ?_
  refine as_ic_ne (pc := 71) X 78 dL_areNamed_71 (by decide) (s_L_areNamed_78 X) ?_
  exact s_L_areNamed_74 X
theorem s_L_areNamed_0 {G : am_G} {bc bs : Nat} (X : am_Cx G cL_areNamed RL "areNamed" rm_L_areNamed (some .boolean) 7 bc bs true) : am_S G 0 (t_L_areNamed_0) := by
  unfold t_L_areNamed_0
  refine as_iconst (pc := 0) X dL_areNamed_0 (by decide) ?_
  refine as_istore (pc := 1) X dL_areNamed_1 ?_ (by decide)
  refine as_iload_n (pc := 3) X dL_areNamed_3 rfl ?_
  refine as_sipush (pc := 4) X dL_areNamed_4 (by decide) ?_
  refine as_callS (np := 2) (ix := 49) (pc := 7) X ct_L_low ⟨rfl, rfl⟩ aw_401 aw_402 aw_403 aw_16 (by decide +kernel) (by decide) dL_areNamed_7 ?_
  refine as_istore (pc := 10) X dL_areNamed_10 ?_ (by decide)
  refine as_iconst (pc := 12) X dL_areNamed_12 (by decide) ?_
  refine as_istore (pc := 13) X dL_areNamed_13 ?_ (by decide)
  exact as_head
theorem s_L_areNamed {G : am_G} {bc bs : Nat} (X : am_Cx G cL_areNamed RL "areNamed" rm_L_areNamed (some .boolean) 7 bc bs true) (h : Nat) : am_S G h (h_L_areNamed h) := by
  unfold h_L_areNamed
  split
  · next e => rw [e]; exact s_L_areNamed_0 X
  split
  · next e => rw [e]; exact s_L_areNamed_15 X
  exact as_bad
theorem ct_L_areNamed : am_Ct yL_areNamed cL_areNamed 7 (some .boolean) rm_L_areNamed sp_L_areNamed := am_met (own := RL) (nm := "areNamed") (by decide) rfl rfl (Or.inr (Or.inr (Or.inl rfl))) (fun _ _ => h_L_areNamed) (fun _ _ _ X => s_L_areNamed X) (fun _ _ _ _ h => h)
