-- X1_init
theorem dX1_init_0 : decode cX1_init 0 = .ok (.aload_n 0, 1) := by decide +kernel
theorem dX1_init_1 : decode cX1_init 1 = .ok (.invokespecial 3, 3) := by decide +kernel
theorem dX1_init_4 : decode cX1_init 4 = .ok (.aload_n 0, 1) := by decide +kernel
theorem dX1_init_5 : decode cX1_init 5 = .ok (.iconst 0, 1) := by decide +kernel
theorem dX1_init_6 : decode cX1_init 6 = .ok (.putfield 9, 3) := by decide +kernel
theorem dX1_init_9 : decode cX1_init 9 = .ok (.aload_n 0, 1) := by decide +kernel
theorem dX1_init_10 : decode cX1_init 10 = .ok (.bipush 20, 2) := by decide +kernel
theorem dX1_init_12 : decode cX1_init 12 = .ok (.newarray .int, 2) := by decide +kernel
theorem dX1_init_14 : decode cX1_init 14 = .ok (.putfield 15, 3) := by decide +kernel
theorem dX1_init_17 : decode cX1_init 17 = .ok (.aload_n 0, 1) := by decide +kernel
theorem dX1_init_18 : decode cX1_init 18 = .ok (.bipush 20, 2) := by decide +kernel
theorem dX1_init_20 : decode cX1_init 20 = .ok (.newarray .int, 2) := by decide +kernel
theorem dX1_init_22 : decode cX1_init 22 = .ok (.putfield 19, 3) := by decide +kernel
theorem dX1_init_25 : decode cX1_init 25 = .ok (.aload_n 0, 1) := by decide +kernel
theorem dX1_init_26 : decode cX1_init 26 = .ok (.bipush 20, 2) := by decide +kernel
theorem dX1_init_28 : decode cX1_init 28 = .ok (.newarray .int, 2) := by decide +kernel
theorem dX1_init_30 : decode cX1_init 30 = .ok (.putfield 22, 3) := by decide +kernel
theorem dX1_init_33 : decode cX1_init 33 = .ok (.aload_n 0, 1) := by decide +kernel
theorem dX1_init_34 : decode cX1_init 34 = .ok (.iconst 0, 1) := by decide +kernel
theorem dX1_init_35 : decode cX1_init 35 = .ok (.putfield 25, 3) := by decide +kernel
theorem dX1_init_38 : decode cX1_init 38 = .ok (.aload_n 0, 1) := by decide +kernel
theorem dX1_init_39 : decode cX1_init 39 = .ok (.bipush 30, 2) := by decide +kernel
theorem dX1_init_41 : decode cX1_init 41 = .ok (.newarray .int, 2) := by decide +kernel
theorem dX1_init_43 : decode cX1_init 43 = .ok (.putfield 28, 3) := by decide +kernel
theorem dX1_init_46 : decode cX1_init 46 = .ok (.aload_n 0, 1) := by decide +kernel
theorem dX1_init_47 : decode cX1_init 47 = .ok (.bipush 30, 2) := by decide +kernel
theorem dX1_init_49 : decode cX1_init 49 = .ok (.newarray .int, 2) := by decide +kernel
theorem dX1_init_51 : decode cX1_init 51 = .ok (.putfield 31, 3) := by decide +kernel
theorem dX1_init_54 : decode cX1_init 54 = .ok (.aload_n 0, 1) := by decide +kernel
theorem dX1_init_55 : decode cX1_init 55 = .ok (.bipush 30, 2) := by decide +kernel
theorem dX1_init_57 : decode cX1_init 57 = .ok (.newarray .int, 2) := by decide +kernel
theorem dX1_init_59 : decode cX1_init 59 = .ok (.putfield 34, 3) := by decide +kernel
theorem dX1_init_62 : decode cX1_init 62 = .ok (.aload_n 0, 1) := by decide +kernel
theorem dX1_init_63 : decode cX1_init 63 = .ok (.bipush 30, 2) := by decide +kernel
theorem dX1_init_65 : decode cX1_init 65 = .ok (.newarray .int, 2) := by decide +kernel
theorem dX1_init_67 : decode cX1_init 67 = .ok (.putfield 37, 3) := by decide +kernel
theorem dX1_init_70 : decode cX1_init 70 = .ok (.aload_n 0, 1) := by decide +kernel
theorem dX1_init_71 : decode cX1_init 71 = .ok (.iconst 0, 1) := by decide +kernel
theorem dX1_init_72 : decode cX1_init 72 = .ok (.putfield 40, 3) := by decide +kernel
theorem dX1_init_75 : decode cX1_init 75 = .ok (.aload_n 0, 1) := by decide +kernel
theorem dX1_init_76 : decode cX1_init 76 = .ok (.bipush 12, 2) := by decide +kernel
theorem dX1_init_78 : decode cX1_init 78 = .ok (.newarray .int, 2) := by decide +kernel
theorem dX1_init_80 : decode cX1_init 80 = .ok (.putfield 43, 3) := by decide +kernel
theorem dX1_init_83 : decode cX1_init 83 = .ok (.aload_n 0, 1) := by decide +kernel
theorem dX1_init_84 : decode cX1_init 84 = .ok (.bipush 12, 2) := by decide +kernel
theorem dX1_init_86 : decode cX1_init 86 = .ok (.newarray .int, 2) := by decide +kernel
theorem dX1_init_88 : decode cX1_init 88 = .ok (.putfield 46, 3) := by decide +kernel
theorem dX1_init_91 : decode cX1_init 91 = .ok (.aload_n 0, 1) := by decide +kernel
theorem dX1_init_92 : decode cX1_init 92 = .ok (.bipush 12, 2) := by decide +kernel
theorem dX1_init_94 : decode cX1_init 94 = .ok (.newarray .int, 2) := by decide +kernel
theorem dX1_init_96 : decode cX1_init 96 = .ok (.putfield 49, 3) := by decide +kernel
theorem dX1_init_99 : decode cX1_init 99 = .ok (.aload_n 0, 1) := by decide +kernel
theorem dX1_init_100 : decode cX1_init 100 = .ok (.bipush 8, 2) := by decide +kernel
theorem dX1_init_102 : decode cX1_init 102 = .ok (.newarray .int, 2) := by decide +kernel
theorem dX1_init_104 : decode cX1_init 104 = .ok (.putfield 52, 3) := by decide +kernel
theorem dX1_init_107 : decode cX1_init 107 = .ok (.getstatic 55, 3) := by decide +kernel
theorem dX1_init_110 : decode cX1_init 110 = .ok (.iconst 0, 1) := by decide +kernel
theorem dX1_init_111 : decode cX1_init 111 = .ok (.aload_n 0, 1) := by decide +kernel
theorem dX1_init_112 : decode cX1_init 112 = .ok (.getfield 52, 3) := by decide +kernel
theorem dX1_init_115 : decode cX1_init 115 = .ok (.iconst 0, 1) := by decide +kernel
theorem dX1_init_116 : decode cX1_init 116 = .ok (.bipush 8, 2) := by decide +kernel
theorem dX1_init_118 : decode cX1_init 118 = .ok (.invokestatic 58, 3) := by decide +kernel
theorem dX1_init_121 : decode cX1_init 121 = .ok (.return_, 1) := by decide +kernel
def t_X1_init_0 (bc bs : Nat) : am_T := tb_aload 0 <|
  tb_pop <|
  tb_aload 0 <|
  tb_const 0 <|
  tb_putI 1 0 <|
  tb_aload 0 <|
  tb_const 20 <|
  tb_newa bc bs 1 <|
  tb_putR 1 1 <|
  tb_aload 0 <|
  tb_const 20 <|
  tb_newa bc bs 1 <|
  tb_putR 1 2 <|
  tb_aload 0 <|
  tb_const 20 <|
  tb_newa bc bs 1 <|
  tb_putR 1 3 <|
  tb_aload 0 <|
  tb_const 0 <|
  tb_putI 1 4 <|
  tb_aload 0 <|
  tb_const 30 <|
  tb_newa bc bs 1 <|
  tb_putR 1 5 <|
  tb_aload 0 <|
  tb_const 30 <|
  tb_newa bc bs 1 <|
  tb_putR 1 6 <|
  tb_aload 0 <|
  tb_const 30 <|
  tb_newa bc bs 1 <|
  tb_putR 1 7 <|
  tb_aload 0 <|
  tb_const 30 <|
  tb_newa bc bs 1 <|
  tb_putR 1 8 <|
  tb_aload 0 <|
  tb_const 0 <|
  tb_putI 1 9 <|
  tb_aload 0 <|
  tb_const 12 <|
  tb_newa bc bs 1 <|
  tb_putR 1 10 <|
  tb_aload 0 <|
  tb_const 12 <|
  tb_newa bc bs 1 <|
  tb_putR 1 11 <|
  tb_aload 0 <|
  tb_const 12 <|
  tb_newa bc bs 1 <|
  tb_putR 1 12 <|
  tb_aload 0 <|
  tb_const 8 <|
  tb_newa bc bs 1 <|
  tb_putR 1 13 <|
  tb_stat 0 <|
  tb_const 0 <|
  tb_aload 0 <|
  tb_getR 1 13 <|
  tb_const 0 <|
  tb_const 8 <|
  tb_copy <|
  tb_retA bc bs
def h_X1_init (bc bs : Nat) : am_Hd := fun h => if h = 0 then t_X1_init_0 bc bs else tb_bad
theorem h_X1_init_0 {bc bs : Nat} : h_X1_init bc bs 0 = t_X1_init_0 bc bs := rfl
def rm_X1_init : Room := { frames := 1, cells := 11, slots := 224, locals := 26 }
def sp_X1_init : am_sp := fun as M Q => as.length ≤ 1 ∧ am_OK (h_X1_init (M.1.length + 11) (am_sz M.1 + 224)) Q 0 (am_in 1 as) M
theorem s_X1_init_0 {G : am_G} {bc bs : Nat} (X : am_Cx G cX1_init RX1 "<init>" rm_X1_init none 1 bc bs true) : am_S G 0 (t_X1_init_0 bc bs) := by
  unfold t_X1_init_0
  refine as_aload_n (pc := 0) X dX1_init_0 rfl ?_
  refine as_pop (pc := 1) X aw_87 aw_74 aw_75 (by decide) (by decide) dX1_init_1 ?_
  refine as_aload_n (pc := 4) X dX1_init_4 rfl ?_
  refine as_iconst (pc := 5) X dX1_init_5 (by decide) ?_
  refine as_putI (ci := 1) (j := 0) (pc := 6) X (Cn := RX1) (Tf := TX1) (N := 14) rfl rfl (by decide) iw_X1 aw_93 tyX1 tyX1_ok nmX1 rfl rfl (by decide +kernel) dX1_init_6 ?_
  refine as_aload_n (pc := 9) X dX1_init_9 rfl ?_
  refine as_bipush (pc := 10) X dX1_init_10 (by decide) ?_
  refine as_newa1 (pc := 12) X aw_158 dX1_init_12 ?_
  refine as_putR (ci := 1) (j := 1) (pc := 14) X (Cn := RX1) (Tf := TX1) (N := 14) rfl rfl (by decide) iw_X1 aw_95 tyX1 tyX1_ok nmX1 rfl rfl (ty := (.array .int)) rfl (by decide +kernel) (fun _ => rfl) (fun _ => rfl) dX1_init_14 ?_
  refine as_aload_n (pc := 17) X dX1_init_17 rfl ?_
  refine as_bipush (pc := 18) X dX1_init_18 (by decide) ?_
  refine as_newa1 (pc := 20) X aw_158 dX1_init_20 ?_
  refine as_putR (ci := 1) (j := 2) (pc := 22) X (Cn := RX1) (Tf := TX1) (N := 14) rfl rfl (by decide) iw_X1 aw_96 tyX1 tyX1_ok nmX1 rfl rfl (ty := (.array .int)) rfl (by decide +kernel) (fun _ => rfl) (fun _ => rfl) dX1_init_22 ?_
  refine as_aload_n (pc := 25) X dX1_init_25 rfl ?_
  refine as_bipush (pc := 26) X dX1_init_26 (by decide) ?_
  refine as_newa1 (pc := 28) X aw_158 dX1_init_28 ?_
  refine as_putR (ci := 1) (j := 3) (pc := 30) X (Cn := RX1) (Tf := TX1) (N := 14) rfl rfl (by decide) iw_X1 aw_97 tyX1 tyX1_ok nmX1 rfl rfl (ty := (.array .int)) rfl (by decide +kernel) (fun _ => rfl) (fun _ => rfl) dX1_init_30 ?_
  refine as_aload_n (pc := 33) X dX1_init_33 rfl ?_
  refine as_iconst (pc := 34) X dX1_init_34 (by decide) ?_
  refine as_putI (ci := 1) (j := 4) (pc := 35) X (Cn := RX1) (Tf := TX1) (N := 14) rfl rfl (by decide) iw_X1 aw_98 tyX1 tyX1_ok nmX1 rfl rfl (by decide +kernel) dX1_init_35 ?_
  refine as_aload_n (pc := 38) X dX1_init_38 rfl ?_
  refine as_bipush (pc := 39) X dX1_init_39 (by decide) ?_
  refine as_newa1 (pc := 41) X aw_158 dX1_init_41 ?_
  refine as_putR (ci := 1) (j := 5) (pc := 43) X (Cn := RX1) (Tf := TX1) (N := 14) rfl rfl (by decide) iw_X1 aw_102 tyX1 tyX1_ok nmX1 rfl rfl (ty := (.array .int)) rfl (by decide +kernel) (fun _ => rfl) (fun _ => rfl) dX1_init_43 ?_
  refine as_aload_n (pc := 46) X dX1_init_46 rfl ?_
  refine as_bipush (pc := 47) X dX1_init_47 (by decide) ?_
  refine as_newa1 (pc := 49) X aw_158 dX1_init_49 ?_
  refine as_putR (ci := 1) (j := 6) (pc := 51) X (Cn := RX1) (Tf := TX1) (N := 14) rfl rfl (by decide) iw_X1 aw_105 tyX1 tyX1_ok nmX1 rfl rfl (ty := (.array .int)) rfl (by decide +kernel) (fun _ => rfl) (fun _ => rfl) dX1_init_51 ?_
  refine as_aload_n (pc := 54) X dX1_init_54 rfl ?_
  refine as_bipush (pc := 55) X dX1_init_55 (by decide) ?_
  refine as_newa1 (pc := 57) X aw_158 dX1_init_57 ?_
  refine as_putR (ci := 1) (j := 7) (pc := 59) X (Cn := RX1) (Tf := TX1) (N := 14) rfl rfl (by decide) iw_X1 aw_108 tyX1 tyX1_ok nmX1 rfl rfl (ty := (.array .int)) rfl (by decide +kernel) (fun _ => rfl) (fun _ => rfl) dX1_init_59 ?_
  refine as_aload_n (pc := 62) X dX1_init_62 rfl ?_
  refine as_bipush (pc := 63) X dX1_init_63 (by decide) ?_
  refine as_newa1 (pc := 65) X aw_158 dX1_init_65 ?_
  refine as_putR (ci := 1) (j := 8) (pc := 67) X (Cn := RX1) (Tf := TX1) (N := 14) rfl rfl (by decide) iw_X1 aw_110 tyX1 tyX1_ok nmX1 rfl rfl (ty := (.array .int)) rfl (by decide +kernel) (fun _ => rfl) (fun _ => rfl) dX1_init_67 ?_
  refine as_aload_n (pc := 70) X dX1_init_70 rfl ?_
  refine as_iconst (pc := 71) X dX1_init_71 (by decide) ?_
  refine as_putI (ci := 1) (j := 9) (pc := 72) X (Cn := RX1) (Tf := TX1) (N := 14) rfl rfl (by decide) iw_X1 aw_113 tyX1 tyX1_ok nmX1 rfl rfl (by decide +kernel) dX1_init_72 ?_
  refine as_aload_n (pc := 75) X dX1_init_75 rfl ?_
  refine as_bipush (pc := 76) X dX1_init_76 (by decide) ?_
  refine as_newa1 (pc := 78) X aw_158 dX1_init_78 ?_
  refine as_putR (ci := 1) (j := 10) (pc := 80) X (Cn := RX1) (Tf := TX1) (N := 14) rfl rfl (by decide) iw_X1 aw_117 tyX1 tyX1_ok nmX1 rfl rfl (ty := (.array .int)) rfl (by decide +kernel) (fun _ => rfl) (fun _ => rfl) dX1_init_80 ?_
  refine as_aload_n (pc := 83) X dX1_init_83 rfl ?_
  refine as_bipush (pc := 84) X dX1_init_84 (by decide) ?_
  refine as_newa1 (pc := 86) X aw_158 dX1_init_86 ?_
  refine as_putR (ci := 1) (j := 11) (pc := 88) X (Cn := RX1) (Tf := TX1) (N := 14) rfl rfl (by decide) iw_X1 aw_120 tyX1 tyX1_ok nmX1 rfl rfl (ty := (.array .int)) rfl (by decide +kernel) (fun _ => rfl) (fun _ => rfl) dX1_init_88 ?_
  refine as_aload_n (pc := 91) X dX1_init_91 rfl ?_
  refine as_bipush (pc := 92) X dX1_init_92 (by decide) ?_
  refine as_newa1 (pc := 94) X aw_158 dX1_init_94 ?_
  refine as_putR (ci := 1) (j := 12) (pc := 96) X (Cn := RX1) (Tf := TX1) (N := 14) rfl rfl (by decide) iw_X1 aw_123 tyX1 tyX1_ok nmX1 rfl rfl (ty := (.array .int)) rfl (by decide +kernel) (fun _ => rfl) (fun _ => rfl) dX1_init_96 ?_
  refine as_aload_n (pc := 99) X dX1_init_99 rfl ?_
  refine as_bipush (pc := 100) X dX1_init_100 (by decide) ?_
  refine as_newa1 (pc := 102) X aw_158 dX1_init_102 ?_
  refine as_putR (ci := 1) (j := 13) (pc := 104) X (Cn := RX1) (Tf := TX1) (N := 14) rfl rfl (by decide) iw_X1 aw_126 tyX1 tyX1_ok nmX1 rfl rfl (ty := (.array .int)) rfl (by decide +kernel) (fun _ => rfl) (fun _ => rfl) dX1_init_104 ?_
  refine as_stat0N (pc := 107) X (ix := 55) (by simp [am_NW, RX4]) dX1_init_107 ?_
  refine as_iconst (pc := 110) X dX1_init_110 (by decide) ?_
  refine as_aload_n (pc := 111) X dX1_init_111 rfl ?_
  refine as_getR (ci := 1) (j := 13) (pc := 112) X (Cn := RX1) (Tf := TX1) (N := 14) rfl rfl (by decide) iw_X1 aw_126 rfl dX1_init_112 ?_
  refine as_iconst (pc := 115) X dX1_init_115 (by decide) ?_
  refine as_bipush (pc := 116) X dX1_init_116 (by decide) ?_
  refine as_copy (pc := 118) X aw_90 aw_92 aw_91 aw_62 (by decide) (by decide) dX1_init_118 ?_
  exact as_retA (pc := 121) X rfl dX1_init_121
theorem s_X1_init {G : am_G} {bc bs : Nat} (X : am_Cx G cX1_init RX1 "<init>" rm_X1_init none 1 bc bs true) (h : Nat) : am_S G h (h_X1_init bc bs h) := by
  unfold h_X1_init
  split
  · next e => rw [e]; exact s_X1_init_0 X
  exact as_bad
theorem ct_X1_init : am_Ct yX1_init cX1_init 1 none rm_X1_init sp_X1_init := am_met (own := RX1) (nm := "<init>") (by decide) rfl rfl (Or.inl rfl) (fun bc bs => h_X1_init bc bs) (fun _ _ _ X => s_X1_init X) (fun _ _ _ _ h => h)
-- X3_init
theorem dX3_init_0 : decode cX3_init 0 = .ok (.aload_n 0, 1) := by decide +kernel
theorem dX3_init_1 : decode cX3_init 1 = .ok (.invokespecial 3, 3) := by decide +kernel
theorem dX3_init_4 : decode cX3_init 4 = .ok (.aload_n 0, 1) := by decide +kernel
theorem dX3_init_5 : decode cX3_init 5 = .ok (.new 9, 3) := by decide +kernel
theorem dX3_init_8 : decode cX3_init 8 = .ok (.dup, 1) := by decide +kernel
theorem dX3_init_9 : decode cX3_init 9 = .ok (.invokespecial 11, 3) := by decide +kernel
theorem dX3_init_12 : decode cX3_init 12 = .ok (.putfield 12, 3) := by decide +kernel
theorem dX3_init_15 : decode cX3_init 15 = .ok (.aload_n 0, 1) := by decide +kernel
theorem dX3_init_16 : decode cX3_init 16 = .ok (.bipush 30, 2) := by decide +kernel
theorem dX3_init_18 : decode cX3_init 18 = .ok (.newarray .int, 2) := by decide +kernel
theorem dX3_init_20 : decode cX3_init 20 = .ok (.putfield 18, 3) := by decide +kernel
theorem dX3_init_23 : decode cX3_init 23 = .ok (.aload_n 0, 1) := by decide +kernel
theorem dX3_init_24 : decode cX3_init 24 = .ok (.bipush 30, 2) := by decide +kernel
theorem dX3_init_26 : decode cX3_init 26 = .ok (.newarray .int, 2) := by decide +kernel
theorem dX3_init_28 : decode cX3_init 28 = .ok (.putfield 22, 3) := by decide +kernel
theorem dX3_init_31 : decode cX3_init 31 = .ok (.aload_n 0, 1) := by decide +kernel
theorem dX3_init_32 : decode cX3_init 32 = .ok (.bipush 30, 2) := by decide +kernel
theorem dX3_init_34 : decode cX3_init 34 = .ok (.newarray .int, 2) := by decide +kernel
theorem dX3_init_36 : decode cX3_init 36 = .ok (.putfield 25, 3) := by decide +kernel
theorem dX3_init_39 : decode cX3_init 39 = .ok (.aload_n 0, 1) := by decide +kernel
theorem dX3_init_40 : decode cX3_init 40 = .ok (.sipush 900, 3) := by decide +kernel
theorem dX3_init_43 : decode cX3_init 43 = .ok (.newarray .int, 2) := by decide +kernel
theorem dX3_init_45 : decode cX3_init 45 = .ok (.putfield 28, 3) := by decide +kernel
theorem dX3_init_48 : decode cX3_init 48 = .ok (.aload_n 0, 1) := by decide +kernel
theorem dX3_init_49 : decode cX3_init 49 = .ok (.bipush 30, 2) := by decide +kernel
theorem dX3_init_51 : decode cX3_init 51 = .ok (.newarray .int, 2) := by decide +kernel
theorem dX3_init_53 : decode cX3_init 53 = .ok (.putfield 31, 3) := by decide +kernel
theorem dX3_init_56 : decode cX3_init 56 = .ok (.aload_n 0, 1) := by decide +kernel
theorem dX3_init_57 : decode cX3_init 57 = .ok (.bipush 30, 2) := by decide +kernel
theorem dX3_init_59 : decode cX3_init 59 = .ok (.newarray .int, 2) := by decide +kernel
theorem dX3_init_61 : decode cX3_init 61 = .ok (.putfield 34, 3) := by decide +kernel
theorem dX3_init_64 : decode cX3_init 64 = .ok (.aload_n 0, 1) := by decide +kernel
theorem dX3_init_65 : decode cX3_init 65 = .ok (.bipush 30, 2) := by decide +kernel
theorem dX3_init_67 : decode cX3_init 67 = .ok (.newarray .int, 2) := by decide +kernel
theorem dX3_init_69 : decode cX3_init 69 = .ok (.putfield 37, 3) := by decide +kernel
theorem dX3_init_72 : decode cX3_init 72 = .ok (.aload_n 0, 1) := by decide +kernel
theorem dX3_init_73 : decode cX3_init 73 = .ok (.bipush 30, 2) := by decide +kernel
theorem dX3_init_75 : decode cX3_init 75 = .ok (.newarray .int, 2) := by decide +kernel
theorem dX3_init_77 : decode cX3_init 77 = .ok (.putfield 40, 3) := by decide +kernel
theorem dX3_init_80 : decode cX3_init 80 = .ok (.aload_n 0, 1) := by decide +kernel
theorem dX3_init_81 : decode cX3_init 81 = .ok (.bipush 30, 2) := by decide +kernel
theorem dX3_init_83 : decode cX3_init 83 = .ok (.newarray .int, 2) := by decide +kernel
theorem dX3_init_85 : decode cX3_init 85 = .ok (.putfield 43, 3) := by decide +kernel
theorem dX3_init_88 : decode cX3_init 88 = .ok (.aload_n 0, 1) := by decide +kernel
theorem dX3_init_89 : decode cX3_init 89 = .ok (.bipush 30, 2) := by decide +kernel
theorem dX3_init_91 : decode cX3_init 91 = .ok (.newarray .int, 2) := by decide +kernel
theorem dX3_init_93 : decode cX3_init 93 = .ok (.putfield 46, 3) := by decide +kernel
theorem dX3_init_96 : decode cX3_init 96 = .ok (.aload_n 0, 1) := by decide +kernel
theorem dX3_init_97 : decode cX3_init 97 = .ok (.bipush 30, 2) := by decide +kernel
theorem dX3_init_99 : decode cX3_init 99 = .ok (.newarray .int, 2) := by decide +kernel
theorem dX3_init_101 : decode cX3_init 101 = .ok (.putfield 49, 3) := by decide +kernel
theorem dX3_init_104 : decode cX3_init 104 = .ok (.aload_n 0, 1) := by decide +kernel
theorem dX3_init_105 : decode cX3_init 105 = .ok (.bipush 30, 2) := by decide +kernel
theorem dX3_init_107 : decode cX3_init 107 = .ok (.newarray .int, 2) := by decide +kernel
theorem dX3_init_109 : decode cX3_init 109 = .ok (.putfield 52, 3) := by decide +kernel
theorem dX3_init_112 : decode cX3_init 112 = .ok (.aload_n 0, 1) := by decide +kernel
theorem dX3_init_113 : decode cX3_init 113 = .ok (.bipush 30, 2) := by decide +kernel
theorem dX3_init_115 : decode cX3_init 115 = .ok (.newarray .int, 2) := by decide +kernel
theorem dX3_init_117 : decode cX3_init 117 = .ok (.putfield 55, 3) := by decide +kernel
theorem dX3_init_120 : decode cX3_init 120 = .ok (.aload_n 0, 1) := by decide +kernel
theorem dX3_init_121 : decode cX3_init 121 = .ok (.iconst 0, 1) := by decide +kernel
theorem dX3_init_122 : decode cX3_init 122 = .ok (.putfield 58, 3) := by decide +kernel
theorem dX3_init_125 : decode cX3_init 125 = .ok (.aload_n 0, 1) := by decide +kernel
theorem dX3_init_126 : decode cX3_init 126 = .ok (.bipush 30, 2) := by decide +kernel
theorem dX3_init_128 : decode cX3_init 128 = .ok (.newarray .int, 2) := by decide +kernel
theorem dX3_init_130 : decode cX3_init 130 = .ok (.putfield 62, 3) := by decide +kernel
theorem dX3_init_133 : decode cX3_init 133 = .ok (.aload_n 0, 1) := by decide +kernel
theorem dX3_init_134 : decode cX3_init 134 = .ok (.bipush 30, 2) := by decide +kernel
theorem dX3_init_136 : decode cX3_init 136 = .ok (.newarray .int, 2) := by decide +kernel
theorem dX3_init_138 : decode cX3_init 138 = .ok (.putfield 65, 3) := by decide +kernel
theorem dX3_init_141 : decode cX3_init 141 = .ok (.return_, 1) := by decide +kernel
def t_X3_init_0 (bc bs : Nat) : am_T := tb_aload 0 <|
  tb_pop <|
  tb_aload 0 <|
  tb_new bc bs 1 <|
  tb_dup <|
  tb_callI bc bs 11 224 sp_X1_init 1 <|
  tb_putR 3 0 <|
  tb_aload 0 <|
  tb_const 30 <|
  tb_newa bc bs 1 <|
  tb_putR 3 1 <|
  tb_aload 0 <|
  tb_const 30 <|
  tb_newa bc bs 1 <|
  tb_putR 3 2 <|
  tb_aload 0 <|
  tb_const 30 <|
  tb_newa bc bs 1 <|
  tb_putR 3 3 <|
  tb_aload 0 <|
  tb_const 900 <|
  tb_newa bc bs 1 <|
  tb_putR 3 4 <|
  tb_aload 0 <|
  tb_const 30 <|
  tb_newa bc bs 1 <|
  tb_putR 3 5 <|
  tb_aload 0 <|
  tb_const 30 <|
  tb_newa bc bs 1 <|
  tb_putR 3 6 <|
  tb_aload 0 <|
  tb_const 30 <|
  tb_newa bc bs 1 <|
  tb_putR 3 7 <|
  tb_aload 0 <|
  tb_const 30 <|
  tb_newa bc bs 1 <|
  tb_putR 3 8 <|
  tb_aload 0 <|
  tb_const 30 <|
  tb_newa bc bs 1 <|
  tb_putR 3 9 <|
  tb_aload 0 <|
  tb_const 30 <|
  tb_newa bc bs 1 <|
  tb_putR 3 10 <|
  tb_aload 0 <|
  tb_const 30 <|
  tb_newa bc bs 1 <|
  tb_putR 3 11 <|
  tb_aload 0 <|
  tb_const 30 <|
  tb_newa bc bs 1 <|
  tb_putR 3 12 <|
  tb_aload 0 <|
  tb_const 30 <|
  tb_newa bc bs 1 <|
  tb_putR 3 13 <|
  tb_aload 0 <|
  tb_const 0 <|
  tb_putI 3 14 <|
  tb_aload 0 <|
  tb_const 30 <|
  tb_newa bc bs 1 <|
  tb_putR 3 15 <|
  tb_aload 0 <|
  tb_const 30 <|
  tb_newa bc bs 1 <|
  tb_putR 3 16 <|
  tb_retA bc bs
def h_X3_init (bc bs : Nat) : am_Hd := fun h => if h = 0 then t_X3_init_0 bc bs else tb_bad
theorem h_X3_init_0 {bc bs : Nat} : h_X3_init bc bs 0 = t_X3_init_0 bc bs := rfl
def rm_X3_init : Room := { frames := 2, cells := 27, slots := 1558, locals := 46 }
def sp_X3_init : am_sp := fun as M Q => as.length ≤ 1 ∧ am_OK (h_X3_init (M.1.length + 27) (am_sz M.1 + 1558)) Q 0 (am_in 1 as) M
theorem s_X3_init_0 {G : am_G} {bc bs : Nat} (X : am_Cx G cX3_init RX3 "<init>" rm_X3_init none 1 bc bs true) : am_S G 0 (t_X3_init_0 bc bs) := by
  unfold t_X3_init_0
  refine as_aload_n (pc := 0) X dX3_init_0 rfl ?_
  refine as_pop (pc := 1) X aw_81 aw_74 aw_75 (by decide) (by decide) dX3_init_1 ?_
  refine as_aload_n (pc := 4) X dX3_init_4 rfl ?_
  refine as_new (ci := 1) (Cn := RX1) (Tf := TX1) (N := 14) (pc := 5) X rfl rfl iw_X1 tyX1 tyX1_ok (by decide +kernel) aw_82 aw_83 aw_61 dX3_init_5 ?_
  refine as_dup (pc := 8) X dX3_init_8 ?_
  refine as_callI (np := 0) (ix := 11) (pc := 9) X ct_X1_init rfl aw_84 aw_85 aw_86 aw_61 (by decide +kernel) (by decide) dX3_init_9 ?_
  refine as_putR (ci := 3) (j := 0) (pc := 12) X (Cn := RX3) (Tf := TX3) (N := 17) rfl rfl (by decide) iw_X3 aw_159 tyX3 tyX3_ok nmX3 rfl rfl (ty := (.object "ChatThreads$Log")) rfl (by decide +kernel) (fun _ => rfl) (fun _ => rfl) dX3_init_12 ?_
  refine as_aload_n (pc := 15) X dX3_init_15 rfl ?_
  refine as_bipush (pc := 16) X dX3_init_16 (by decide) ?_
  refine as_newa1 (pc := 18) X aw_158 dX3_init_18 ?_
  refine as_putR (ci := 3) (j := 1) (pc := 20) X (Cn := RX3) (Tf := TX3) (N := 17) rfl rfl (by decide) iw_X3 aw_161 tyX3 tyX3_ok nmX3 rfl rfl (ty := (.array .int)) rfl (by decide +kernel) (fun _ => rfl) (fun _ => rfl) dX3_init_20 ?_
  refine as_aload_n (pc := 23) X dX3_init_23 rfl ?_
  refine as_bipush (pc := 24) X dX3_init_24 (by decide) ?_
  refine as_newa1 (pc := 26) X aw_158 dX3_init_26 ?_
  refine as_putR (ci := 3) (j := 2) (pc := 28) X (Cn := RX3) (Tf := TX3) (N := 17) rfl rfl (by decide) iw_X3 aw_163 tyX3 tyX3_ok nmX3 rfl rfl (ty := (.array .int)) rfl (by decide +kernel) (fun _ => rfl) (fun _ => rfl) dX3_init_28 ?_
  refine as_aload_n (pc := 31) X dX3_init_31 rfl ?_
  refine as_bipush (pc := 32) X dX3_init_32 (by decide) ?_
  refine as_newa1 (pc := 34) X aw_158 dX3_init_34 ?_
  refine as_putR (ci := 3) (j := 3) (pc := 36) X (Cn := RX3) (Tf := TX3) (N := 17) rfl rfl (by decide) iw_X3 aw_165 tyX3 tyX3_ok nmX3 rfl rfl (ty := (.array .int)) rfl (by decide +kernel) (fun _ => rfl) (fun _ => rfl) dX3_init_36 ?_
  refine as_aload_n (pc := 39) X dX3_init_39 rfl ?_
  refine as_sipush (pc := 40) X dX3_init_40 (by decide) ?_
  refine as_newa1 (pc := 43) X aw_158 dX3_init_43 ?_
  refine as_putR (ci := 3) (j := 4) (pc := 45) X (Cn := RX3) (Tf := TX3) (N := 17) rfl rfl (by decide) iw_X3 aw_167 tyX3 tyX3_ok nmX3 rfl rfl (ty := (.array .int)) rfl (by decide +kernel) (fun _ => rfl) (fun _ => rfl) dX3_init_45 ?_
  refine as_aload_n (pc := 48) X dX3_init_48 rfl ?_
  refine as_bipush (pc := 49) X dX3_init_49 (by decide) ?_
  refine as_newa1 (pc := 51) X aw_158 dX3_init_51 ?_
  refine as_putR (ci := 3) (j := 5) (pc := 53) X (Cn := RX3) (Tf := TX3) (N := 17) rfl rfl (by decide) iw_X3 aw_168 tyX3 tyX3_ok nmX3 rfl rfl (ty := (.array .int)) rfl (by decide +kernel) (fun _ => rfl) (fun _ => rfl) dX3_init_53 ?_
  refine as_aload_n (pc := 56) X dX3_init_56 rfl ?_
  refine as_bipush (pc := 57) X dX3_init_57 (by decide) ?_
  refine as_newa1 (pc := 59) X aw_158 dX3_init_59 ?_
  refine as_putR (ci := 3) (j := 6) (pc := 61) X (Cn := RX3) (Tf := TX3) (N := 17) rfl rfl (by decide) iw_X3 aw_169 tyX3 tyX3_ok nmX3 rfl rfl (ty := (.array .int)) rfl (by decide +kernel) (fun _ => rfl) (fun _ => rfl) dX3_init_61 ?_
  refine as_aload_n (pc := 64) X dX3_init_64 rfl ?_
  refine as_bipush (pc := 65) X dX3_init_65 (by decide) ?_
  refine as_newa1 (pc := 67) X aw_158 dX3_init_67 ?_
  refine as_putR (ci := 3) (j := 7) (pc := 69) X (Cn := RX3) (Tf := TX3) (N := 17) rfl rfl (by decide) iw_X3 aw_170 tyX3 tyX3_ok nmX3 rfl rfl (ty := (.array .int)) rfl (by decide +kernel) (fun _ => rfl) (fun _ => rfl) dX3_init_69 ?_
  refine as_aload_n (pc := 72) X dX3_init_72 rfl ?_
  refine as_bipush (pc := 73) X dX3_init_73 (by decide) ?_
  refine as_newa1 (pc := 75) X aw_158 dX3_init_75 ?_
  refine as_putR (ci := 3) (j := 8) (pc := 77) X (Cn := RX3) (Tf := TX3) (N := 17) rfl rfl (by decide) iw_X3 aw_171 tyX3 tyX3_ok nmX3 rfl rfl (ty := (.array .int)) rfl (by decide +kernel) (fun _ => rfl) (fun _ => rfl) dX3_init_77 ?_
  refine as_aload_n (pc := 80) X dX3_init_80 rfl ?_
  refine as_bipush (pc := 81) X dX3_init_81 (by decide) ?_
  refine as_newa1 (pc := 83) X aw_158 dX3_init_83 ?_
  refine as_putR (ci := 3) (j := 9) (pc := 85) X (Cn := RX3) (Tf := TX3) (N := 17) rfl rfl (by decide) iw_X3 aw_172 tyX3 tyX3_ok nmX3 rfl rfl (ty := (.array .int)) rfl (by decide +kernel) (fun _ => rfl) (fun _ => rfl) dX3_init_85 ?_
  refine as_aload_n (pc := 88) X dX3_init_88 rfl ?_
  refine as_bipush (pc := 89) X dX3_init_89 (by decide) ?_
  refine as_newa1 (pc := 91) X aw_158 dX3_init_91 ?_
  refine as_putR (ci := 3) (j := 10) (pc := 93) X (Cn := RX3) (Tf := TX3) (N := 17) rfl rfl (by decide) iw_X3 aw_174 tyX3 tyX3_ok nmX3 rfl rfl (ty := (.array .int)) rfl (by decide +kernel) (fun _ => rfl) (fun _ => rfl) dX3_init_93 ?_
  refine as_aload_n (pc := 96) X dX3_init_96 rfl ?_
  refine as_bipush (pc := 97) X dX3_init_97 (by decide) ?_
  refine as_newa1 (pc := 99) X aw_158 dX3_init_99 ?_
  refine as_putR (ci := 3) (j := 11) (pc := 101) X (Cn := RX3) (Tf := TX3) (N := 17) rfl rfl (by decide) iw_X3 aw_176 tyX3 tyX3_ok nmX3 rfl rfl (ty := (.array .int)) rfl (by decide +kernel) (fun _ => rfl) (fun _ => rfl) dX3_init_101 ?_
  refine as_aload_n (pc := 104) X dX3_init_104 rfl ?_
  refine as_bipush (pc := 105) X dX3_init_105 (by decide) ?_
  refine as_newa1 (pc := 107) X aw_158 dX3_init_107 ?_
  refine as_putR (ci := 3) (j := 12) (pc := 109) X (Cn := RX3) (Tf := TX3) (N := 17) rfl rfl (by decide) iw_X3 aw_177 tyX3 tyX3_ok nmX3 rfl rfl (ty := (.array .int)) rfl (by decide +kernel) (fun _ => rfl) (fun _ => rfl) dX3_init_109 ?_
  refine as_aload_n (pc := 112) X dX3_init_112 rfl ?_
  refine as_bipush (pc := 113) X dX3_init_113 (by decide) ?_
  refine as_newa1 (pc := 115) X aw_158 dX3_init_115 ?_
  refine as_putR (ci := 3) (j := 13) (pc := 117) X (Cn := RX3) (Tf := TX3) (N := 17) rfl rfl (by decide) iw_X3 aw_178 tyX3 tyX3_ok nmX3 rfl rfl (ty := (.array .int)) rfl (by decide +kernel) (fun _ => rfl) (fun _ => rfl) dX3_init_117 ?_
  refine as_aload_n (pc := 120) X dX3_init_120 rfl ?_
  refine as_iconst (pc := 121) X dX3_init_121 (by decide) ?_
  refine as_putI (ci := 3) (j := 14) (pc := 122) X (Cn := RX3) (Tf := TX3) (N := 17) rfl rfl (by decide) iw_X3 aw_180 tyX3 tyX3_ok nmX3 rfl rfl (by decide +kernel) dX3_init_122 ?_
  refine as_aload_n (pc := 125) X dX3_init_125 rfl ?_
  refine as_bipush (pc := 126) X dX3_init_126 (by decide) ?_
  refine as_newa1 (pc := 128) X aw_158 dX3_init_128 ?_
  refine as_putR (ci := 3) (j := 15) (pc := 130) X (Cn := RX3) (Tf := TX3) (N := 17) rfl rfl (by decide) iw_X3 aw_182 tyX3 tyX3_ok nmX3 rfl rfl (ty := (.array .int)) rfl (by decide +kernel) (fun _ => rfl) (fun _ => rfl) dX3_init_130 ?_
  refine as_aload_n (pc := 133) X dX3_init_133 rfl ?_
  refine as_bipush (pc := 134) X dX3_init_134 (by decide) ?_
  refine as_newa1 (pc := 136) X aw_158 dX3_init_136 ?_
  refine as_putR (ci := 3) (j := 16) (pc := 138) X (Cn := RX3) (Tf := TX3) (N := 17) rfl rfl (by decide) iw_X3 aw_184 tyX3 tyX3_ok nmX3 rfl rfl (ty := (.array .int)) rfl (by decide +kernel) (fun _ => rfl) (fun _ => rfl) dX3_init_138 ?_
  exact as_retA (pc := 141) X rfl dX3_init_141
theorem s_X3_init {G : am_G} {bc bs : Nat} (X : am_Cx G cX3_init RX3 "<init>" rm_X3_init none 1 bc bs true) (h : Nat) : am_S G h (h_X3_init bc bs h) := by
  unfold h_X3_init
  split
  · next e => rw [e]; exact s_X3_init_0 X
  exact as_bad
theorem ct_X3_init : am_Ct yX3_init cX3_init 1 none rm_X3_init sp_X3_init := am_met (own := RX3) (nm := "<init>") (by decide) rfl rfl (Or.inl rfl) (fun bc bs => h_X3_init bc bs) (fun _ _ _ X => s_X3_init X) (fun _ _ _ _ h => h)
-- X0_init
theorem dX0_init_0 : decode cX0_init 0 = .ok (.aload_n 0, 1) := by decide +kernel
theorem dX0_init_1 : decode cX0_init 1 = .ok (.invokespecial 3, 3) := by decide +kernel
theorem dX0_init_4 : decode cX0_init 4 = .ok (.aload_n 0, 1) := by decide +kernel
theorem dX0_init_5 : decode cX0_init 5 = .ok (.iconst 0, 1) := by decide +kernel
theorem dX0_init_6 : decode cX0_init 6 = .ok (.putfield 9, 3) := by decide +kernel
theorem dX0_init_9 : decode cX0_init 9 = .ok (.aload_n 0, 1) := by decide +kernel
theorem dX0_init_10 : decode cX0_init 10 = .ok (.iconst 4, 1) := by decide +kernel
theorem dX0_init_11 : decode cX0_init 11 = .ok (.anewarray 15, 3) := by decide +kernel
theorem dX0_init_14 : decode cX0_init 14 = .ok (.putfield 17, 3) := by decide +kernel
theorem dX0_init_17 : decode cX0_init 17 = .ok (.iconst 0, 1) := by decide +kernel
theorem dX0_init_18 : decode cX0_init 18 = .ok (.istore_n 1, 1) := by decide +kernel
theorem dX0_init_19 : decode cX0_init 19 = .ok (.iload_n 1, 1) := by decide +kernel
theorem dX0_init_20 : decode cX0_init 20 = .ok (.iconst 4, 1) := by decide +kernel
theorem dX0_init_21 : decode cX0_init 21 = .ok (.if_icmp .ge 22, 3) := by decide +kernel
theorem dX0_init_24 : decode cX0_init 24 = .ok (.aload_n 0, 1) := by decide +kernel
theorem dX0_init_25 : decode cX0_init 25 = .ok (.getfield 17, 3) := by decide +kernel
theorem dX0_init_28 : decode cX0_init 28 = .ok (.iload_n 1, 1) := by decide +kernel
theorem dX0_init_29 : decode cX0_init 29 = .ok (.new 15, 3) := by decide +kernel
theorem dX0_init_32 : decode cX0_init 32 = .ok (.dup, 1) := by decide +kernel
theorem dX0_init_33 : decode cX0_init 33 = .ok (.invokespecial 21, 3) := by decide +kernel
theorem dX0_init_36 : decode cX0_init 36 = .ok (.aastore, 1) := by decide +kernel
theorem dX0_init_37 : decode cX0_init 37 = .ok (.iinc 1 1, 3) := by decide +kernel
theorem dX0_init_40 : decode cX0_init 40 = .ok (.goto (-21), 3) := by decide +kernel
theorem dX0_init_43 : decode cX0_init 43 = .ok (.return_, 1) := by decide +kernel
def t_X0_init_43 (bc bs : Nat) : am_T := tb_retA bc bs
def t_X0_init_19 (bc bs : Nat) : am_T := tb_iload 1 <|
  tb_const 4 <|
  tb_ic (fun x y => y ≤ x) (t_X0_init_43 bc bs) <|
  tb_aload 0 <|
  tb_getR 0 1 <|
  tb_iload 1 <|
  tb_new bc bs 1 <|
  tb_dup <|
  tb_callI bc bs 11 224 sp_X1_init 1 <|
  tb_aast <|
  tb_iinc 1 1 <|
  tb_head 19
def t_X0_init_0 (bc bs : Nat) : am_T := tb_aload 0 <|
  tb_pop <|
  tb_aload 0 <|
  tb_const 0 <|
  tb_putI 0 0 <|
  tb_aload 0 <|
  tb_const 4 <|
  tb_newa bc bs 3 <|
  tb_putR 0 1 <|
  tb_const 0 <|
  tb_istore 1 <|
  tb_head 19
def h_X0_init (bc bs : Nat) : am_Hd := fun h => if h = 0 then t_X0_init_0 bc bs else if h = 19 then t_X0_init_19 bc bs else tb_bad
theorem h_X0_init_0 {bc bs : Nat} : h_X0_init bc bs 0 = t_X0_init_0 bc bs := rfl
theorem h_X0_init_19 {bc bs : Nat} : h_X0_init bc bs 19 = t_X0_init_19 bc bs := rfl
def rm_X0_init : Room := { frames := 2, cells := 49, slots := 956, locals := 46 }
def sp_X0_init : am_sp := fun as M Q => as.length ≤ 2 ∧ am_OK (h_X0_init (M.1.length + 49) (am_sz M.1 + 956)) Q 0 (am_in 2 as) M
theorem s_X0_init_43 {G : am_G} {bc bs : Nat} (X : am_Cx G cX0_init RX0 "<init>" rm_X0_init none 2 bc bs true) : am_S G 43 (t_X0_init_43 bc bs) := by
  unfold t_X0_init_43
  exact as_retA (pc := 43) X rfl dX0_init_43
theorem s_X0_init_19 {G : am_G} {bc bs : Nat} (X : am_Cx G cX0_init RX0 "<init>" rm_X0_init none 2 bc bs true) : am_S G 19 (t_X0_init_19 bc bs) := by
  unfold t_X0_init_19
  refine as_iload_n (pc := 19) X dX0_init_19 rfl ?_
  refine as_iconst (pc := 20) X dX0_init_20 (by decide) ?_
  refine as_ic_ge (pc := 21) X 43 dX0_init_21 (by decide) (s_X0_init_43 X) ?_
  refine as_aload_n (pc := 24) X dX0_init_24 rfl ?_
  refine as_getR (ci := 0) (j := 1) (pc := 25) X (Cn := RX0) (Tf := TX0) (N := 2) rfl rfl (by decide) iw_X0 aw_232 rfl dX0_init_25 ?_
  refine as_iload_n (pc := 28) X dX0_init_28 rfl ?_
  refine as_new (ci := 1) (Cn := RX1) (Tf := TX1) (N := 14) (pc := 29) X rfl rfl iw_X1 tyX1 tyX1_ok (by decide +kernel) aw_227 aw_83 aw_61 dX0_init_29 ?_
  refine as_dup (pc := 32) X dX0_init_32 ?_
  refine as_callI (np := 0) (ix := 21) (pc := 33) X ct_X1_init rfl aw_229 aw_85 aw_86 aw_61 (by decide +kernel) (by decide) dX0_init_33 ?_
  refine as_aast (pc := 36) X dX0_init_36 ?_
  refine as_iinc (pc := 37) X dX0_init_37 (by decide) (by decide) ?_
  exact as_goto (pc := 40) X 19 dX0_init_40 (by decide) (as_head)
theorem s_X0_init_0 {G : am_G} {bc bs : Nat} (X : am_Cx G cX0_init RX0 "<init>" rm_X0_init none 2 bc bs true) : am_S G 0 (t_X0_init_0 bc bs) := by
  unfold t_X0_init_0
  refine as_aload_n (pc := 0) X dX0_init_0 rfl ?_
  refine as_pop (pc := 1) X aw_226 aw_74 aw_75 (by decide) (by decide) dX0_init_1 ?_
  refine as_aload_n (pc := 4) X dX0_init_4 rfl ?_
  refine as_iconst (pc := 5) X dX0_init_5 (by decide) ?_
  refine as_putI (ci := 0) (j := 0) (pc := 6) X (Cn := RX0) (Tf := TX0) (N := 2) rfl rfl (by decide) iw_X0 aw_230 tyX0 tyX0_ok nmX0 rfl rfl (by decide +kernel) dX0_init_6 ?_
  refine as_aload_n (pc := 9) X dX0_init_9 rfl ?_
  refine as_iconst (pc := 10) X dX0_init_10 (by decide) ?_
  refine as_newa3 (pc := 11) X aw_227 dX0_init_11 ?_
  refine as_putR (ci := 0) (j := 1) (pc := 14) X (Cn := RX0) (Tf := TX0) (N := 2) rfl rfl (by decide) iw_X0 aw_232 tyX0 tyX0_ok nmX0 rfl rfl (ty := (.array (.object "ChatThreads$Log"))) rfl (by decide +kernel) (fun _ => rfl) (fun _ => rfl) dX0_init_14 ?_
  refine as_iconst (pc := 17) X dX0_init_17 (by decide) ?_
  refine as_istore_n (pc := 18) X dX0_init_18 rfl ?_ (by decide)
  exact as_head
theorem s_X0_init {G : am_G} {bc bs : Nat} (X : am_Cx G cX0_init RX0 "<init>" rm_X0_init none 2 bc bs true) (h : Nat) : am_S G h (h_X0_init bc bs h) := by
  unfold h_X0_init
  split
  · next e => rw [e]; exact s_X0_init_0 X
  split
  · next e => rw [e]; exact s_X0_init_19 X
  exact as_bad
theorem ct_X0_init : am_Ct yX0_init cX0_init 2 none rm_X0_init sp_X0_init := am_met (own := RX0) (nm := "<init>") (by decide) rfl rfl (Or.inl rfl) (fun bc bs => h_X0_init bc bs) (fun _ _ _ X => s_X0_init X) (fun _ _ _ _ h => h)
-- X2_init
theorem dX2_init_0 : decode cX2_init 0 = .ok (.aload_n 0, 1) := by decide +kernel
theorem dX2_init_1 : decode cX2_init 1 = .ok (.invokespecial 3, 3) := by decide +kernel
theorem dX2_init_4 : decode cX2_init 4 = .ok (.aload_n 0, 1) := by decide +kernel
theorem dX2_init_5 : decode cX2_init 5 = .ok (.iconst 0, 1) := by decide +kernel
theorem dX2_init_6 : decode cX2_init 6 = .ok (.putfield 9, 3) := by decide +kernel
theorem dX2_init_9 : decode cX2_init 9 = .ok (.aload_n 0, 1) := by decide +kernel
theorem dX2_init_10 : decode cX2_init 10 = .ok (.bipush 80, 2) := by decide +kernel
theorem dX2_init_12 : decode cX2_init 12 = .ok (.newarray .char, 2) := by decide +kernel
theorem dX2_init_14 : decode cX2_init 14 = .ok (.putfield 15, 3) := by decide +kernel
theorem dX2_init_17 : decode cX2_init 17 = .ok (.aload_n 0, 1) := by decide +kernel
theorem dX2_init_18 : decode cX2_init 18 = .ok (.iconst 0, 1) := by decide +kernel
theorem dX2_init_19 : decode cX2_init 19 = .ok (.putfield 19, 3) := by decide +kernel
theorem dX2_init_22 : decode cX2_init 22 = .ok (.aload_n 0, 1) := by decide +kernel
theorem dX2_init_23 : decode cX2_init 23 = .ok (.iconst 0, 1) := by decide +kernel
theorem dX2_init_24 : decode cX2_init 24 = .ok (.putfield 22, 3) := by decide +kernel
theorem dX2_init_27 : decode cX2_init 27 = .ok (.aload_n 0, 1) := by decide +kernel
theorem dX2_init_28 : decode cX2_init 28 = .ok (.iconst 0, 1) := by decide +kernel
theorem dX2_init_29 : decode cX2_init 29 = .ok (.putfield 25, 3) := by decide +kernel
theorem dX2_init_32 : decode cX2_init 32 = .ok (.aload_n 0, 1) := by decide +kernel
theorem dX2_init_33 : decode cX2_init 33 = .ok (.bipush 32, 2) := by decide +kernel
theorem dX2_init_35 : decode cX2_init 35 = .ok (.putfield 28, 3) := by decide +kernel
theorem dX2_init_38 : decode cX2_init 38 = .ok (.aload_n 0, 1) := by decide +kernel
theorem dX2_init_39 : decode cX2_init 39 = .ok (.iconst 0, 1) := by decide +kernel
theorem dX2_init_40 : decode cX2_init 40 = .ok (.putfield 32, 3) := by decide +kernel
theorem dX2_init_43 : decode cX2_init 43 = .ok (.aload_n 0, 1) := by decide +kernel
theorem dX2_init_44 : decode cX2_init 44 = .ok (.iconst 4, 1) := by decide +kernel
theorem dX2_init_45 : decode cX2_init 45 = .ok (.newarray .int, 2) := by decide +kernel
theorem dX2_init_47 : decode cX2_init 47 = .ok (.putfield 35, 3) := by decide +kernel
theorem dX2_init_50 : decode cX2_init 50 = .ok (.return_, 1) := by decide +kernel
def t_X2_init_0 (bc bs : Nat) : am_T := tb_aload 0 <|
  tb_pop <|
  tb_aload 0 <|
  tb_const 0 <|
  tb_putI 2 0 <|
  tb_aload 0 <|
  tb_const 80 <|
  tb_newa bc bs 2 <|
  tb_putR 2 1 <|
  tb_aload 0 <|
  tb_const 0 <|
  tb_putI 2 2 <|
  tb_aload 0 <|
  tb_const 0 <|
  tb_putI 2 3 <|
  tb_aload 0 <|
  tb_const 0 <|
  tb_putI 2 4 <|
  tb_aload 0 <|
  tb_const 32 <|
  tb_putN .char 2 5 <|
  tb_aload 0 <|
  tb_const 0 <|
  tb_putI 2 6 <|
  tb_aload 0 <|
  tb_const 4 <|
  tb_newa bc bs 1 <|
  tb_putR 2 7 <|
  tb_retA bc bs
def h_X2_init (bc bs : Nat) : am_Hd := fun h => if h = 0 then t_X2_init_0 bc bs else tb_bad
theorem h_X2_init_0 {bc bs : Nat} : h_X2_init bc bs 0 = t_X2_init_0 bc bs := rfl
def rm_X2_init : Room := { frames := 1, cells := 2, slots := 84, locals := 20 }
def sp_X2_init : am_sp := fun as M Q => as.length ≤ 1 ∧ am_OK (h_X2_init (M.1.length + 2) (am_sz M.1 + 84)) Q 0 (am_in 1 as) M
theorem s_X2_init_0 {G : am_G} {bc bs : Nat} (X : am_Cx G cX2_init RX2 "<init>" rm_X2_init none 1 bc bs true) : am_S G 0 (t_X2_init_0 bc bs) := by
  unfold t_X2_init_0
  refine as_aload_n (pc := 0) X dX2_init_0 rfl ?_
  refine as_pop (pc := 1) X aw_243 aw_74 aw_75 (by decide) (by decide) dX2_init_1 ?_
  refine as_aload_n (pc := 4) X dX2_init_4 rfl ?_
  refine as_iconst (pc := 5) X dX2_init_5 (by decide) ?_
  refine as_putI (ci := 2) (j := 0) (pc := 6) X (Cn := RX2) (Tf := TX2) (N := 8) rfl rfl (by decide) iw_X2 aw_244 tyX2 tyX2_ok nmX2 rfl rfl (by decide +kernel) dX2_init_6 ?_
  refine as_aload_n (pc := 9) X dX2_init_9 rfl ?_
  refine as_bipush (pc := 10) X dX2_init_10 (by decide) ?_
  refine as_newa2 (pc := 12) X aw_273 dX2_init_12 ?_
  refine as_putR (ci := 2) (j := 1) (pc := 14) X (Cn := RX2) (Tf := TX2) (N := 8) rfl rfl (by decide) iw_X2 aw_246 tyX2 tyX2_ok nmX2 rfl rfl (ty := (.array .char)) rfl (by decide +kernel) (fun _ => rfl) (fun _ => rfl) dX2_init_14 ?_
  refine as_aload_n (pc := 17) X dX2_init_17 rfl ?_
  refine as_iconst (pc := 18) X dX2_init_18 (by decide) ?_
  refine as_putI (ci := 2) (j := 2) (pc := 19) X (Cn := RX2) (Tf := TX2) (N := 8) rfl rfl (by decide) iw_X2 aw_247 tyX2 tyX2_ok nmX2 rfl rfl (by decide +kernel) dX2_init_19 ?_
  refine as_aload_n (pc := 22) X dX2_init_22 rfl ?_
  refine as_iconst (pc := 23) X dX2_init_23 (by decide) ?_
  refine as_putI (ci := 2) (j := 3) (pc := 24) X (Cn := RX2) (Tf := TX2) (N := 8) rfl rfl (by decide) iw_X2 aw_249 tyX2 tyX2_ok nmX2 rfl rfl (by decide +kernel) dX2_init_24 ?_
  refine as_aload_n (pc := 27) X dX2_init_27 rfl ?_
  refine as_iconst (pc := 28) X dX2_init_28 (by decide) ?_
  refine as_putI (ci := 2) (j := 4) (pc := 29) X (Cn := RX2) (Tf := TX2) (N := 8) rfl rfl (by decide) iw_X2 aw_251 tyX2 tyX2_ok nmX2 rfl rfl (by decide +kernel) dX2_init_29 ?_
  refine as_aload_n (pc := 32) X dX2_init_32 rfl ?_
  refine as_bipush (pc := 33) X dX2_init_33 (by decide) ?_
  refine as_putN (ci := 2) (j := 5) (pc := 35) X (Cn := RX2) (Tf := TX2) (N := 8) rfl rfl (by decide) iw_X2 aw_253 tyX2 tyX2_ok nmX2 rfl (ty := .char) rfl (by decide +kernel) dX2_init_35 ?_
  refine as_aload_n (pc := 38) X dX2_init_38 rfl ?_
  refine as_iconst (pc := 39) X dX2_init_39 (by decide) ?_
  refine as_putI (ci := 2) (j := 6) (pc := 40) X (Cn := RX2) (Tf := TX2) (N := 8) rfl rfl (by decide) iw_X2 aw_254 tyX2 tyX2_ok nmX2 rfl rfl (by decide +kernel) dX2_init_40 ?_
  refine as_aload_n (pc := 43) X dX2_init_43 rfl ?_
  refine as_iconst (pc := 44) X dX2_init_44 (by decide) ?_
  refine as_newa1 (pc := 45) X aw_158 dX2_init_45 ?_
  refine as_putR (ci := 2) (j := 7) (pc := 47) X (Cn := RX2) (Tf := TX2) (N := 8) rfl rfl (by decide) iw_X2 aw_255 tyX2 tyX2_ok nmX2 rfl rfl (ty := (.array .int)) rfl (by decide +kernel) (fun _ => rfl) (fun _ => rfl) dX2_init_47 ?_
  exact as_retA (pc := 50) X rfl dX2_init_50
theorem s_X2_init {G : am_G} {bc bs : Nat} (X : am_Cx G cX2_init RX2 "<init>" rm_X2_init none 1 bc bs true) (h : Nat) : am_S G h (h_X2_init bc bs h) := by
  unfold h_X2_init
  split
  · next e => rw [e]; exact s_X2_init_0 X
  exact as_bad
theorem ct_X2_init : am_Ct yX2_init cX2_init 1 none rm_X2_init sp_X2_init := am_met (own := RX2) (nm := "<init>") (by decide) rfl rfl (Or.inl rfl) (fun bc bs => h_X2_init bc bs) (fun _ _ _ X => s_X2_init X) (fun _ _ _ _ h => h)
-- X4_init
theorem dX4_init_0 : decode cX4_init 0 = .ok (.aload_n 0, 1) := by decide +kernel
theorem dX4_init_1 : decode cX4_init 1 = .ok (.invokespecial 1, 3) := by decide +kernel
theorem dX4_init_4 : decode cX4_init 4 = .ok (.aload_n 0, 1) := by decide +kernel
theorem dX4_init_5 : decode cX4_init 5 = .ok (.new 7, 3) := by decide +kernel
theorem dX4_init_8 : decode cX4_init 8 = .ok (.dup, 1) := by decide +kernel
theorem dX4_init_9 : decode cX4_init 9 = .ok (.invokespecial 9, 3) := by decide +kernel
theorem dX4_init_12 : decode cX4_init 12 = .ok (.putfield 10, 3) := by decide +kernel
theorem dX4_init_15 : decode cX4_init 15 = .ok (.aload_n 0, 1) := by decide +kernel
theorem dX4_init_16 : decode cX4_init 16 = .ok (.aload_n 0, 1) := by decide +kernel
theorem dX4_init_17 : decode cX4_init 17 = .ok (.getfield 10, 3) := by decide +kernel
theorem dX4_init_20 : decode cX4_init 20 = .ok (.getfield 16, 3) := by decide +kernel
theorem dX4_init_23 : decode cX4_init 23 = .ok (.putfield 20, 3) := by decide +kernel
theorem dX4_init_26 : decode cX4_init 26 = .ok (.aload_n 0, 1) := by decide +kernel
theorem dX4_init_27 : decode cX4_init 27 = .ok (.iconst 1, 1) := by decide +kernel
theorem dX4_init_28 : decode cX4_init 28 = .ok (.putfield 21, 3) := by decide +kernel
theorem dX4_init_31 : decode cX4_init 31 = .ok (.aload_n 0, 1) := by decide +kernel
theorem dX4_init_32 : decode cX4_init 32 = .ok (.new 25, 3) := by decide +kernel
theorem dX4_init_35 : decode cX4_init 35 = .ok (.dup, 1) := by decide +kernel
theorem dX4_init_36 : decode cX4_init 36 = .ok (.invokespecial 27, 3) := by decide +kernel
theorem dX4_init_39 : decode cX4_init 39 = .ok (.putfield 28, 3) := by decide +kernel
theorem dX4_init_42 : decode cX4_init 42 = .ok (.aload_n 0, 1) := by decide +kernel
theorem dX4_init_43 : decode cX4_init 43 = .ok (.new 32, 3) := by decide +kernel
theorem dX4_init_46 : decode cX4_init 46 = .ok (.dup, 1) := by decide +kernel
theorem dX4_init_47 : decode cX4_init 47 = .ok (.invokespecial 34, 3) := by decide +kernel
theorem dX4_init_50 : decode cX4_init 50 = .ok (.putfield 35, 3) := by decide +kernel
theorem dX4_init_53 : decode cX4_init 53 = .ok (.aload_n 0, 1) := by decide +kernel
theorem dX4_init_54 : decode cX4_init 54 = .ok (.new 7, 3) := by decide +kernel
theorem dX4_init_57 : decode cX4_init 57 = .ok (.dup, 1) := by decide +kernel
theorem dX4_init_58 : decode cX4_init 58 = .ok (.invokespecial 9, 3) := by decide +kernel
theorem dX4_init_61 : decode cX4_init 61 = .ok (.putfield 39, 3) := by decide +kernel
theorem dX4_init_64 : decode cX4_init 64 = .ok (.aload_n 0, 1) := by decide +kernel
theorem dX4_init_65 : decode cX4_init 65 = .ok (.aload_n 0, 1) := by decide +kernel
theorem dX4_init_66 : decode cX4_init 66 = .ok (.getfield 39, 3) := by decide +kernel
theorem dX4_init_69 : decode cX4_init 69 = .ok (.getfield 16, 3) := by decide +kernel
theorem dX4_init_72 : decode cX4_init 72 = .ok (.putfield 42, 3) := by decide +kernel
theorem dX4_init_75 : decode cX4_init 75 = .ok (.return_, 1) := by decide +kernel
def t_X4_init_0 (bc bs : Nat) : am_T := tb_aload 0 <|
  tb_pop <|
  tb_aload 0 <|
  tb_new bc bs 3 <|
  tb_dup <|
  tb_callI bc bs 27 1558 sp_X3_init 1 <|
  tb_putR 4 0 <|
  tb_aload 0 <|
  tb_aload 0 <|
  tb_getR 4 0 <|
  tb_getR 3 0 <|
  tb_putR 4 1 <|
  tb_aload 0 <|
  tb_const 1 <|
  tb_putN .boolean 4 2 <|
  tb_aload 0 <|
  tb_new bc bs 0 <|
  tb_dup <|
  tb_callI bc bs 49 956 sp_X0_init 1 <|
  tb_putR 4 3 <|
  tb_aload 0 <|
  tb_new bc bs 2 <|
  tb_dup <|
  tb_callI bc bs 2 84 sp_X2_init 1 <|
  tb_putR 4 4 <|
  tb_aload 0 <|
  tb_new bc bs 3 <|
  tb_dup <|
  tb_callI bc bs 27 1558 sp_X3_init 1 <|
  tb_putR 4 5 <|
  tb_aload 0 <|
  tb_aload 0 <|
  tb_getR 4 5 <|
  tb_getR 3 0 <|
  tb_putR 4 6 <|
  tb_retA bc bs
def h_X4_init (bc bs : Nat) : am_Hd := fun h => if h = 0 then t_X4_init_0 bc bs else tb_bad
theorem h_X4_init_0 {bc bs : Nat} : h_X4_init bc bs 0 = t_X4_init_0 bc bs := rfl
def rm_X4_init : Room := { frames := 3, cells := 109, slots := 4200, locals := 67 }
def sp_X4_init : am_sp := fun as M Q => as.length ≤ 1 ∧ am_OK (h_X4_init (M.1.length + 109) (am_sz M.1 + 4200)) Q 0 (am_in 1 as) M
theorem s_X4_init_0 {G : am_G} {bc bs : Nat} (X : am_Cx G cX4_init RX4 "<init>" rm_X4_init none 1 bc bs true) : am_S G 0 (t_X4_init_0 bc bs) := by
  unfold t_X4_init_0
  refine as_aload_n (pc := 0) X dX4_init_0 rfl ?_
  refine as_pop (pc := 1) X aw_73 aw_74 aw_75 (by decide) (by decide) dX4_init_1 ?_
  refine as_aload_n (pc := 4) X dX4_init_4 rfl ?_
  refine as_new (ci := 3) (Cn := RX3) (Tf := TX3) (N := 17) (pc := 5) X rfl rfl iw_X3 tyX3 tyX3_ok (by decide +kernel) aw_76 aw_77 aw_60 dX4_init_5 ?_
  refine as_dup (pc := 8) X dX4_init_8 ?_
  refine as_callIN (np := 0) (ix := 9) (pc := 9) X ct_X3_init rfl (host := RX4) (by simp [am_NW]) aw_79 aw_80 aw_60 (by decide +kernel) (by decide) dX4_init_9 ?_
  refine as_putR (ci := 4) (j := 0) (pc := 12) X (Cn := RX4) (Tf := TX4) (N := 7) rfl rfl (by decide) iw_X4 aw_274 tyX4 tyX4_ok nmX4 rfl rfl (ty := (.object "ChatThreads$Threads")) rfl (by decide +kernel) (fun _ => rfl) (fun _ => rfl) dX4_init_12 ?_
  refine as_aload_n (pc := 15) X dX4_init_15 rfl ?_
  refine as_aload_n (pc := 16) X dX4_init_16 rfl ?_
  refine as_getR (ci := 4) (j := 0) (pc := 17) X (Cn := RX4) (Tf := TX4) (N := 7) rfl rfl (by decide) iw_X4 aw_274 rfl dX4_init_17 ?_
  refine as_getR (ci := 3) (j := 0) (pc := 20) X (Cn := RX3) (Tf := TX3) (N := 17) rfl rfl (by decide) iw_X3 aw_160 rfl dX4_init_20 ?_
  refine as_putR (ci := 4) (j := 1) (pc := 23) X (Cn := RX4) (Tf := TX4) (N := 7) rfl rfl (by decide) iw_X4 aw_275 tyX4 tyX4_ok nmX4 rfl rfl (ty := (.object "ChatThreads$Log")) rfl (by decide +kernel) (fun _ => rfl) (fun _ => rfl) dX4_init_23 ?_
  refine as_aload_n (pc := 26) X dX4_init_26 rfl ?_
  refine as_iconst (pc := 27) X dX4_init_27 (by decide) ?_
  refine as_putN (ci := 4) (j := 2) (pc := 28) X (Cn := RX4) (Tf := TX4) (N := 7) rfl rfl (by decide) iw_X4 aw_276 tyX4 tyX4_ok nmX4 rfl (ty := .boolean) rfl (by decide +kernel) dX4_init_28 ?_
  refine as_aload_n (pc := 31) X dX4_init_31 rfl ?_
  refine as_new (ci := 0) (Cn := RX0) (Tf := TX0) (N := 2) (pc := 32) X rfl rfl iw_X0 tyX0 tyX0_ok (by decide +kernel) aw_221 aw_222 aw_63 dX4_init_32 ?_
  refine as_dup (pc := 35) X dX4_init_35 ?_
  refine as_callI (np := 0) (ix := 27) (pc := 36) X ct_X0_init rfl aw_223 aw_224 aw_225 aw_63 (by decide +kernel) (by decide) dX4_init_36 ?_
  refine as_putR (ci := 4) (j := 3) (pc := 39) X (Cn := RX4) (Tf := TX4) (N := 7) rfl rfl (by decide) iw_X4 aw_277 tyX4 tyX4_ok nmX4 rfl rfl (ty := (.object "ChatThreads$History")) rfl (by decide +kernel) (fun _ => rfl) (fun _ => rfl) dX4_init_39 ?_
  refine as_aload_n (pc := 42) X dX4_init_42 rfl ?_
  refine as_new (ci := 2) (Cn := RX2) (Tf := TX2) (N := 8) (pc := 43) X rfl rfl iw_X2 tyX2 tyX2_ok (by decide +kernel) aw_238 aw_239 aw_64 dX4_init_43 ?_
  refine as_dup (pc := 46) X dX4_init_46 ?_
  refine as_callIN (np := 0) (ix := 34) (pc := 47) X ct_X2_init rfl (host := RX4) (by simp [am_NW]) aw_241 aw_242 aw_64 (by decide +kernel) (by decide) dX4_init_47 ?_
  refine as_putR (ci := 4) (j := 4) (pc := 50) X (Cn := RX4) (Tf := TX4) (N := 7) rfl rfl (by decide) iw_X4 aw_278 tyX4 tyX4_ok nmX4 rfl rfl (ty := (.object "ChatThreads$Text")) rfl (by decide +kernel) (fun _ => rfl) (fun _ => rfl) dX4_init_50 ?_
  refine as_aload_n (pc := 53) X dX4_init_53 rfl ?_
  refine as_new (ci := 3) (Cn := RX3) (Tf := TX3) (N := 17) (pc := 54) X rfl rfl iw_X3 tyX3 tyX3_ok (by decide +kernel) aw_76 aw_77 aw_60 dX4_init_54 ?_
  refine as_dup (pc := 57) X dX4_init_57 ?_
  refine as_callIN (np := 0) (ix := 9) (pc := 58) X ct_X3_init rfl (host := RX4) (by simp [am_NW]) aw_79 aw_80 aw_60 (by decide +kernel) (by decide) dX4_init_58 ?_
  refine as_putR (ci := 4) (j := 5) (pc := 61) X (Cn := RX4) (Tf := TX4) (N := 7) rfl rfl (by decide) iw_X4 aw_279 tyX4 tyX4_ok nmX4 rfl rfl (ty := (.object "ChatThreads$Threads")) rfl (by decide +kernel) (fun _ => rfl) (fun _ => rfl) dX4_init_61 ?_
  refine as_aload_n (pc := 64) X dX4_init_64 rfl ?_
  refine as_aload_n (pc := 65) X dX4_init_65 rfl ?_
  refine as_getR (ci := 4) (j := 5) (pc := 66) X (Cn := RX4) (Tf := TX4) (N := 7) rfl rfl (by decide) iw_X4 aw_279 rfl dX4_init_66 ?_
  refine as_getR (ci := 3) (j := 0) (pc := 69) X (Cn := RX3) (Tf := TX3) (N := 17) rfl rfl (by decide) iw_X3 aw_160 rfl dX4_init_69 ?_
  refine as_putR (ci := 4) (j := 6) (pc := 72) X (Cn := RX4) (Tf := TX4) (N := 7) rfl rfl (by decide) iw_X4 aw_280 tyX4 tyX4_ok nmX4 rfl rfl (ty := (.object "ChatThreads$Log")) rfl (by decide +kernel) (fun _ => rfl) (fun _ => rfl) dX4_init_72 ?_
  exact as_retA (pc := 75) X rfl dX4_init_75
theorem s_X4_init {G : am_G} {bc bs : Nat} (X : am_Cx G cX4_init RX4 "<init>" rm_X4_init none 1 bc bs true) (h : Nat) : am_S G h (h_X4_init bc bs h) := by
  unfold h_X4_init
  split
  · next e => rw [e]; exact s_X4_init_0 X
  exact as_bad
theorem ct_X4_init : am_Ct yX4_init cX4_init 1 none rm_X4_init sp_X4_init := am_met (own := RX4) (nm := "<init>") (by decide) rfl rfl (Or.inl rfl) (fun bc bs => h_X4_init bc bs) (fun _ _ _ X => s_X4_init X) (fun _ _ _ _ h => h)
-- X5_init
theorem dX5_init_0 : decode cX5_init 0 = .ok (.aload_n 0, 1) := by decide +kernel
theorem dX5_init_1 : decode cX5_init 1 = .ok (.invokespecial 1, 3) := by decide +kernel
theorem dX5_init_4 : decode cX5_init 4 = .ok (.aload_n 0, 1) := by decide +kernel
theorem dX5_init_5 : decode cX5_init 5 = .ok (.sipush 227, 3) := by decide +kernel
theorem dX5_init_8 : decode cX5_init 8 = .ok (.newarray .int, 2) := by decide +kernel
theorem dX5_init_10 : decode cX5_init 10 = .ok (.putfield 7, 3) := by decide +kernel
theorem dX5_init_13 : decode cX5_init 13 = .ok (.aload_n 0, 1) := by decide +kernel
theorem dX5_init_14 : decode cX5_init 14 = .ok (.sipush 227, 3) := by decide +kernel
theorem dX5_init_17 : decode cX5_init 17 = .ok (.newarray .int, 2) := by decide +kernel
theorem dX5_init_19 : decode cX5_init 19 = .ok (.putfield 13, 3) := by decide +kernel
theorem dX5_init_22 : decode cX5_init 22 = .ok (.aload_n 0, 1) := by decide +kernel
theorem dX5_init_23 : decode cX5_init 23 = .ok (.sipush 908, 3) := by decide +kernel
theorem dX5_init_26 : decode cX5_init 26 = .ok (.newarray .int, 2) := by decide +kernel
theorem dX5_init_28 : decode cX5_init 28 = .ok (.putfield 16, 3) := by decide +kernel
theorem dX5_init_31 : decode cX5_init 31 = .ok (.aload_n 0, 1) := by decide +kernel
theorem dX5_init_32 : decode cX5_init 32 = .ok (.bipush 80, 2) := by decide +kernel
theorem dX5_init_34 : decode cX5_init 34 = .ok (.newarray .int, 2) := by decide +kernel
theorem dX5_init_36 : decode cX5_init 36 = .ok (.putfield 19, 3) := by decide +kernel
theorem dX5_init_39 : decode cX5_init 39 = .ok (.aload_n 0, 1) := by decide +kernel
theorem dX5_init_40 : decode cX5_init 40 = .ok (.bipush 30, 2) := by decide +kernel
theorem dX5_init_42 : decode cX5_init 42 = .ok (.newarray .int, 2) := by decide +kernel
theorem dX5_init_44 : decode cX5_init 44 = .ok (.putfield 22, 3) := by decide +kernel
theorem dX5_init_47 : decode cX5_init 47 = .ok (.aload_n 0, 1) := by decide +kernel
theorem dX5_init_48 : decode cX5_init 48 = .ok (.bipush 30, 2) := by decide +kernel
theorem dX5_init_50 : decode cX5_init 50 = .ok (.newarray .int, 2) := by decide +kernel
theorem dX5_init_52 : decode cX5_init 52 = .ok (.putfield 25, 3) := by decide +kernel
theorem dX5_init_55 : decode cX5_init 55 = .ok (.aload_n 0, 1) := by decide +kernel
theorem dX5_init_56 : decode cX5_init 56 = .ok (.bipush 30, 2) := by decide +kernel
theorem dX5_init_58 : decode cX5_init 58 = .ok (.newarray .int, 2) := by decide +kernel
theorem dX5_init_60 : decode cX5_init 60 = .ok (.putfield 28, 3) := by decide +kernel
theorem dX5_init_63 : decode cX5_init 63 = .ok (.aload_n 0, 1) := by decide +kernel
theorem dX5_init_64 : decode cX5_init 64 = .ok (.sipush 900, 3) := by decide +kernel
theorem dX5_init_67 : decode cX5_init 67 = .ok (.newarray .int, 2) := by decide +kernel
theorem dX5_init_69 : decode cX5_init 69 = .ok (.putfield 31, 3) := by decide +kernel
theorem dX5_init_72 : decode cX5_init 72 = .ok (.aload_n 0, 1) := by decide +kernel
theorem dX5_init_73 : decode cX5_init 73 = .ok (.bipush 30, 2) := by decide +kernel
theorem dX5_init_75 : decode cX5_init 75 = .ok (.newarray .int, 2) := by decide +kernel
theorem dX5_init_77 : decode cX5_init 77 = .ok (.putfield 34, 3) := by decide +kernel
theorem dX5_init_80 : decode cX5_init 80 = .ok (.aload_n 0, 1) := by decide +kernel
theorem dX5_init_81 : decode cX5_init 81 = .ok (.bipush 30, 2) := by decide +kernel
theorem dX5_init_83 : decode cX5_init 83 = .ok (.newarray .int, 2) := by decide +kernel
theorem dX5_init_85 : decode cX5_init 85 = .ok (.putfield 37, 3) := by decide +kernel
theorem dX5_init_88 : decode cX5_init 88 = .ok (.aload_n 0, 1) := by decide +kernel
theorem dX5_init_89 : decode cX5_init 89 = .ok (.bipush 30, 2) := by decide +kernel
theorem dX5_init_91 : decode cX5_init 91 = .ok (.newarray .int, 2) := by decide +kernel
theorem dX5_init_93 : decode cX5_init 93 = .ok (.putfield 40, 3) := by decide +kernel
theorem dX5_init_96 : decode cX5_init 96 = .ok (.aload_n 0, 1) := by decide +kernel
theorem dX5_init_97 : decode cX5_init 97 = .ok (.bipush 30, 2) := by decide +kernel
theorem dX5_init_99 : decode cX5_init 99 = .ok (.newarray .int, 2) := by decide +kernel
theorem dX5_init_101 : decode cX5_init 101 = .ok (.putfield 43, 3) := by decide +kernel
theorem dX5_init_104 : decode cX5_init 104 = .ok (.aload_n 0, 1) := by decide +kernel
theorem dX5_init_105 : decode cX5_init 105 = .ok (.bipush 30, 2) := by decide +kernel
theorem dX5_init_107 : decode cX5_init 107 = .ok (.newarray .int, 2) := by decide +kernel
theorem dX5_init_109 : decode cX5_init 109 = .ok (.putfield 46, 3) := by decide +kernel
theorem dX5_init_112 : decode cX5_init 112 = .ok (.aload_n 0, 1) := by decide +kernel
theorem dX5_init_113 : decode cX5_init 113 = .ok (.iconst 4, 1) := by decide +kernel
theorem dX5_init_114 : decode cX5_init 114 = .ok (.newarray .int, 2) := by decide +kernel
theorem dX5_init_116 : decode cX5_init 116 = .ok (.putfield 49, 3) := by decide +kernel
theorem dX5_init_119 : decode cX5_init 119 = .ok (.aload_n 0, 1) := by decide +kernel
theorem dX5_init_120 : decode cX5_init 120 = .ok (.getfield 7, 3) := by decide +kernel
theorem dX5_init_123 : decode cX5_init 123 = .ok (.iconst 0, 1) := by decide +kernel
theorem dX5_init_124 : decode cX5_init 124 = .ok (.sipush 600, 3) := by decide +kernel
theorem dX5_init_127 : decode cX5_init 127 = .ok (.iastore, 1) := by decide +kernel
theorem dX5_init_128 : decode cX5_init 128 = .ok (.aload_n 0, 1) := by decide +kernel
theorem dX5_init_129 : decode cX5_init 129 = .ok (.getfield 7, 3) := by decide +kernel
theorem dX5_init_132 : decode cX5_init 132 = .ok (.iconst 1, 1) := by decide +kernel
theorem dX5_init_133 : decode cX5_init 133 = .ok (.bipush 20, 2) := by decide +kernel
theorem dX5_init_135 : decode cX5_init 135 = .ok (.iastore, 1) := by decide +kernel
theorem dX5_init_136 : decode cX5_init 136 = .ok (.aload_n 0, 1) := by decide +kernel
theorem dX5_init_137 : decode cX5_init 137 = .ok (.getfield 7, 3) := by decide +kernel
theorem dX5_init_140 : decode cX5_init 140 = .ok (.iconst 2, 1) := by decide +kernel
theorem dX5_init_141 : decode cX5_init 141 = .ok (.bipush 40, 2) := by decide +kernel
theorem dX5_init_143 : decode cX5_init 143 = .ok (.iastore, 1) := by decide +kernel
theorem dX5_init_144 : decode cX5_init 144 = .ok (.aload_n 0, 1) := by decide +kernel
theorem dX5_init_145 : decode cX5_init 145 = .ok (.getfield 7, 3) := by decide +kernel
theorem dX5_init_148 : decode cX5_init 148 = .ok (.iconst 3, 1) := by decide +kernel
theorem dX5_init_149 : decode cX5_init 149 = .ok (.bipush 25, 2) := by decide +kernel
theorem dX5_init_151 : decode cX5_init 151 = .ok (.iastore, 1) := by decide +kernel
theorem dX5_init_152 : decode cX5_init 152 = .ok (.aload_n 0, 1) := by decide +kernel
theorem dX5_init_153 : decode cX5_init 153 = .ok (.getfield 7, 3) := by decide +kernel
theorem dX5_init_156 : decode cX5_init 156 = .ok (.iconst 4, 1) := by decide +kernel
theorem dX5_init_157 : decode cX5_init 157 = .ok (.bipush 10, 2) := by decide +kernel
theorem dX5_init_159 : decode cX5_init 159 = .ok (.iastore, 1) := by decide +kernel
theorem dX5_init_160 : decode cX5_init 160 = .ok (.aload_n 0, 1) := by decide +kernel
theorem dX5_init_161 : decode cX5_init 161 = .ok (.getfield 7, 3) := by decide +kernel
theorem dX5_init_164 : decode cX5_init 164 = .ok (.iconst 5, 1) := by decide +kernel
theorem dX5_init_165 : decode cX5_init 165 = .ok (.bipush 15, 2) := by decide +kernel
theorem dX5_init_167 : decode cX5_init 167 = .ok (.iastore, 1) := by decide +kernel
theorem dX5_init_168 : decode cX5_init 168 = .ok (.aload_n 0, 1) := by decide +kernel
theorem dX5_init_169 : decode cX5_init 169 = .ok (.getfield 7, 3) := by decide +kernel
theorem dX5_init_172 : decode cX5_init 172 = .ok (.bipush 6, 2) := by decide +kernel
theorem dX5_init_174 : decode cX5_init 174 = .ok (.bipush 30, 2) := by decide +kernel
theorem dX5_init_176 : decode cX5_init 176 = .ok (.iastore, 1) := by decide +kernel
theorem dX5_init_177 : decode cX5_init 177 = .ok (.aload_n 0, 1) := by decide +kernel
theorem dX5_init_178 : decode cX5_init 178 = .ok (.getfield 7, 3) := by decide +kernel
theorem dX5_init_181 : decode cX5_init 181 = .ok (.bipush 7, 2) := by decide +kernel
theorem dX5_init_183 : decode cX5_init 183 = .ok (.iconst 5, 1) := by decide +kernel
theorem dX5_init_184 : decode cX5_init 184 = .ok (.iastore, 1) := by decide +kernel
theorem dX5_init_185 : decode cX5_init 185 = .ok (.return_, 1) := by decide +kernel
def t_X5_init_0 (bc bs : Nat) : am_T := tb_aload 0 <|
  tb_pop <|
  tb_aload 0 <|
  tb_const 227 <|
  tb_newa bc bs 1 <|
  tb_putR 5 0 <|
  tb_aload 0 <|
  tb_const 227 <|
  tb_newa bc bs 1 <|
  tb_putR 5 1 <|
  tb_aload 0 <|
  tb_const 908 <|
  tb_newa bc bs 1 <|
  tb_putR 5 2 <|
  tb_aload 0 <|
  tb_const 80 <|
  tb_newa bc bs 1 <|
  tb_putR 5 4 <|
  tb_aload 0 <|
  tb_const 30 <|
  tb_newa bc bs 1 <|
  tb_putR 5 6 <|
  tb_aload 0 <|
  tb_const 30 <|
  tb_newa bc bs 1 <|
  tb_putR 5 7 <|
  tb_aload 0 <|
  tb_const 30 <|
  tb_newa bc bs 1 <|
  tb_putR 5 8 <|
  tb_aload 0 <|
  tb_const 900 <|
  tb_newa bc bs 1 <|
  tb_putR 5 9 <|
  tb_aload 0 <|
  tb_const 30 <|
  tb_newa bc bs 1 <|
  tb_putR 5 10 <|
  tb_aload 0 <|
  tb_const 30 <|
  tb_newa bc bs 1 <|
  tb_putR 5 11 <|
  tb_aload 0 <|
  tb_const 30 <|
  tb_newa bc bs 1 <|
  tb_putR 5 12 <|
  tb_aload 0 <|
  tb_const 30 <|
  tb_newa bc bs 1 <|
  tb_putR 5 13 <|
  tb_aload 0 <|
  tb_const 30 <|
  tb_newa bc bs 1 <|
  tb_putR 5 15 <|
  tb_aload 0 <|
  tb_const 4 <|
  tb_newa bc bs 1 <|
  tb_putR 5 18 <|
  tb_aload 0 <|
  tb_getR 5 0 <|
  tb_const 0 <|
  tb_const 600 <|
  tb_iast <|
  tb_aload 0 <|
  tb_getR 5 0 <|
  tb_const 1 <|
  tb_const 20 <|
  tb_iast <|
  tb_aload 0 <|
  tb_getR 5 0 <|
  tb_const 2 <|
  tb_const 40 <|
  tb_iast <|
  tb_aload 0 <|
  tb_getR 5 0 <|
  tb_const 3 <|
  tb_const 25 <|
  tb_iast <|
  tb_aload 0 <|
  tb_getR 5 0 <|
  tb_const 4 <|
  tb_const 10 <|
  tb_iast <|
  tb_aload 0 <|
  tb_getR 5 0 <|
  tb_const 5 <|
  tb_const 15 <|
  tb_iast <|
  tb_aload 0 <|
  tb_getR 5 0 <|
  tb_const 6 <|
  tb_const 30 <|
  tb_iast <|
  tb_aload 0 <|
  tb_getR 5 0 <|
  tb_const 7 <|
  tb_const 5 <|
  tb_iast <|
  tb_retA bc bs
def h_X5_init (bc bs : Nat) : am_Hd := fun h => if h = 0 then t_X5_init_0 bc bs else tb_bad
theorem h_X5_init_0 {bc bs : Nat} : h_X5_init bc bs 0 = t_X5_init_0 bc bs := rfl
def rm_X5_init : Room := { frames := 1, cells := 14, slots := 2586, locals := 20 }
def sp_X5_init : am_sp := fun as M Q => as.length ≤ 1 ∧ am_OK (h_X5_init (M.1.length + 14) (am_sz M.1 + 2586)) Q 0 (am_in 1 as) M
theorem s_X5_init_0 {G : am_G} {bc bs : Nat} (X : am_Cx G cX5_init RX5 "<init>" rm_X5_init none 1 bc bs true) : am_S G 0 (t_X5_init_0 bc bs) := by
  unfold t_X5_init_0
  refine as_aload_n (pc := 0) X dX5_init_0 rfl ?_
  refine as_pop (pc := 1) X aw_737 aw_74 aw_75 (by decide) (by decide) dX5_init_1 ?_
  refine as_aload_n (pc := 4) X dX5_init_4 rfl ?_
  refine as_sipush (pc := 5) X dX5_init_5 (by decide) ?_
  refine as_newa1 (pc := 8) X aw_158 dX5_init_8 ?_
  refine as_putR (ci := 5) (j := 0) (pc := 10) X (Cn := RX5) (Tf := TX5) (N := 21) rfl rfl (by decide) iw_X5 aw_738 tyX5 tyX5_ok nmX5 rfl rfl (ty := (.array .int)) rfl (by decide +kernel) (fun _ => rfl) (fun _ => rfl) dX5_init_10 ?_
  refine as_aload_n (pc := 13) X dX5_init_13 rfl ?_
  refine as_sipush (pc := 14) X dX5_init_14 (by decide) ?_
  refine as_newa1 (pc := 17) X aw_158 dX5_init_17 ?_
  refine as_putR (ci := 5) (j := 1) (pc := 19) X (Cn := RX5) (Tf := TX5) (N := 21) rfl rfl (by decide) iw_X5 aw_739 tyX5 tyX5_ok nmX5 rfl rfl (ty := (.array .int)) rfl (by decide +kernel) (fun _ => rfl) (fun _ => rfl) dX5_init_19 ?_
  refine as_aload_n (pc := 22) X dX5_init_22 rfl ?_
  refine as_sipush (pc := 23) X dX5_init_23 (by decide) ?_
  refine as_newa1 (pc := 26) X aw_158 dX5_init_26 ?_
  refine as_putR (ci := 5) (j := 2) (pc := 28) X (Cn := RX5) (Tf := TX5) (N := 21) rfl rfl (by decide) iw_X5 aw_740 tyX5 tyX5_ok nmX5 rfl rfl (ty := (.array .int)) rfl (by decide +kernel) (fun _ => rfl) (fun _ => rfl) dX5_init_28 ?_
  refine as_aload_n (pc := 31) X dX5_init_31 rfl ?_
  refine as_bipush (pc := 32) X dX5_init_32 (by decide) ?_
  refine as_newa1 (pc := 34) X aw_158 dX5_init_34 ?_
  refine as_putR (ci := 5) (j := 4) (pc := 36) X (Cn := RX5) (Tf := TX5) (N := 21) rfl rfl (by decide) iw_X5 aw_742 tyX5 tyX5_ok nmX5 rfl rfl (ty := (.array .int)) rfl (by decide +kernel) (fun _ => rfl) (fun _ => rfl) dX5_init_36 ?_
  refine as_aload_n (pc := 39) X dX5_init_39 rfl ?_
  refine as_bipush (pc := 40) X dX5_init_40 (by decide) ?_
  refine as_newa1 (pc := 42) X aw_158 dX5_init_42 ?_
  refine as_putR (ci := 5) (j := 6) (pc := 44) X (Cn := RX5) (Tf := TX5) (N := 21) rfl rfl (by decide) iw_X5 aw_744 tyX5 tyX5_ok nmX5 rfl rfl (ty := (.array .int)) rfl (by decide +kernel) (fun _ => rfl) (fun _ => rfl) dX5_init_44 ?_
  refine as_aload_n (pc := 47) X dX5_init_47 rfl ?_
  refine as_bipush (pc := 48) X dX5_init_48 (by decide) ?_
  refine as_newa1 (pc := 50) X aw_158 dX5_init_50 ?_
  refine as_putR (ci := 5) (j := 7) (pc := 52) X (Cn := RX5) (Tf := TX5) (N := 21) rfl rfl (by decide) iw_X5 aw_745 tyX5 tyX5_ok nmX5 rfl rfl (ty := (.array .int)) rfl (by decide +kernel) (fun _ => rfl) (fun _ => rfl) dX5_init_52 ?_
  refine as_aload_n (pc := 55) X dX5_init_55 rfl ?_
  refine as_bipush (pc := 56) X dX5_init_56 (by decide) ?_
  refine as_newa1 (pc := 58) X aw_158 dX5_init_58 ?_
  refine as_putR (ci := 5) (j := 8) (pc := 60) X (Cn := RX5) (Tf := TX5) (N := 21) rfl rfl (by decide) iw_X5 aw_746 tyX5 tyX5_ok nmX5 rfl rfl (ty := (.array .int)) rfl (by decide +kernel) (fun _ => rfl) (fun _ => rfl) dX5_init_60 ?_
  refine as_aload_n (pc := 63) X dX5_init_63 rfl ?_
  refine as_sipush (pc := 64) X dX5_init_64 (by decide) ?_
  refine as_newa1 (pc := 67) X aw_158 dX5_init_67 ?_
  refine as_putR (ci := 5) (j := 9) (pc := 69) X (Cn := RX5) (Tf := TX5) (N := 21) rfl rfl (by decide) iw_X5 aw_747 tyX5 tyX5_ok nmX5 rfl rfl (ty := (.array .int)) rfl (by decide +kernel) (fun _ => rfl) (fun _ => rfl) dX5_init_69 ?_
  refine as_aload_n (pc := 72) X dX5_init_72 rfl ?_
  refine as_bipush (pc := 73) X dX5_init_73 (by decide) ?_
  refine as_newa1 (pc := 75) X aw_158 dX5_init_75 ?_
  refine as_putR (ci := 5) (j := 10) (pc := 77) X (Cn := RX5) (Tf := TX5) (N := 21) rfl rfl (by decide) iw_X5 aw_748 tyX5 tyX5_ok nmX5 rfl rfl (ty := (.array .int)) rfl (by decide +kernel) (fun _ => rfl) (fun _ => rfl) dX5_init_77 ?_
  refine as_aload_n (pc := 80) X dX5_init_80 rfl ?_
  refine as_bipush (pc := 81) X dX5_init_81 (by decide) ?_
  refine as_newa1 (pc := 83) X aw_158 dX5_init_83 ?_
  refine as_putR (ci := 5) (j := 11) (pc := 85) X (Cn := RX5) (Tf := TX5) (N := 21) rfl rfl (by decide) iw_X5 aw_749 tyX5 tyX5_ok nmX5 rfl rfl (ty := (.array .int)) rfl (by decide +kernel) (fun _ => rfl) (fun _ => rfl) dX5_init_85 ?_
  refine as_aload_n (pc := 88) X dX5_init_88 rfl ?_
  refine as_bipush (pc := 89) X dX5_init_89 (by decide) ?_
  refine as_newa1 (pc := 91) X aw_158 dX5_init_91 ?_
  refine as_putR (ci := 5) (j := 12) (pc := 93) X (Cn := RX5) (Tf := TX5) (N := 21) rfl rfl (by decide) iw_X5 aw_750 tyX5 tyX5_ok nmX5 rfl rfl (ty := (.array .int)) rfl (by decide +kernel) (fun _ => rfl) (fun _ => rfl) dX5_init_93 ?_
  refine as_aload_n (pc := 96) X dX5_init_96 rfl ?_
  refine as_bipush (pc := 97) X dX5_init_97 (by decide) ?_
  refine as_newa1 (pc := 99) X aw_158 dX5_init_99 ?_
  refine as_putR (ci := 5) (j := 13) (pc := 101) X (Cn := RX5) (Tf := TX5) (N := 21) rfl rfl (by decide) iw_X5 aw_751 tyX5 tyX5_ok nmX5 rfl rfl (ty := (.array .int)) rfl (by decide +kernel) (fun _ => rfl) (fun _ => rfl) dX5_init_101 ?_
  refine as_aload_n (pc := 104) X dX5_init_104 rfl ?_
  refine as_bipush (pc := 105) X dX5_init_105 (by decide) ?_
  refine as_newa1 (pc := 107) X aw_158 dX5_init_107 ?_
  refine as_putR (ci := 5) (j := 15) (pc := 109) X (Cn := RX5) (Tf := TX5) (N := 21) rfl rfl (by decide) iw_X5 aw_753 tyX5 tyX5_ok nmX5 rfl rfl (ty := (.array .int)) rfl (by decide +kernel) (fun _ => rfl) (fun _ => rfl) dX5_init_109 ?_
  refine as_aload_n (pc := 112) X dX5_init_112 rfl ?_
  refine as_iconst (pc := 113) X dX5_init_113 (by decide) ?_
  refine as_newa1 (pc := 114) X aw_158 dX5_init_114 ?_
  refine as_putR (ci := 5) (j := 18) (pc := 116) X (Cn := RX5) (Tf := TX5) (N := 21) rfl rfl (by decide) iw_X5 aw_756 tyX5 tyX5_ok nmX5 rfl rfl (ty := (.array .int)) rfl (by decide +kernel) (fun _ => rfl) (fun _ => rfl) dX5_init_116 ?_
  refine as_aload_n (pc := 119) X dX5_init_119 rfl ?_
  refine as_getR (ci := 5) (j := 0) (pc := 120) X (Cn := RX5) (Tf := TX5) (N := 21) rfl rfl (by decide) iw_X5 aw_738 rfl dX5_init_120 ?_
  refine as_iconst (pc := 123) X dX5_init_123 (by decide) ?_
  refine as_sipush (pc := 124) X dX5_init_124 (by decide) ?_
  refine as_iast (pc := 127) X dX5_init_127 ?_
  refine as_aload_n (pc := 128) X dX5_init_128 rfl ?_
  refine as_getR (ci := 5) (j := 0) (pc := 129) X (Cn := RX5) (Tf := TX5) (N := 21) rfl rfl (by decide) iw_X5 aw_738 rfl dX5_init_129 ?_
  refine as_iconst (pc := 132) X dX5_init_132 (by decide) ?_
  refine as_bipush (pc := 133) X dX5_init_133 (by decide) ?_
  refine as_iast (pc := 135) X dX5_init_135 ?_
  refine as_aload_n (pc := 136) X dX5_init_136 rfl ?_
  refine as_getR (ci := 5) (j := 0) (pc := 137) X (Cn := RX5) (Tf := TX5) (N := 21) rfl rfl (by decide) iw_X5 aw_738 rfl dX5_init_137 ?_
  refine as_iconst (pc := 140) X dX5_init_140 (by decide) ?_
  refine as_bipush (pc := 141) X dX5_init_141 (by decide) ?_
  refine as_iast (pc := 143) X dX5_init_143 ?_
  refine as_aload_n (pc := 144) X dX5_init_144 rfl ?_
  refine as_getR (ci := 5) (j := 0) (pc := 145) X (Cn := RX5) (Tf := TX5) (N := 21) rfl rfl (by decide) iw_X5 aw_738 rfl dX5_init_145 ?_
  refine as_iconst (pc := 148) X dX5_init_148 (by decide) ?_
  refine as_bipush (pc := 149) X dX5_init_149 (by decide) ?_
  refine as_iast (pc := 151) X dX5_init_151 ?_
  refine as_aload_n (pc := 152) X dX5_init_152 rfl ?_
  refine as_getR (ci := 5) (j := 0) (pc := 153) X (Cn := RX5) (Tf := TX5) (N := 21) rfl rfl (by decide) iw_X5 aw_738 rfl dX5_init_153 ?_
  refine as_iconst (pc := 156) X dX5_init_156 (by decide) ?_
  refine as_bipush (pc := 157) X dX5_init_157 (by decide) ?_
  refine as_iast (pc := 159) X dX5_init_159 ?_
  refine as_aload_n (pc := 160) X dX5_init_160 rfl ?_
  refine as_getR (ci := 5) (j := 0) (pc := 161) X (Cn := RX5) (Tf := TX5) (N := 21) rfl rfl (by decide) iw_X5 aw_738 rfl dX5_init_161 ?_
  refine as_iconst (pc := 164) X dX5_init_164 (by decide) ?_
  refine as_bipush (pc := 165) X dX5_init_165 (by decide) ?_
  refine as_iast (pc := 167) X dX5_init_167 ?_
  refine as_aload_n (pc := 168) X dX5_init_168 rfl ?_
  refine as_getR (ci := 5) (j := 0) (pc := 169) X (Cn := RX5) (Tf := TX5) (N := 21) rfl rfl (by decide) iw_X5 aw_738 rfl dX5_init_169 ?_
  refine as_bipush (pc := 172) X dX5_init_172 (by decide) ?_
  refine as_bipush (pc := 174) X dX5_init_174 (by decide) ?_
  refine as_iast (pc := 176) X dX5_init_176 ?_
  refine as_aload_n (pc := 177) X dX5_init_177 rfl ?_
  refine as_getR (ci := 5) (j := 0) (pc := 178) X (Cn := RX5) (Tf := TX5) (N := 21) rfl rfl (by decide) iw_X5 aw_738 rfl dX5_init_178 ?_
  refine as_bipush (pc := 181) X dX5_init_181 (by decide) ?_
  refine as_iconst (pc := 183) X dX5_init_183 (by decide) ?_
  refine as_iast (pc := 184) X dX5_init_184 ?_
  exact as_retA (pc := 185) X rfl dX5_init_185
theorem s_X5_init {G : am_G} {bc bs : Nat} (X : am_Cx G cX5_init RX5 "<init>" rm_X5_init none 1 bc bs true) (h : Nat) : am_S G h (h_X5_init bc bs h) := by
  unfold h_X5_init
  split
  · next e => rw [e]; exact s_X5_init_0 X
  exact as_bad
theorem ct_X5_init : am_Ct yX5_init cX5_init 1 none rm_X5_init sp_X5_init := am_met (own := RX5) (nm := "<init>") (by decide) rfl rfl (Or.inl rfl) (fun bc bs => h_X5_init bc bs) (fun _ _ _ X => s_X5_init X) (fun _ _ _ _ h => h)
-- X4_isPerson
theorem dX4_isPerson_0 : decode cX4_isPerson 0 = .ok (.iload_n 0, 1) := by decide +kernel
theorem dX4_isPerson_1 : decode cX4_isPerson 1 = .ok (.ifCond .lt 13, 3) := by decide +kernel
theorem dX4_isPerson_4 : decode cX4_isPerson 4 = .ok (.iload_n 0, 1) := by decide +kernel
theorem dX4_isPerson_5 : decode cX4_isPerson 5 = .ok (.bipush 12, 2) := by decide +kernel
theorem dX4_isPerson_7 : decode cX4_isPerson 7 = .ok (.if_icmp .ge 7, 3) := by decide +kernel
theorem dX4_isPerson_10 : decode cX4_isPerson 10 = .ok (.iconst 1, 1) := by decide +kernel
theorem dX4_isPerson_11 : decode cX4_isPerson 11 = .ok (.goto 4, 3) := by decide +kernel
theorem dX4_isPerson_14 : decode cX4_isPerson 14 = .ok (.iconst 0, 1) := by decide +kernel
theorem dX4_isPerson_15 : decode cX4_isPerson 15 = .ok (.ireturn, 1) := by decide +kernel
def t_X4_isPerson_15 : am_T := tb_zret
def t_X4_isPerson_14 : am_T := tb_const 0 <|
  t_X4_isPerson_15
def t_X4_isPerson_0 : am_T := tb_iload 0 <|
  tb_if (fun x => x < 0) (t_X4_isPerson_14) <|
  tb_iload 0 <|
  tb_const 12 <|
  tb_ic (fun x y => y ≤ x) (t_X4_isPerson_14) <|
  tb_const 1 <|
  t_X4_isPerson_15
def h_X4_isPerson : am_Hd := fun h => if h = 0 then t_X4_isPerson_0 else tb_bad
theorem h_X4_isPerson_0 : h_X4_isPerson 0 = t_X4_isPerson_0 := rfl
def rm_X4_isPerson : Room := { frames := 0, cells := 0, slots := 0, locals := 0 }
def sp_X4_isPerson : am_sp := fun as M Q => as.length ≤ 1 ∧ am_OK h_X4_isPerson Q 0 (am_in 1 as) M
theorem s_X4_isPerson_15 {G : am_G} {bc bs : Nat} (X : am_Cx G cX4_isPerson RX4 "isPerson" rm_X4_isPerson (some .boolean) 1 bc bs true) : am_S G 15 (t_X4_isPerson_15) := by
  unfold t_X4_isPerson_15
  exact as_zret (pc := 15) X ⟨rfl, rfl⟩ rfl dX4_isPerson_15
theorem s_X4_isPerson_14 {G : am_G} {bc bs : Nat} (X : am_Cx G cX4_isPerson RX4 "isPerson" rm_X4_isPerson (some .boolean) 1 bc bs true) : am_S G 14 (t_X4_isPerson_14) := by
  unfold t_X4_isPerson_14
  refine as_iconst (pc := 14) X dX4_isPerson_14 (by decide) ?_
  exact s_X4_isPerson_15 X
theorem s_X4_isPerson_0 {G : am_G} {bc bs : Nat} (X : am_Cx G cX4_isPerson RX4 "isPerson" rm_X4_isPerson (some .boolean) 1 bc bs true) : am_S G 0 (t_X4_isPerson_0) := by
  unfold t_X4_isPerson_0
  refine as_iload_n (pc := 0) X dX4_isPerson_0 rfl ?_
  refine as_if_lt (pc := 1) X 14 dX4_isPerson_1 (by decide) (s_X4_isPerson_14 X) ?_
  refine as_iload_n (pc := 4) X dX4_isPerson_4 rfl ?_
  refine as_bipush (pc := 5) X dX4_isPerson_5 (by decide) ?_
  refine as_ic_ge (pc := 7) X 14 dX4_isPerson_7 (by decide) (s_X4_isPerson_14 X) ?_
  refine as_iconst (pc := 10) X dX4_isPerson_10 (by decide) ?_
  exact as_goto (pc := 11) X 15 dX4_isPerson_11 (by decide) (s_X4_isPerson_15 X)
theorem s_X4_isPerson {G : am_G} {bc bs : Nat} (X : am_Cx G cX4_isPerson RX4 "isPerson" rm_X4_isPerson (some .boolean) 1 bc bs true) (h : Nat) : am_S G h (h_X4_isPerson h) := by
  unfold h_X4_isPerson
  split
  · next e => rw [e]; exact s_X4_isPerson_0 X
  exact as_bad
theorem ct_X4_isPerson : am_Ct yX4_isPerson cX4_isPerson 1 (some .boolean) rm_X4_isPerson sp_X4_isPerson := am_met (own := RX4) (nm := "isPerson") (by decide) rfl rfl (Or.inr (Or.inr (Or.inl rfl))) (fun _ _ => h_X4_isPerson) (fun _ _ _ X => s_X4_isPerson X) (fun _ _ _ _ h => h)
-- X4_isName
theorem dX4_isName_0 : decode cX4_isName 0 = .ok (.iload_n 0, 1) := by decide +kernel
theorem dX4_isName_1 : decode cX4_isName 1 = .ok (.ifCond .lt 13, 3) := by decide +kernel
theorem dX4_isName_4 : decode cX4_isName 4 = .ok (.iload_n 0, 1) := by decide +kernel
theorem dX4_isName_5 : decode cX4_isName 5 = .ok (.bipush 16, 2) := by decide +kernel
theorem dX4_isName_7 : decode cX4_isName 7 = .ok (.if_icmp .ge 7, 3) := by decide +kernel
theorem dX4_isName_10 : decode cX4_isName 10 = .ok (.iconst 1, 1) := by decide +kernel
theorem dX4_isName_11 : decode cX4_isName 11 = .ok (.goto 4, 3) := by decide +kernel
theorem dX4_isName_14 : decode cX4_isName 14 = .ok (.iconst 0, 1) := by decide +kernel
theorem dX4_isName_15 : decode cX4_isName 15 = .ok (.ireturn, 1) := by decide +kernel
def t_X4_isName_15 : am_T := tb_zret
def t_X4_isName_14 : am_T := tb_const 0 <|
  t_X4_isName_15
def t_X4_isName_0 : am_T := tb_iload 0 <|
  tb_if (fun x => x < 0) (t_X4_isName_14) <|
  tb_iload 0 <|
  tb_const 16 <|
  tb_ic (fun x y => y ≤ x) (t_X4_isName_14) <|
  tb_const 1 <|
  t_X4_isName_15
def h_X4_isName : am_Hd := fun h => if h = 0 then t_X4_isName_0 else tb_bad
theorem h_X4_isName_0 : h_X4_isName 0 = t_X4_isName_0 := rfl
def rm_X4_isName : Room := { frames := 0, cells := 0, slots := 0, locals := 0 }
def sp_X4_isName : am_sp := fun as M Q => as.length ≤ 1 ∧ am_OK h_X4_isName Q 0 (am_in 1 as) M
theorem s_X4_isName_15 {G : am_G} {bc bs : Nat} (X : am_Cx G cX4_isName RX4 "isName" rm_X4_isName (some .boolean) 1 bc bs true) : am_S G 15 (t_X4_isName_15) := by
  unfold t_X4_isName_15
  exact as_zret (pc := 15) X ⟨rfl, rfl⟩ rfl dX4_isName_15
theorem s_X4_isName_14 {G : am_G} {bc bs : Nat} (X : am_Cx G cX4_isName RX4 "isName" rm_X4_isName (some .boolean) 1 bc bs true) : am_S G 14 (t_X4_isName_14) := by
  unfold t_X4_isName_14
  refine as_iconst (pc := 14) X dX4_isName_14 (by decide) ?_
  exact s_X4_isName_15 X
theorem s_X4_isName_0 {G : am_G} {bc bs : Nat} (X : am_Cx G cX4_isName RX4 "isName" rm_X4_isName (some .boolean) 1 bc bs true) : am_S G 0 (t_X4_isName_0) := by
  unfold t_X4_isName_0
  refine as_iload_n (pc := 0) X dX4_isName_0 rfl ?_
  refine as_if_lt (pc := 1) X 14 dX4_isName_1 (by decide) (s_X4_isName_14 X) ?_
  refine as_iload_n (pc := 4) X dX4_isName_4 rfl ?_
  refine as_bipush (pc := 5) X dX4_isName_5 (by decide) ?_
  refine as_ic_ge (pc := 7) X 14 dX4_isName_7 (by decide) (s_X4_isName_14 X) ?_
  refine as_iconst (pc := 10) X dX4_isName_10 (by decide) ?_
  exact as_goto (pc := 11) X 15 dX4_isName_11 (by decide) (s_X4_isName_15 X)
theorem s_X4_isName {G : am_G} {bc bs : Nat} (X : am_Cx G cX4_isName RX4 "isName" rm_X4_isName (some .boolean) 1 bc bs true) (h : Nat) : am_S G h (h_X4_isName h) := by
  unfold h_X4_isName
  split
  · next e => rw [e]; exact s_X4_isName_0 X
  exact as_bad
theorem ct_X4_isName : am_Ct yX4_isName cX4_isName 1 (some .boolean) rm_X4_isName sp_X4_isName := am_met (own := RX4) (nm := "isName") (by decide) rfl rfl (Or.inr (Or.inr (Or.inl rfl))) (fun _ _ => h_X4_isName) (fun _ _ _ X => s_X4_isName X) (fun _ _ _ _ h => h)
-- X4_isTime
theorem dX4_isTime_0 : decode cX4_isTime 0 = .ok (.iload_n 0, 1) := by decide +kernel
theorem dX4_isTime_1 : decode cX4_isTime 1 = .ok (.ifCond .lt 13, 3) := by decide +kernel
theorem dX4_isTime_4 : decode cX4_isTime 4 = .ok (.iload_n 0, 1) := by decide +kernel
theorem dX4_isTime_5 : decode cX4_isTime 5 = .ok (.ldc 145, 2) := by decide +kernel
theorem dX4_isTime_7 : decode cX4_isTime 7 = .ok (.if_icmp .gt 7, 3) := by decide +kernel
theorem dX4_isTime_10 : decode cX4_isTime 10 = .ok (.iconst 1, 1) := by decide +kernel
theorem dX4_isTime_11 : decode cX4_isTime 11 = .ok (.goto 4, 3) := by decide +kernel
theorem dX4_isTime_14 : decode cX4_isTime 14 = .ok (.iconst 0, 1) := by decide +kernel
theorem dX4_isTime_15 : decode cX4_isTime 15 = .ok (.ireturn, 1) := by decide +kernel
def t_X4_isTime_15 : am_T := tb_zret
def t_X4_isTime_14 : am_T := tb_const 0 <|
  t_X4_isTime_15
def t_X4_isTime_0 : am_T := tb_iload 0 <|
  tb_if (fun x => x < 0) (t_X4_isTime_14) <|
  tb_iload 0 <|
  tb_const (100000) <|
  tb_ic (fun x y => y < x) (t_X4_isTime_14) <|
  tb_const 1 <|
  t_X4_isTime_15
def h_X4_isTime : am_Hd := fun h => if h = 0 then t_X4_isTime_0 else tb_bad
theorem h_X4_isTime_0 : h_X4_isTime 0 = t_X4_isTime_0 := rfl
def rm_X4_isTime : Room := { frames := 0, cells := 0, slots := 0, locals := 0 }
def sp_X4_isTime : am_sp := fun as M Q => as.length ≤ 1 ∧ am_OK h_X4_isTime Q 0 (am_in 1 as) M
theorem s_X4_isTime_15 {G : am_G} {bc bs : Nat} (X : am_Cx G cX4_isTime RX4 "isTime" rm_X4_isTime (some .boolean) 1 bc bs true) : am_S G 15 (t_X4_isTime_15) := by
  unfold t_X4_isTime_15
  exact as_zret (pc := 15) X ⟨rfl, rfl⟩ rfl dX4_isTime_15
theorem s_X4_isTime_14 {G : am_G} {bc bs : Nat} (X : am_Cx G cX4_isTime RX4 "isTime" rm_X4_isTime (some .boolean) 1 bc bs true) : am_S G 14 (t_X4_isTime_14) := by
  unfold t_X4_isTime_14
  refine as_iconst (pc := 14) X dX4_isTime_14 (by decide) ?_
  exact s_X4_isTime_15 X
theorem s_X4_isTime_0 {G : am_G} {bc bs : Nat} (X : am_Cx G cX4_isTime RX4 "isTime" rm_X4_isTime (some .boolean) 1 bc bs true) : am_S G 0 (t_X4_isTime_0) := by
  unfold t_X4_isTime_0
  refine as_iload_n (pc := 0) X dX4_isTime_0 rfl ?_
  refine as_if_lt (pc := 1) X 14 dX4_isTime_1 (by decide) (s_X4_isTime_14 X) ?_
  refine as_iload_n (pc := 4) X dX4_isTime_4 rfl ?_
  refine as_ldc (pc := 5) X dX4_isTime_5 aw_309 ?_
  refine as_ic_gt (pc := 7) X 14 dX4_isTime_7 (by decide) (s_X4_isTime_14 X) ?_
  refine as_iconst (pc := 10) X dX4_isTime_10 (by decide) ?_
  exact as_goto (pc := 11) X 15 dX4_isTime_11 (by decide) (s_X4_isTime_15 X)
theorem s_X4_isTime {G : am_G} {bc bs : Nat} (X : am_Cx G cX4_isTime RX4 "isTime" rm_X4_isTime (some .boolean) 1 bc bs true) (h : Nat) : am_S G h (h_X4_isTime h) := by
  unfold h_X4_isTime
  split
  · next e => rw [e]; exact s_X4_isTime_0 X
  exact as_bad
theorem ct_X4_isTime : am_Ct yX4_isTime cX4_isTime 1 (some .boolean) rm_X4_isTime sp_X4_isTime := am_met (own := RX4) (nm := "isTime") (by decide) rfl rfl (Or.inr (Or.inr (Or.inl rfl))) (fun _ _ => h_X4_isTime) (fun _ _ _ X => s_X4_isTime X) (fun _ _ _ _ h => h)
-- X1_nameAt
theorem dX1_nameAt_0 : decode cX1_nameAt 0 = .ok (.aload_n 0, 1) := by decide +kernel
theorem dX1_nameAt_1 : decode cX1_nameAt 1 = .ok (.getfield 9, 3) := by decide +kernel
theorem dX1_nameAt_4 : decode cX1_nameAt 4 = .ok (.iconst 1, 1) := by decide +kernel
theorem dX1_nameAt_5 : decode cX1_nameAt 5 = .ok (.isub, 1) := by decide +kernel
theorem dX1_nameAt_6 : decode cX1_nameAt 6 = .ok (.istore_n 3, 1) := by decide +kernel
theorem dX1_nameAt_7 : decode cX1_nameAt 7 = .ok (.iload_n 3, 1) := by decide +kernel
theorem dX1_nameAt_8 : decode cX1_nameAt 8 = .ok (.ifCond .lt 36, 3) := by decide +kernel
theorem dX1_nameAt_11 : decode cX1_nameAt 11 = .ok (.aload_n 0, 1) := by decide +kernel
theorem dX1_nameAt_12 : decode cX1_nameAt 12 = .ok (.getfield 15, 3) := by decide +kernel
theorem dX1_nameAt_15 : decode cX1_nameAt 15 = .ok (.iload_n 3, 1) := by decide +kernel
theorem dX1_nameAt_16 : decode cX1_nameAt 16 = .ok (.iaload, 1) := by decide +kernel
theorem dX1_nameAt_17 : decode cX1_nameAt 17 = .ok (.iload_n 1, 1) := by decide +kernel
theorem dX1_nameAt_18 : decode cX1_nameAt 18 = .ok (.if_icmp .ne 20, 3) := by decide +kernel
theorem dX1_nameAt_21 : decode cX1_nameAt 21 = .ok (.aload_n 0, 1) := by decide +kernel
theorem dX1_nameAt_22 : decode cX1_nameAt 22 = .ok (.getfield 22, 3) := by decide +kernel
theorem dX1_nameAt_25 : decode cX1_nameAt 25 = .ok (.iload_n 3, 1) := by decide +kernel
theorem dX1_nameAt_26 : decode cX1_nameAt 26 = .ok (.iaload, 1) := by decide +kernel
theorem dX1_nameAt_27 : decode cX1_nameAt 27 = .ok (.iload_n 2, 1) := by decide +kernel
theorem dX1_nameAt_28 : decode cX1_nameAt 28 = .ok (.if_icmp .gt 10, 3) := by decide +kernel
theorem dX1_nameAt_31 : decode cX1_nameAt 31 = .ok (.aload_n 0, 1) := by decide +kernel
theorem dX1_nameAt_32 : decode cX1_nameAt 32 = .ok (.getfield 19, 3) := by decide +kernel
theorem dX1_nameAt_35 : decode cX1_nameAt 35 = .ok (.iload_n 3, 1) := by decide +kernel
theorem dX1_nameAt_36 : decode cX1_nameAt 36 = .ok (.iaload, 1) := by decide +kernel
theorem dX1_nameAt_37 : decode cX1_nameAt 37 = .ok (.ireturn, 1) := by decide +kernel
theorem dX1_nameAt_38 : decode cX1_nameAt 38 = .ok (.iinc 3 (-1), 3) := by decide +kernel
theorem dX1_nameAt_41 : decode cX1_nameAt 41 = .ok (.goto (-34), 3) := by decide +kernel
theorem dX1_nameAt_44 : decode cX1_nameAt 44 = .ok (.iconst (-1), 1) := by decide +kernel
theorem dX1_nameAt_45 : decode cX1_nameAt 45 = .ok (.ireturn, 1) := by decide +kernel
def t_X1_nameAt_44 : am_T := tb_const (-1) <|
  tb_iret
def t_X1_nameAt_38 : am_T := tb_iinc 3 (-1) <|
  tb_head 7
def t_X1_nameAt_7 : am_T := tb_iload 3 <|
  tb_if (fun x => x < 0) (t_X1_nameAt_44) <|
  tb_aload 0 <|
  tb_getR 1 1 <|
  tb_iload 3 <|
  tb_iald <|
  tb_iload 1 <|
  tb_ic (fun x y => x ≠ y) (t_X1_nameAt_38) <|
  tb_aload 0 <|
  tb_getR 1 3 <|
  tb_iload 3 <|
  tb_iald <|
  tb_iload 2 <|
  tb_ic (fun x y => y < x) (t_X1_nameAt_38) <|
  tb_aload 0 <|
  tb_getR 1 2 <|
  tb_iload 3 <|
  tb_iald <|
  tb_iret
def t_X1_nameAt_0 : am_T := tb_aload 0 <|
  tb_getI 1 0 <|
  tb_const 1 <|
  tb_bin (fun x y => x - y) <|
  tb_istore 3 <|
  tb_head 7
def h_X1_nameAt : am_Hd := fun h => if h = 0 then t_X1_nameAt_0 else if h = 7 then t_X1_nameAt_7 else tb_bad
theorem h_X1_nameAt_0 : h_X1_nameAt 0 = t_X1_nameAt_0 := rfl
theorem h_X1_nameAt_7 : h_X1_nameAt 7 = t_X1_nameAt_7 := rfl
def rm_X1_nameAt : Room := { frames := 0, cells := 0, slots := 0, locals := 0 }
def sp_X1_nameAt : am_sp := fun as M Q => as.length ≤ 4 ∧ am_OK h_X1_nameAt Q 0 (am_in 4 as) M
theorem s_X1_nameAt_44 {G : am_G} {bc bs : Nat} (X : am_Cx G cX1_nameAt RX1 "nameAt" rm_X1_nameAt (some .int) 4 bc bs true) : am_S G 44 (t_X1_nameAt_44) := by
  unfold t_X1_nameAt_44
  refine as_iconst (pc := 44) X dX1_nameAt_44 (by decide) ?_
  exact as_iret (pc := 45) X ⟨rfl, rfl⟩ rfl dX1_nameAt_45
theorem s_X1_nameAt_38 {G : am_G} {bc bs : Nat} (X : am_Cx G cX1_nameAt RX1 "nameAt" rm_X1_nameAt (some .int) 4 bc bs true) : am_S G 38 (t_X1_nameAt_38) := by
  unfold t_X1_nameAt_38
  refine as_iinc (pc := 38) X dX1_nameAt_38 (by decide) (by decide) ?_
  exact as_goto (pc := 41) X 7 dX1_nameAt_41 (by decide) (as_head)
theorem s_X1_nameAt_7 {G : am_G} {bc bs : Nat} (X : am_Cx G cX1_nameAt RX1 "nameAt" rm_X1_nameAt (some .int) 4 bc bs true) : am_S G 7 (t_X1_nameAt_7) := by
  unfold t_X1_nameAt_7
  refine as_iload_n (pc := 7) X dX1_nameAt_7 rfl ?_
  refine as_if_lt (pc := 8) X 44 dX1_nameAt_8 (by decide) (s_X1_nameAt_44 X) ?_
  refine as_aload_n (pc := 11) X dX1_nameAt_11 rfl ?_
  refine as_getR (ci := 1) (j := 1) (pc := 12) X (Cn := RX1) (Tf := TX1) (N := 14) rfl rfl (by decide) iw_X1 aw_95 rfl dX1_nameAt_12 ?_
  refine as_iload_n (pc := 15) X dX1_nameAt_15 rfl ?_
  refine as_iald (pc := 16) X dX1_nameAt_16 ?_
  refine as_iload_n (pc := 17) X dX1_nameAt_17 rfl ?_
  refine as_ic_ne (pc := 18) X 38 dX1_nameAt_18 (by decide) (s_X1_nameAt_38 X) ?_
  refine as_aload_n (pc := 21) X dX1_nameAt_21 rfl ?_
  refine as_getR (ci := 1) (j := 3) (pc := 22) X (Cn := RX1) (Tf := TX1) (N := 14) rfl rfl (by decide) iw_X1 aw_97 rfl dX1_nameAt_22 ?_
  refine as_iload_n (pc := 25) X dX1_nameAt_25 rfl ?_
  refine as_iald (pc := 26) X dX1_nameAt_26 ?_
  refine as_iload_n (pc := 27) X dX1_nameAt_27 rfl ?_
  refine as_ic_gt (pc := 28) X 38 dX1_nameAt_28 (by decide) (s_X1_nameAt_38 X) ?_
  refine as_aload_n (pc := 31) X dX1_nameAt_31 rfl ?_
  refine as_getR (ci := 1) (j := 2) (pc := 32) X (Cn := RX1) (Tf := TX1) (N := 14) rfl rfl (by decide) iw_X1 aw_96 rfl dX1_nameAt_32 ?_
  refine as_iload_n (pc := 35) X dX1_nameAt_35 rfl ?_
  refine as_iald (pc := 36) X dX1_nameAt_36 ?_
  exact as_iret (pc := 37) X ⟨rfl, rfl⟩ rfl dX1_nameAt_37
theorem s_X1_nameAt_0 {G : am_G} {bc bs : Nat} (X : am_Cx G cX1_nameAt RX1 "nameAt" rm_X1_nameAt (some .int) 4 bc bs true) : am_S G 0 (t_X1_nameAt_0) := by
  unfold t_X1_nameAt_0
  refine as_aload_n (pc := 0) X dX1_nameAt_0 rfl ?_
  refine as_getI (ci := 1) (j := 0) (pc := 1) X (Cn := RX1) (Tf := TX1) (N := 14) rfl rfl (by decide) iw_X1 aw_93 rfl dX1_nameAt_1 ?_
  refine as_iconst (pc := 4) X dX1_nameAt_4 (by decide) ?_
  refine as_isub (pc := 5) X dX1_nameAt_5 ?_
  refine as_istore_n (pc := 6) X dX1_nameAt_6 rfl ?_ (by decide)
  exact as_head
theorem s_X1_nameAt {G : am_G} {bc bs : Nat} (X : am_Cx G cX1_nameAt RX1 "nameAt" rm_X1_nameAt (some .int) 4 bc bs true) (h : Nat) : am_S G h (h_X1_nameAt h) := by
  unfold h_X1_nameAt
  split
  · next e => rw [e]; exact s_X1_nameAt_0 X
  split
  · next e => rw [e]; exact s_X1_nameAt_7 X
  exact as_bad
theorem ct_X1_nameAt : am_Ct yX1_nameAt cX1_nameAt 4 (some .int) rm_X1_nameAt sp_X1_nameAt := am_met (own := RX1) (nm := "nameAt") (by decide) rfl rfl (Or.inr (Or.inl rfl)) (fun _ _ => h_X1_nameAt) (fun _ _ _ X => s_X1_nameAt X) (fun _ _ _ _ h => h)
-- X1_holderAt
theorem dX1_holderAt_0 : decode cX1_holderAt 0 = .ok (.iconst 0, 1) := by decide +kernel
theorem dX1_holderAt_1 : decode cX1_holderAt 1 = .ok (.istore_n 3, 1) := by decide +kernel
theorem dX1_holderAt_2 : decode cX1_holderAt 2 = .ok (.iload_n 3, 1) := by decide +kernel
theorem dX1_holderAt_3 : decode cX1_holderAt 3 = .ok (.bipush 12, 2) := by decide +kernel
theorem dX1_holderAt_5 : decode cX1_holderAt 5 = .ok (.if_icmp .ge 21, 3) := by decide +kernel
theorem dX1_holderAt_8 : decode cX1_holderAt 8 = .ok (.aload_n 0, 1) := by decide +kernel
theorem dX1_holderAt_9 : decode cX1_holderAt 9 = .ok (.iload_n 3, 1) := by decide +kernel
theorem dX1_holderAt_10 : decode cX1_holderAt 10 = .ok (.iload_n 2, 1) := by decide +kernel
theorem dX1_holderAt_11 : decode cX1_holderAt 11 = .ok (.invokevirtual 64, 3) := by decide +kernel
theorem dX1_holderAt_14 : decode cX1_holderAt 14 = .ok (.iload_n 1, 1) := by decide +kernel
theorem dX1_holderAt_15 : decode cX1_holderAt 15 = .ok (.if_icmp .ne 5, 3) := by decide +kernel
theorem dX1_holderAt_18 : decode cX1_holderAt 18 = .ok (.iload_n 3, 1) := by decide +kernel
theorem dX1_holderAt_19 : decode cX1_holderAt 19 = .ok (.ireturn, 1) := by decide +kernel
theorem dX1_holderAt_20 : decode cX1_holderAt 20 = .ok (.iinc 3 1, 3) := by decide +kernel
theorem dX1_holderAt_23 : decode cX1_holderAt 23 = .ok (.goto (-21), 3) := by decide +kernel
theorem dX1_holderAt_26 : decode cX1_holderAt 26 = .ok (.iconst (-1), 1) := by decide +kernel
theorem dX1_holderAt_27 : decode cX1_holderAt 27 = .ok (.ireturn, 1) := by decide +kernel
def t_X1_holderAt_26 : am_T := tb_const (-1) <|
  tb_iret
def t_X1_holderAt_20 : am_T := tb_iinc 3 1 <|
  tb_head 2
def t_X1_holderAt_2 : am_T := tb_iload 3 <|
  tb_const 12 <|
  tb_ic (fun x y => y ≤ x) (t_X1_holderAt_26) <|
  tb_aload 0 <|
  tb_iload 3 <|
  tb_iload 2 <|
  tb_callV 1 sp_X1_nameAt 3 <|
  tb_iload 1 <|
  tb_ic (fun x y => x ≠ y) (t_X1_holderAt_20) <|
  tb_iload 3 <|
  tb_iret
def t_X1_holderAt_0 : am_T := tb_const 0 <|
  tb_istore 3 <|
  tb_head 2
def h_X1_holderAt : am_Hd := fun h => if h = 0 then t_X1_holderAt_0 else if h = 2 then t_X1_holderAt_2 else tb_bad
theorem h_X1_holderAt_0 : h_X1_holderAt 0 = t_X1_holderAt_0 := rfl
theorem h_X1_holderAt_2 : h_X1_holderAt 2 = t_X1_holderAt_2 := rfl
def rm_X1_holderAt : Room := { frames := 1, cells := 0, slots := 0, locals := 23 }
def sp_X1_holderAt : am_sp := fun as M Q => as.length ≤ 4 ∧ am_OK h_X1_holderAt Q 0 (am_in 4 as) M
theorem s_X1_holderAt_26 {G : am_G} {bc bs : Nat} (X : am_Cx G cX1_holderAt RX1 "holderAt" rm_X1_holderAt (some .int) 4 bc bs true) : am_S G 26 (t_X1_holderAt_26) := by
  unfold t_X1_holderAt_26
  refine as_iconst (pc := 26) X dX1_holderAt_26 (by decide) ?_
  exact as_iret (pc := 27) X ⟨rfl, rfl⟩ rfl dX1_holderAt_27
theorem s_X1_holderAt_20 {G : am_G} {bc bs : Nat} (X : am_Cx G cX1_holderAt RX1 "holderAt" rm_X1_holderAt (some .int) 4 bc bs true) : am_S G 20 (t_X1_holderAt_20) := by
  unfold t_X1_holderAt_20
  refine as_iinc (pc := 20) X dX1_holderAt_20 (by decide) (by decide) ?_
  exact as_goto (pc := 23) X 2 dX1_holderAt_23 (by decide) (as_head)
theorem s_X1_holderAt_2 {G : am_G} {bc bs : Nat} (X : am_Cx G cX1_holderAt RX1 "holderAt" rm_X1_holderAt (some .int) 4 bc bs true) : am_S G 2 (t_X1_holderAt_2) := by
  unfold t_X1_holderAt_2
  refine as_iload_n (pc := 2) X dX1_holderAt_2 rfl ?_
  refine as_bipush (pc := 3) X dX1_holderAt_3 (by decide) ?_
  refine as_ic_ge (pc := 5) X 26 dX1_holderAt_5 (by decide) (s_X1_holderAt_26 X) ?_
  refine as_aload_n (pc := 8) X dX1_holderAt_8 rfl ?_
  refine as_iload_n (pc := 9) X dX1_holderAt_9 rfl ?_
  refine as_iload_n (pc := 10) X dX1_holderAt_10 rfl ?_
  refine as_callV (ci := 1) (np := 2) (ix := 64) (pc := 11) X ct_X1_nameAt (Cn := (RX1, TX1, 14)) rfl ⟨rfl, rfl⟩ aw_314 aw_315 aw_316 aw_317 aw_61 (by decide +kernel) (by decide) dX1_holderAt_11 ?_
  refine as_iload_n (pc := 14) X dX1_holderAt_14 rfl ?_
  refine as_ic_ne (pc := 15) X 20 dX1_holderAt_15 (by decide) (s_X1_holderAt_20 X) ?_
  refine as_iload_n (pc := 18) X dX1_holderAt_18 rfl ?_
  exact as_iret (pc := 19) X ⟨rfl, rfl⟩ rfl dX1_holderAt_19
theorem s_X1_holderAt_0 {G : am_G} {bc bs : Nat} (X : am_Cx G cX1_holderAt RX1 "holderAt" rm_X1_holderAt (some .int) 4 bc bs true) : am_S G 0 (t_X1_holderAt_0) := by
  unfold t_X1_holderAt_0
  refine as_iconst (pc := 0) X dX1_holderAt_0 (by decide) ?_
  refine as_istore_n (pc := 1) X dX1_holderAt_1 rfl ?_ (by decide)
  exact as_head
theorem s_X1_holderAt {G : am_G} {bc bs : Nat} (X : am_Cx G cX1_holderAt RX1 "holderAt" rm_X1_holderAt (some .int) 4 bc bs true) (h : Nat) : am_S G h (h_X1_holderAt h) := by
  unfold h_X1_holderAt
  split
  · next e => rw [e]; exact s_X1_holderAt_0 X
  split
  · next e => rw [e]; exact s_X1_holderAt_2 X
  exact as_bad
theorem ct_X1_holderAt : am_Ct yX1_holderAt cX1_holderAt 4 (some .int) rm_X1_holderAt sp_X1_holderAt := am_met (own := RX1) (nm := "holderAt") (by decide) rfl rfl (Or.inr (Or.inl rfl)) (fun _ _ => h_X1_holderAt) (fun _ _ _ X => s_X1_holderAt X) (fun _ _ _ _ h => h)
-- X1_lastTakeTime
theorem dX1_lastTakeTime_0 : decode cX1_lastTakeTime 0 = .ok (.aload_n 0, 1) := by decide +kernel
theorem dX1_lastTakeTime_1 : decode cX1_lastTakeTime 1 = .ok (.getfield 9, 3) := by decide +kernel
theorem dX1_lastTakeTime_4 : decode cX1_lastTakeTime 4 = .ok (.ifCond .ne 7, 3) := by decide +kernel
theorem dX1_lastTakeTime_7 : decode cX1_lastTakeTime 7 = .ok (.iconst 0, 1) := by decide +kernel
theorem dX1_lastTakeTime_8 : decode cX1_lastTakeTime 8 = .ok (.goto 14, 3) := by decide +kernel
theorem dX1_lastTakeTime_11 : decode cX1_lastTakeTime 11 = .ok (.aload_n 0, 1) := by decide +kernel
theorem dX1_lastTakeTime_12 : decode cX1_lastTakeTime 12 = .ok (.getfield 22, 3) := by decide +kernel
theorem dX1_lastTakeTime_15 : decode cX1_lastTakeTime 15 = .ok (.aload_n 0, 1) := by decide +kernel
theorem dX1_lastTakeTime_16 : decode cX1_lastTakeTime 16 = .ok (.getfield 9, 3) := by decide +kernel
theorem dX1_lastTakeTime_19 : decode cX1_lastTakeTime 19 = .ok (.iconst 1, 1) := by decide +kernel
theorem dX1_lastTakeTime_20 : decode cX1_lastTakeTime 20 = .ok (.isub, 1) := by decide +kernel
theorem dX1_lastTakeTime_21 : decode cX1_lastTakeTime 21 = .ok (.iaload, 1) := by decide +kernel
theorem dX1_lastTakeTime_22 : decode cX1_lastTakeTime 22 = .ok (.ireturn, 1) := by decide +kernel
def t_X1_lastTakeTime_22 : am_T := tb_iret
def t_X1_lastTakeTime_11 : am_T := tb_aload 0 <|
  tb_getR 1 3 <|
  tb_aload 0 <|
  tb_getI 1 0 <|
  tb_const 1 <|
  tb_bin (fun x y => x - y) <|
  tb_iald <|
  t_X1_lastTakeTime_22
def t_X1_lastTakeTime_0 : am_T := tb_aload 0 <|
  tb_getI 1 0 <|
  tb_if (fun x => x ≠ 0) (t_X1_lastTakeTime_11) <|
  tb_const 0 <|
  t_X1_lastTakeTime_22
def h_X1_lastTakeTime : am_Hd := fun h => if h = 0 then t_X1_lastTakeTime_0 else tb_bad
theorem h_X1_lastTakeTime_0 : h_X1_lastTakeTime 0 = t_X1_lastTakeTime_0 := rfl
def rm_X1_lastTakeTime : Room := { frames := 0, cells := 0, slots := 0, locals := 0 }
def sp_X1_lastTakeTime : am_sp := fun as M Q => as.length ≤ 1 ∧ am_OK h_X1_lastTakeTime Q 0 (am_in 1 as) M
theorem s_X1_lastTakeTime_22 {G : am_G} {bc bs : Nat} (X : am_Cx G cX1_lastTakeTime RX1 "lastTakeTime" rm_X1_lastTakeTime (some .int) 1 bc bs true) : am_S G 22 (t_X1_lastTakeTime_22) := by
  unfold t_X1_lastTakeTime_22
  exact as_iret (pc := 22) X ⟨rfl, rfl⟩ rfl dX1_lastTakeTime_22
theorem s_X1_lastTakeTime_11 {G : am_G} {bc bs : Nat} (X : am_Cx G cX1_lastTakeTime RX1 "lastTakeTime" rm_X1_lastTakeTime (some .int) 1 bc bs true) : am_S G 11 (t_X1_lastTakeTime_11) := by
  unfold t_X1_lastTakeTime_11
  refine as_aload_n (pc := 11) X dX1_lastTakeTime_11 rfl ?_
  refine as_getR (ci := 1) (j := 3) (pc := 12) X (Cn := RX1) (Tf := TX1) (N := 14) rfl rfl (by decide) iw_X1 aw_97 rfl dX1_lastTakeTime_12 ?_
  refine as_aload_n (pc := 15) X dX1_lastTakeTime_15 rfl ?_
  refine as_getI (ci := 1) (j := 0) (pc := 16) X (Cn := RX1) (Tf := TX1) (N := 14) rfl rfl (by decide) iw_X1 aw_93 rfl dX1_lastTakeTime_16 ?_
  refine as_iconst (pc := 19) X dX1_lastTakeTime_19 (by decide) ?_
  refine as_isub (pc := 20) X dX1_lastTakeTime_20 ?_
  refine as_iald (pc := 21) X dX1_lastTakeTime_21 ?_
  exact s_X1_lastTakeTime_22 X
theorem s_X1_lastTakeTime_0 {G : am_G} {bc bs : Nat} (X : am_Cx G cX1_lastTakeTime RX1 "lastTakeTime" rm_X1_lastTakeTime (some .int) 1 bc bs true) : am_S G 0 (t_X1_lastTakeTime_0) := by
  unfold t_X1_lastTakeTime_0
  refine as_aload_n (pc := 0) X dX1_lastTakeTime_0 rfl ?_
  refine as_getI (ci := 1) (j := 0) (pc := 1) X (Cn := RX1) (Tf := TX1) (N := 14) rfl rfl (by decide) iw_X1 aw_93 rfl dX1_lastTakeTime_1 ?_
  refine as_if_ne (pc := 4) X 11 dX1_lastTakeTime_4 (by decide) (s_X1_lastTakeTime_11 X) ?_
  refine as_iconst (pc := 7) X dX1_lastTakeTime_7 (by decide) ?_
  exact as_goto (pc := 8) X 22 dX1_lastTakeTime_8 (by decide) (s_X1_lastTakeTime_22 X)
theorem s_X1_lastTakeTime {G : am_G} {bc bs : Nat} (X : am_Cx G cX1_lastTakeTime RX1 "lastTakeTime" rm_X1_lastTakeTime (some .int) 1 bc bs true) (h : Nat) : am_S G h (h_X1_lastTakeTime h) := by
  unfold h_X1_lastTakeTime
  split
  · next e => rw [e]; exact s_X1_lastTakeTime_0 X
  exact as_bad
theorem ct_X1_lastTakeTime : am_Ct yX1_lastTakeTime cX1_lastTakeTime 1 (some .int) rm_X1_lastTakeTime sp_X1_lastTakeTime := am_met (own := RX1) (nm := "lastTakeTime") (by decide) rfl rfl (Or.inr (Or.inl rfl)) (fun _ _ => h_X1_lastTakeTime) (fun _ _ _ X => s_X1_lastTakeTime X) (fun _ _ _ _ h => h)
-- X0_dropOldest
theorem dX0_dropOldest_0 : decode cX0_dropOldest 0 = .ok (.aload_n 0, 1) := by decide +kernel
theorem dX0_dropOldest_1 : decode cX0_dropOldest 1 = .ok (.getfield 17, 3) := by decide +kernel
theorem dX0_dropOldest_4 : decode cX0_dropOldest 4 = .ok (.iconst 0, 1) := by decide +kernel
theorem dX0_dropOldest_5 : decode cX0_dropOldest 5 = .ok (.aaload, 1) := by decide +kernel
theorem dX0_dropOldest_6 : decode cX0_dropOldest 6 = .ok (.astore_n 1, 1) := by decide +kernel
theorem dX0_dropOldest_7 : decode cX0_dropOldest 7 = .ok (.iconst 1, 1) := by decide +kernel
theorem dX0_dropOldest_8 : decode cX0_dropOldest 8 = .ok (.istore_n 2, 1) := by decide +kernel
theorem dX0_dropOldest_9 : decode cX0_dropOldest 9 = .ok (.iload_n 2, 1) := by decide +kernel
theorem dX0_dropOldest_10 : decode cX0_dropOldest 10 = .ok (.iconst 4, 1) := by decide +kernel
theorem dX0_dropOldest_11 : decode cX0_dropOldest 11 = .ok (.if_icmp .ge 23, 3) := by decide +kernel
theorem dX0_dropOldest_14 : decode cX0_dropOldest 14 = .ok (.aload_n 0, 1) := by decide +kernel
theorem dX0_dropOldest_15 : decode cX0_dropOldest 15 = .ok (.getfield 17, 3) := by decide +kernel
theorem dX0_dropOldest_18 : decode cX0_dropOldest 18 = .ok (.iload_n 2, 1) := by decide +kernel
theorem dX0_dropOldest_19 : decode cX0_dropOldest 19 = .ok (.iconst 1, 1) := by decide +kernel
theorem dX0_dropOldest_20 : decode cX0_dropOldest 20 = .ok (.isub, 1) := by decide +kernel
theorem dX0_dropOldest_21 : decode cX0_dropOldest 21 = .ok (.aload_n 0, 1) := by decide +kernel
theorem dX0_dropOldest_22 : decode cX0_dropOldest 22 = .ok (.getfield 17, 3) := by decide +kernel
theorem dX0_dropOldest_25 : decode cX0_dropOldest 25 = .ok (.iload_n 2, 1) := by decide +kernel
theorem dX0_dropOldest_26 : decode cX0_dropOldest 26 = .ok (.aaload, 1) := by decide +kernel
theorem dX0_dropOldest_27 : decode cX0_dropOldest 27 = .ok (.aastore, 1) := by decide +kernel
theorem dX0_dropOldest_28 : decode cX0_dropOldest 28 = .ok (.iinc 2 1, 3) := by decide +kernel
theorem dX0_dropOldest_31 : decode cX0_dropOldest 31 = .ok (.goto (-22), 3) := by decide +kernel
theorem dX0_dropOldest_34 : decode cX0_dropOldest 34 = .ok (.aload_n 0, 1) := by decide +kernel
theorem dX0_dropOldest_35 : decode cX0_dropOldest 35 = .ok (.getfield 17, 3) := by decide +kernel
theorem dX0_dropOldest_38 : decode cX0_dropOldest 38 = .ok (.iconst 3, 1) := by decide +kernel
theorem dX0_dropOldest_39 : decode cX0_dropOldest 39 = .ok (.aload_n 1, 1) := by decide +kernel
theorem dX0_dropOldest_40 : decode cX0_dropOldest 40 = .ok (.aastore, 1) := by decide +kernel
theorem dX0_dropOldest_41 : decode cX0_dropOldest 41 = .ok (.aload_n 0, 1) := by decide +kernel
theorem dX0_dropOldest_42 : decode cX0_dropOldest 42 = .ok (.dup, 1) := by decide +kernel
theorem dX0_dropOldest_43 : decode cX0_dropOldest 43 = .ok (.getfield 9, 3) := by decide +kernel
theorem dX0_dropOldest_46 : decode cX0_dropOldest 46 = .ok (.iconst 1, 1) := by decide +kernel
theorem dX0_dropOldest_47 : decode cX0_dropOldest 47 = .ok (.isub, 1) := by decide +kernel
theorem dX0_dropOldest_48 : decode cX0_dropOldest 48 = .ok (.putfield 9, 3) := by decide +kernel
theorem dX0_dropOldest_51 : decode cX0_dropOldest 51 = .ok (.return_, 1) := by decide +kernel
def t_X0_dropOldest_34 : am_T := tb_aload 0 <|
  tb_getR 0 1 <|
  tb_const 3 <|
  tb_aload 1 <|
  tb_aast <|
  tb_aload 0 <|
  tb_dup <|
  tb_getI 0 0 <|
  tb_const 1 <|
  tb_bin (fun x y => x - y) <|
  tb_putI 0 0 <|
  tb_ret
def t_X0_dropOldest_9 : am_T := tb_iload 2 <|
  tb_const 4 <|
  tb_ic (fun x y => y ≤ x) (t_X0_dropOldest_34) <|
  tb_aload 0 <|
  tb_getR 0 1 <|
  tb_iload 2 <|
  tb_const 1 <|
  tb_bin (fun x y => x - y) <|
  tb_aload 0 <|
  tb_getR 0 1 <|
  tb_iload 2 <|
  tb_aald <|
  tb_aast <|
  tb_iinc 2 1 <|
  tb_head 9
def t_X0_dropOldest_0 : am_T := tb_aload 0 <|
  tb_getR 0 1 <|
  tb_const 0 <|
  tb_aald <|
  tb_astore 1 <|
  tb_const 1 <|
  tb_istore 2 <|
  tb_head 9
def h_X0_dropOldest : am_Hd := fun h => if h = 0 then t_X0_dropOldest_0 else if h = 9 then t_X0_dropOldest_9 else tb_bad
theorem h_X0_dropOldest_0 : h_X0_dropOldest 0 = t_X0_dropOldest_0 := rfl
theorem h_X0_dropOldest_9 : h_X0_dropOldest 9 = t_X0_dropOldest_9 := rfl
def rm_X0_dropOldest : Room := { frames := 0, cells := 0, slots := 0, locals := 0 }
def sp_X0_dropOldest : am_sp := fun as M Q => as.length ≤ 3 ∧ am_OK h_X0_dropOldest Q 0 (am_in 3 as) M
theorem s_X0_dropOldest_34 {G : am_G} {bc bs : Nat} (X : am_Cx G cX0_dropOldest RX0 "dropOldest" rm_X0_dropOldest none 3 bc bs true) : am_S G 34 (t_X0_dropOldest_34) := by
  unfold t_X0_dropOldest_34
  refine as_aload_n (pc := 34) X dX0_dropOldest_34 rfl ?_
  refine as_getR (ci := 0) (j := 1) (pc := 35) X (Cn := RX0) (Tf := TX0) (N := 2) rfl rfl (by decide) iw_X0 aw_232 rfl dX0_dropOldest_35 ?_
  refine as_iconst (pc := 38) X dX0_dropOldest_38 (by decide) ?_
  refine as_aload_n (pc := 39) X dX0_dropOldest_39 rfl ?_
  refine as_aast (pc := 40) X dX0_dropOldest_40 ?_
  refine as_aload_n (pc := 41) X dX0_dropOldest_41 rfl ?_
  refine as_dup (pc := 42) X dX0_dropOldest_42 ?_
  refine as_getI (ci := 0) (j := 0) (pc := 43) X (Cn := RX0) (Tf := TX0) (N := 2) rfl rfl (by decide) iw_X0 aw_230 rfl dX0_dropOldest_43 ?_
  refine as_iconst (pc := 46) X dX0_dropOldest_46 (by decide) ?_
  refine as_isub (pc := 47) X dX0_dropOldest_47 ?_
  refine as_putI (ci := 0) (j := 0) (pc := 48) X (Cn := RX0) (Tf := TX0) (N := 2) rfl rfl (by decide) iw_X0 aw_230 tyX0 tyX0_ok nmX0 rfl rfl (by decide +kernel) dX0_dropOldest_48 ?_
  exact as_ret (pc := 51) X ⟨rfl, rfl⟩ rfl dX0_dropOldest_51
theorem s_X0_dropOldest_9 {G : am_G} {bc bs : Nat} (X : am_Cx G cX0_dropOldest RX0 "dropOldest" rm_X0_dropOldest none 3 bc bs true) : am_S G 9 (t_X0_dropOldest_9) := by
  unfold t_X0_dropOldest_9
  refine as_iload_n (pc := 9) X dX0_dropOldest_9 rfl ?_
  refine as_iconst (pc := 10) X dX0_dropOldest_10 (by decide) ?_
  refine as_ic_ge (pc := 11) X 34 dX0_dropOldest_11 (by decide) (s_X0_dropOldest_34 X) ?_
  refine as_aload_n (pc := 14) X dX0_dropOldest_14 rfl ?_
  refine as_getR (ci := 0) (j := 1) (pc := 15) X (Cn := RX0) (Tf := TX0) (N := 2) rfl rfl (by decide) iw_X0 aw_232 rfl dX0_dropOldest_15 ?_
  refine as_iload_n (pc := 18) X dX0_dropOldest_18 rfl ?_
  refine as_iconst (pc := 19) X dX0_dropOldest_19 (by decide) ?_
  refine as_isub (pc := 20) X dX0_dropOldest_20 ?_
  refine as_aload_n (pc := 21) X dX0_dropOldest_21 rfl ?_
  refine as_getR (ci := 0) (j := 1) (pc := 22) X (Cn := RX0) (Tf := TX0) (N := 2) rfl rfl (by decide) iw_X0 aw_232 rfl dX0_dropOldest_22 ?_
  refine as_iload_n (pc := 25) X dX0_dropOldest_25 rfl ?_
  refine as_aald (pc := 26) X dX0_dropOldest_26 ?_
  refine as_aast (pc := 27) X dX0_dropOldest_27 ?_
  refine as_iinc (pc := 28) X dX0_dropOldest_28 (by decide) (by decide) ?_
  exact as_goto (pc := 31) X 9 dX0_dropOldest_31 (by decide) (as_head)
theorem s_X0_dropOldest_0 {G : am_G} {bc bs : Nat} (X : am_Cx G cX0_dropOldest RX0 "dropOldest" rm_X0_dropOldest none 3 bc bs true) : am_S G 0 (t_X0_dropOldest_0) := by
  unfold t_X0_dropOldest_0
  refine as_aload_n (pc := 0) X dX0_dropOldest_0 rfl ?_
  refine as_getR (ci := 0) (j := 1) (pc := 1) X (Cn := RX0) (Tf := TX0) (N := 2) rfl rfl (by decide) iw_X0 aw_232 rfl dX0_dropOldest_1 ?_
  refine as_iconst (pc := 4) X dX0_dropOldest_4 (by decide) ?_
  refine as_aald (pc := 5) X dX0_dropOldest_5 ?_
  refine as_astore_n (pc := 6) X dX0_dropOldest_6 rfl ?_ (by decide)
  refine as_iconst (pc := 7) X dX0_dropOldest_7 (by decide) ?_
  refine as_istore_n (pc := 8) X dX0_dropOldest_8 rfl ?_ (by decide)
  exact as_head
theorem s_X0_dropOldest {G : am_G} {bc bs : Nat} (X : am_Cx G cX0_dropOldest RX0 "dropOldest" rm_X0_dropOldest none 3 bc bs true) (h : Nat) : am_S G h (h_X0_dropOldest h) := by
  unfold h_X0_dropOldest
  split
  · next e => rw [e]; exact s_X0_dropOldest_0 X
  split
  · next e => rw [e]; exact s_X0_dropOldest_9 X
  exact as_bad
theorem ct_X0_dropOldest : am_Ct yX0_dropOldest cX0_dropOldest 3 none rm_X0_dropOldest sp_X0_dropOldest := am_met (own := RX0) (nm := "dropOldest") (by decide) rfl rfl (Or.inl rfl) (fun _ _ => h_X0_dropOldest) (fun _ _ _ X => s_X0_dropOldest X) (fun _ _ _ _ h => h)
-- X1_copyFrom
theorem dX1_copyFrom_0 : decode cX1_copyFrom 0 = .ok (.aload_n 0, 1) := by decide +kernel
theorem dX1_copyFrom_1 : decode cX1_copyFrom 1 = .ok (.aload_n 1, 1) := by decide +kernel
theorem dX1_copyFrom_2 : decode cX1_copyFrom 2 = .ok (.getfield 9, 3) := by decide +kernel
theorem dX1_copyFrom_5 : decode cX1_copyFrom 5 = .ok (.putfield 9, 3) := by decide +kernel
theorem dX1_copyFrom_8 : decode cX1_copyFrom 8 = .ok (.aload_n 1, 1) := by decide +kernel
theorem dX1_copyFrom_9 : decode cX1_copyFrom 9 = .ok (.getfield 15, 3) := by decide +kernel
theorem dX1_copyFrom_12 : decode cX1_copyFrom 12 = .ok (.iconst 0, 1) := by decide +kernel
theorem dX1_copyFrom_13 : decode cX1_copyFrom 13 = .ok (.aload_n 0, 1) := by decide +kernel
theorem dX1_copyFrom_14 : decode cX1_copyFrom 14 = .ok (.getfield 15, 3) := by decide +kernel
theorem dX1_copyFrom_17 : decode cX1_copyFrom 17 = .ok (.iconst 0, 1) := by decide +kernel
theorem dX1_copyFrom_18 : decode cX1_copyFrom 18 = .ok (.bipush 20, 2) := by decide +kernel
theorem dX1_copyFrom_20 : decode cX1_copyFrom 20 = .ok (.invokestatic 58, 3) := by decide +kernel
theorem dX1_copyFrom_23 : decode cX1_copyFrom 23 = .ok (.aload_n 1, 1) := by decide +kernel
theorem dX1_copyFrom_24 : decode cX1_copyFrom 24 = .ok (.getfield 19, 3) := by decide +kernel
theorem dX1_copyFrom_27 : decode cX1_copyFrom 27 = .ok (.iconst 0, 1) := by decide +kernel
theorem dX1_copyFrom_28 : decode cX1_copyFrom 28 = .ok (.aload_n 0, 1) := by decide +kernel
theorem dX1_copyFrom_29 : decode cX1_copyFrom 29 = .ok (.getfield 19, 3) := by decide +kernel
theorem dX1_copyFrom_32 : decode cX1_copyFrom 32 = .ok (.iconst 0, 1) := by decide +kernel
theorem dX1_copyFrom_33 : decode cX1_copyFrom 33 = .ok (.bipush 20, 2) := by decide +kernel
theorem dX1_copyFrom_35 : decode cX1_copyFrom 35 = .ok (.invokestatic 58, 3) := by decide +kernel
theorem dX1_copyFrom_38 : decode cX1_copyFrom 38 = .ok (.aload_n 1, 1) := by decide +kernel
theorem dX1_copyFrom_39 : decode cX1_copyFrom 39 = .ok (.getfield 22, 3) := by decide +kernel
theorem dX1_copyFrom_42 : decode cX1_copyFrom 42 = .ok (.iconst 0, 1) := by decide +kernel
theorem dX1_copyFrom_43 : decode cX1_copyFrom 43 = .ok (.aload_n 0, 1) := by decide +kernel
theorem dX1_copyFrom_44 : decode cX1_copyFrom 44 = .ok (.getfield 22, 3) := by decide +kernel
theorem dX1_copyFrom_47 : decode cX1_copyFrom 47 = .ok (.iconst 0, 1) := by decide +kernel
theorem dX1_copyFrom_48 : decode cX1_copyFrom 48 = .ok (.bipush 20, 2) := by decide +kernel
theorem dX1_copyFrom_50 : decode cX1_copyFrom 50 = .ok (.invokestatic 58, 3) := by decide +kernel
theorem dX1_copyFrom_53 : decode cX1_copyFrom 53 = .ok (.aload_n 0, 1) := by decide +kernel
theorem dX1_copyFrom_54 : decode cX1_copyFrom 54 = .ok (.aload_n 1, 1) := by decide +kernel
theorem dX1_copyFrom_55 : decode cX1_copyFrom 55 = .ok (.getfield 25, 3) := by decide +kernel
theorem dX1_copyFrom_58 : decode cX1_copyFrom 58 = .ok (.putfield 25, 3) := by decide +kernel
theorem dX1_copyFrom_61 : decode cX1_copyFrom 61 = .ok (.aload_n 1, 1) := by decide +kernel
theorem dX1_copyFrom_62 : decode cX1_copyFrom 62 = .ok (.getfield 28, 3) := by decide +kernel
theorem dX1_copyFrom_65 : decode cX1_copyFrom 65 = .ok (.iconst 0, 1) := by decide +kernel
theorem dX1_copyFrom_66 : decode cX1_copyFrom 66 = .ok (.aload_n 0, 1) := by decide +kernel
theorem dX1_copyFrom_67 : decode cX1_copyFrom 67 = .ok (.getfield 28, 3) := by decide +kernel
theorem dX1_copyFrom_70 : decode cX1_copyFrom 70 = .ok (.iconst 0, 1) := by decide +kernel
theorem dX1_copyFrom_71 : decode cX1_copyFrom 71 = .ok (.bipush 30, 2) := by decide +kernel
theorem dX1_copyFrom_73 : decode cX1_copyFrom 73 = .ok (.invokestatic 58, 3) := by decide +kernel
theorem dX1_copyFrom_76 : decode cX1_copyFrom 76 = .ok (.aload_n 1, 1) := by decide +kernel
theorem dX1_copyFrom_77 : decode cX1_copyFrom 77 = .ok (.getfield 31, 3) := by decide +kernel
theorem dX1_copyFrom_80 : decode cX1_copyFrom 80 = .ok (.iconst 0, 1) := by decide +kernel
theorem dX1_copyFrom_81 : decode cX1_copyFrom 81 = .ok (.aload_n 0, 1) := by decide +kernel
theorem dX1_copyFrom_82 : decode cX1_copyFrom 82 = .ok (.getfield 31, 3) := by decide +kernel
theorem dX1_copyFrom_85 : decode cX1_copyFrom 85 = .ok (.iconst 0, 1) := by decide +kernel
theorem dX1_copyFrom_86 : decode cX1_copyFrom 86 = .ok (.bipush 30, 2) := by decide +kernel
theorem dX1_copyFrom_88 : decode cX1_copyFrom 88 = .ok (.invokestatic 58, 3) := by decide +kernel
theorem dX1_copyFrom_91 : decode cX1_copyFrom 91 = .ok (.aload_n 1, 1) := by decide +kernel
theorem dX1_copyFrom_92 : decode cX1_copyFrom 92 = .ok (.getfield 34, 3) := by decide +kernel
theorem dX1_copyFrom_95 : decode cX1_copyFrom 95 = .ok (.iconst 0, 1) := by decide +kernel
theorem dX1_copyFrom_96 : decode cX1_copyFrom 96 = .ok (.aload_n 0, 1) := by decide +kernel
theorem dX1_copyFrom_97 : decode cX1_copyFrom 97 = .ok (.getfield 34, 3) := by decide +kernel
theorem dX1_copyFrom_100 : decode cX1_copyFrom 100 = .ok (.iconst 0, 1) := by decide +kernel
theorem dX1_copyFrom_101 : decode cX1_copyFrom 101 = .ok (.bipush 30, 2) := by decide +kernel
theorem dX1_copyFrom_103 : decode cX1_copyFrom 103 = .ok (.invokestatic 58, 3) := by decide +kernel
theorem dX1_copyFrom_106 : decode cX1_copyFrom 106 = .ok (.aload_n 1, 1) := by decide +kernel
theorem dX1_copyFrom_107 : decode cX1_copyFrom 107 = .ok (.getfield 37, 3) := by decide +kernel
theorem dX1_copyFrom_110 : decode cX1_copyFrom 110 = .ok (.iconst 0, 1) := by decide +kernel
theorem dX1_copyFrom_111 : decode cX1_copyFrom 111 = .ok (.aload_n 0, 1) := by decide +kernel
theorem dX1_copyFrom_112 : decode cX1_copyFrom 112 = .ok (.getfield 37, 3) := by decide +kernel
theorem dX1_copyFrom_115 : decode cX1_copyFrom 115 = .ok (.iconst 0, 1) := by decide +kernel
theorem dX1_copyFrom_116 : decode cX1_copyFrom 116 = .ok (.bipush 30, 2) := by decide +kernel
theorem dX1_copyFrom_118 : decode cX1_copyFrom 118 = .ok (.invokestatic 58, 3) := by decide +kernel
theorem dX1_copyFrom_121 : decode cX1_copyFrom 121 = .ok (.aload_n 0, 1) := by decide +kernel
theorem dX1_copyFrom_122 : decode cX1_copyFrom 122 = .ok (.aload_n 1, 1) := by decide +kernel
theorem dX1_copyFrom_123 : decode cX1_copyFrom 123 = .ok (.getfield 40, 3) := by decide +kernel
theorem dX1_copyFrom_126 : decode cX1_copyFrom 126 = .ok (.putfield 40, 3) := by decide +kernel
theorem dX1_copyFrom_129 : decode cX1_copyFrom 129 = .ok (.aload_n 1, 1) := by decide +kernel
theorem dX1_copyFrom_130 : decode cX1_copyFrom 130 = .ok (.getfield 43, 3) := by decide +kernel
theorem dX1_copyFrom_133 : decode cX1_copyFrom 133 = .ok (.iconst 0, 1) := by decide +kernel
theorem dX1_copyFrom_134 : decode cX1_copyFrom 134 = .ok (.aload_n 0, 1) := by decide +kernel
theorem dX1_copyFrom_135 : decode cX1_copyFrom 135 = .ok (.getfield 43, 3) := by decide +kernel
theorem dX1_copyFrom_138 : decode cX1_copyFrom 138 = .ok (.iconst 0, 1) := by decide +kernel
theorem dX1_copyFrom_139 : decode cX1_copyFrom 139 = .ok (.bipush 12, 2) := by decide +kernel
theorem dX1_copyFrom_141 : decode cX1_copyFrom 141 = .ok (.invokestatic 58, 3) := by decide +kernel
theorem dX1_copyFrom_144 : decode cX1_copyFrom 144 = .ok (.aload_n 1, 1) := by decide +kernel
theorem dX1_copyFrom_145 : decode cX1_copyFrom 145 = .ok (.getfield 46, 3) := by decide +kernel
theorem dX1_copyFrom_148 : decode cX1_copyFrom 148 = .ok (.iconst 0, 1) := by decide +kernel
theorem dX1_copyFrom_149 : decode cX1_copyFrom 149 = .ok (.aload_n 0, 1) := by decide +kernel
theorem dX1_copyFrom_150 : decode cX1_copyFrom 150 = .ok (.getfield 46, 3) := by decide +kernel
theorem dX1_copyFrom_153 : decode cX1_copyFrom 153 = .ok (.iconst 0, 1) := by decide +kernel
theorem dX1_copyFrom_154 : decode cX1_copyFrom 154 = .ok (.bipush 12, 2) := by decide +kernel
theorem dX1_copyFrom_156 : decode cX1_copyFrom 156 = .ok (.invokestatic 58, 3) := by decide +kernel
theorem dX1_copyFrom_159 : decode cX1_copyFrom 159 = .ok (.aload_n 1, 1) := by decide +kernel
theorem dX1_copyFrom_160 : decode cX1_copyFrom 160 = .ok (.getfield 49, 3) := by decide +kernel
theorem dX1_copyFrom_163 : decode cX1_copyFrom 163 = .ok (.iconst 0, 1) := by decide +kernel
theorem dX1_copyFrom_164 : decode cX1_copyFrom 164 = .ok (.aload_n 0, 1) := by decide +kernel
theorem dX1_copyFrom_165 : decode cX1_copyFrom 165 = .ok (.getfield 49, 3) := by decide +kernel
theorem dX1_copyFrom_168 : decode cX1_copyFrom 168 = .ok (.iconst 0, 1) := by decide +kernel
theorem dX1_copyFrom_169 : decode cX1_copyFrom 169 = .ok (.bipush 12, 2) := by decide +kernel
theorem dX1_copyFrom_171 : decode cX1_copyFrom 171 = .ok (.invokestatic 58, 3) := by decide +kernel
theorem dX1_copyFrom_174 : decode cX1_copyFrom 174 = .ok (.aload_n 1, 1) := by decide +kernel
theorem dX1_copyFrom_175 : decode cX1_copyFrom 175 = .ok (.getfield 52, 3) := by decide +kernel
theorem dX1_copyFrom_178 : decode cX1_copyFrom 178 = .ok (.iconst 0, 1) := by decide +kernel
theorem dX1_copyFrom_179 : decode cX1_copyFrom 179 = .ok (.aload_n 0, 1) := by decide +kernel
theorem dX1_copyFrom_180 : decode cX1_copyFrom 180 = .ok (.getfield 52, 3) := by decide +kernel
theorem dX1_copyFrom_183 : decode cX1_copyFrom 183 = .ok (.iconst 0, 1) := by decide +kernel
theorem dX1_copyFrom_184 : decode cX1_copyFrom 184 = .ok (.bipush 8, 2) := by decide +kernel
theorem dX1_copyFrom_186 : decode cX1_copyFrom 186 = .ok (.invokestatic 58, 3) := by decide +kernel
theorem dX1_copyFrom_189 : decode cX1_copyFrom 189 = .ok (.return_, 1) := by decide +kernel
def t_X1_copyFrom_0 : am_T := tb_aload 0 <|
  tb_aload 1 <|
  tb_getI 1 0 <|
  tb_putI 1 0 <|
  tb_aload 1 <|
  tb_getR 1 1 <|
  tb_const 0 <|
  tb_aload 0 <|
  tb_getR 1 1 <|
  tb_const 0 <|
  tb_const 20 <|
  tb_copy <|
  tb_aload 1 <|
  tb_getR 1 2 <|
  tb_const 0 <|
  tb_aload 0 <|
  tb_getR 1 2 <|
  tb_const 0 <|
  tb_const 20 <|
  tb_copy <|
  tb_aload 1 <|
  tb_getR 1 3 <|
  tb_const 0 <|
  tb_aload 0 <|
  tb_getR 1 3 <|
  tb_const 0 <|
  tb_const 20 <|
  tb_copy <|
  tb_aload 0 <|
  tb_aload 1 <|
  tb_getI 1 4 <|
  tb_putI 1 4 <|
  tb_aload 1 <|
  tb_getR 1 5 <|
  tb_const 0 <|
  tb_aload 0 <|
  tb_getR 1 5 <|
  tb_const 0 <|
  tb_const 30 <|
  tb_copy <|
  tb_aload 1 <|
  tb_getR 1 6 <|
  tb_const 0 <|
  tb_aload 0 <|
  tb_getR 1 6 <|
  tb_const 0 <|
  tb_const 30 <|
  tb_copy <|
  tb_aload 1 <|
  tb_getR 1 7 <|
  tb_const 0 <|
  tb_aload 0 <|
  tb_getR 1 7 <|
  tb_const 0 <|
  tb_const 30 <|
  tb_copy <|
  tb_aload 1 <|
  tb_getR 1 8 <|
  tb_const 0 <|
  tb_aload 0 <|
  tb_getR 1 8 <|
  tb_const 0 <|
  tb_const 30 <|
  tb_copy <|
  tb_aload 0 <|
  tb_aload 1 <|
  tb_getI 1 9 <|
  tb_putI 1 9 <|
  tb_aload 1 <|
  tb_getR 1 10 <|
  tb_const 0 <|
  tb_aload 0 <|
  tb_getR 1 10 <|
  tb_const 0 <|
  tb_const 12 <|
  tb_copy <|
  tb_aload 1 <|
  tb_getR 1 11 <|
  tb_const 0 <|
  tb_aload 0 <|
  tb_getR 1 11 <|
  tb_const 0 <|
  tb_const 12 <|
  tb_copy <|
  tb_aload 1 <|
  tb_getR 1 12 <|
  tb_const 0 <|
  tb_aload 0 <|
  tb_getR 1 12 <|
  tb_const 0 <|
  tb_const 12 <|
  tb_copy <|
  tb_aload 1 <|
  tb_getR 1 13 <|
  tb_const 0 <|
  tb_aload 0 <|
  tb_getR 1 13 <|
  tb_const 0 <|
  tb_const 8 <|
  tb_copy <|
  tb_ret
def h_X1_copyFrom : am_Hd := fun h => if h = 0 then t_X1_copyFrom_0 else tb_bad
theorem h_X1_copyFrom_0 : h_X1_copyFrom 0 = t_X1_copyFrom_0 := rfl
def rm_X1_copyFrom : Room := { frames := 1, cells := 0, slots := 0, locals := 26 }
def sp_X1_copyFrom : am_sp := fun as M Q => as.length ≤ 2 ∧ am_OK h_X1_copyFrom Q 0 (am_in 2 as) M
theorem s_X1_copyFrom_0 {G : am_G} {bc bs : Nat} (X : am_Cx G cX1_copyFrom RX1 "copyFrom" rm_X1_copyFrom none 2 bc bs true) : am_S G 0 (t_X1_copyFrom_0) := by
  unfold t_X1_copyFrom_0
  refine as_aload_n (pc := 0) X dX1_copyFrom_0 rfl ?_
  refine as_aload_n (pc := 1) X dX1_copyFrom_1 rfl ?_
  refine as_getI (ci := 1) (j := 0) (pc := 2) X (Cn := RX1) (Tf := TX1) (N := 14) rfl rfl (by decide) iw_X1 aw_93 rfl dX1_copyFrom_2 ?_
  refine as_putI (ci := 1) (j := 0) (pc := 5) X (Cn := RX1) (Tf := TX1) (N := 14) rfl rfl (by decide) iw_X1 aw_93 tyX1 tyX1_ok nmX1 rfl rfl (by decide +kernel) dX1_copyFrom_5 ?_
  refine as_aload_n (pc := 8) X dX1_copyFrom_8 rfl ?_
  refine as_getR (ci := 1) (j := 1) (pc := 9) X (Cn := RX1) (Tf := TX1) (N := 14) rfl rfl (by decide) iw_X1 aw_95 rfl dX1_copyFrom_9 ?_
  refine as_iconst (pc := 12) X dX1_copyFrom_12 (by decide) ?_
  refine as_aload_n (pc := 13) X dX1_copyFrom_13 rfl ?_
  refine as_getR (ci := 1) (j := 1) (pc := 14) X (Cn := RX1) (Tf := TX1) (N := 14) rfl rfl (by decide) iw_X1 aw_95 rfl dX1_copyFrom_14 ?_
  refine as_iconst (pc := 17) X dX1_copyFrom_17 (by decide) ?_
  refine as_bipush (pc := 18) X dX1_copyFrom_18 (by decide) ?_
  refine as_copy (pc := 20) X aw_90 aw_92 aw_91 aw_62 (by decide) (by decide) dX1_copyFrom_20 ?_
  refine as_aload_n (pc := 23) X dX1_copyFrom_23 rfl ?_
  refine as_getR (ci := 1) (j := 2) (pc := 24) X (Cn := RX1) (Tf := TX1) (N := 14) rfl rfl (by decide) iw_X1 aw_96 rfl dX1_copyFrom_24 ?_
  refine as_iconst (pc := 27) X dX1_copyFrom_27 (by decide) ?_
  refine as_aload_n (pc := 28) X dX1_copyFrom_28 rfl ?_
  refine as_getR (ci := 1) (j := 2) (pc := 29) X (Cn := RX1) (Tf := TX1) (N := 14) rfl rfl (by decide) iw_X1 aw_96 rfl dX1_copyFrom_29 ?_
  refine as_iconst (pc := 32) X dX1_copyFrom_32 (by decide) ?_
  refine as_bipush (pc := 33) X dX1_copyFrom_33 (by decide) ?_
  refine as_copy (pc := 35) X aw_90 aw_92 aw_91 aw_62 (by decide) (by decide) dX1_copyFrom_35 ?_
  refine as_aload_n (pc := 38) X dX1_copyFrom_38 rfl ?_
  refine as_getR (ci := 1) (j := 3) (pc := 39) X (Cn := RX1) (Tf := TX1) (N := 14) rfl rfl (by decide) iw_X1 aw_97 rfl dX1_copyFrom_39 ?_
  refine as_iconst (pc := 42) X dX1_copyFrom_42 (by decide) ?_
  refine as_aload_n (pc := 43) X dX1_copyFrom_43 rfl ?_
  refine as_getR (ci := 1) (j := 3) (pc := 44) X (Cn := RX1) (Tf := TX1) (N := 14) rfl rfl (by decide) iw_X1 aw_97 rfl dX1_copyFrom_44 ?_
  refine as_iconst (pc := 47) X dX1_copyFrom_47 (by decide) ?_
  refine as_bipush (pc := 48) X dX1_copyFrom_48 (by decide) ?_
  refine as_copy (pc := 50) X aw_90 aw_92 aw_91 aw_62 (by decide) (by decide) dX1_copyFrom_50 ?_
  refine as_aload_n (pc := 53) X dX1_copyFrom_53 rfl ?_
  refine as_aload_n (pc := 54) X dX1_copyFrom_54 rfl ?_
  refine as_getI (ci := 1) (j := 4) (pc := 55) X (Cn := RX1) (Tf := TX1) (N := 14) rfl rfl (by decide) iw_X1 aw_98 rfl dX1_copyFrom_55 ?_
  refine as_putI (ci := 1) (j := 4) (pc := 58) X (Cn := RX1) (Tf := TX1) (N := 14) rfl rfl (by decide) iw_X1 aw_98 tyX1 tyX1_ok nmX1 rfl rfl (by decide +kernel) dX1_copyFrom_58 ?_
  refine as_aload_n (pc := 61) X dX1_copyFrom_61 rfl ?_
  refine as_getR (ci := 1) (j := 5) (pc := 62) X (Cn := RX1) (Tf := TX1) (N := 14) rfl rfl (by decide) iw_X1 aw_102 rfl dX1_copyFrom_62 ?_
  refine as_iconst (pc := 65) X dX1_copyFrom_65 (by decide) ?_
  refine as_aload_n (pc := 66) X dX1_copyFrom_66 rfl ?_
  refine as_getR (ci := 1) (j := 5) (pc := 67) X (Cn := RX1) (Tf := TX1) (N := 14) rfl rfl (by decide) iw_X1 aw_102 rfl dX1_copyFrom_67 ?_
  refine as_iconst (pc := 70) X dX1_copyFrom_70 (by decide) ?_
  refine as_bipush (pc := 71) X dX1_copyFrom_71 (by decide) ?_
  refine as_copy (pc := 73) X aw_90 aw_92 aw_91 aw_62 (by decide) (by decide) dX1_copyFrom_73 ?_
  refine as_aload_n (pc := 76) X dX1_copyFrom_76 rfl ?_
  refine as_getR (ci := 1) (j := 6) (pc := 77) X (Cn := RX1) (Tf := TX1) (N := 14) rfl rfl (by decide) iw_X1 aw_105 rfl dX1_copyFrom_77 ?_
  refine as_iconst (pc := 80) X dX1_copyFrom_80 (by decide) ?_
  refine as_aload_n (pc := 81) X dX1_copyFrom_81 rfl ?_
  refine as_getR (ci := 1) (j := 6) (pc := 82) X (Cn := RX1) (Tf := TX1) (N := 14) rfl rfl (by decide) iw_X1 aw_105 rfl dX1_copyFrom_82 ?_
  refine as_iconst (pc := 85) X dX1_copyFrom_85 (by decide) ?_
  refine as_bipush (pc := 86) X dX1_copyFrom_86 (by decide) ?_
  refine as_copy (pc := 88) X aw_90 aw_92 aw_91 aw_62 (by decide) (by decide) dX1_copyFrom_88 ?_
  refine as_aload_n (pc := 91) X dX1_copyFrom_91 rfl ?_
  refine as_getR (ci := 1) (j := 7) (pc := 92) X (Cn := RX1) (Tf := TX1) (N := 14) rfl rfl (by decide) iw_X1 aw_108 rfl dX1_copyFrom_92 ?_
  refine as_iconst (pc := 95) X dX1_copyFrom_95 (by decide) ?_
  refine as_aload_n (pc := 96) X dX1_copyFrom_96 rfl ?_
  refine as_getR (ci := 1) (j := 7) (pc := 97) X (Cn := RX1) (Tf := TX1) (N := 14) rfl rfl (by decide) iw_X1 aw_108 rfl dX1_copyFrom_97 ?_
  refine as_iconst (pc := 100) X dX1_copyFrom_100 (by decide) ?_
  refine as_bipush (pc := 101) X dX1_copyFrom_101 (by decide) ?_
  refine as_copy (pc := 103) X aw_90 aw_92 aw_91 aw_62 (by decide) (by decide) dX1_copyFrom_103 ?_
  refine as_aload_n (pc := 106) X dX1_copyFrom_106 rfl ?_
  refine as_getR (ci := 1) (j := 8) (pc := 107) X (Cn := RX1) (Tf := TX1) (N := 14) rfl rfl (by decide) iw_X1 aw_110 rfl dX1_copyFrom_107 ?_
  refine as_iconst (pc := 110) X dX1_copyFrom_110 (by decide) ?_
  refine as_aload_n (pc := 111) X dX1_copyFrom_111 rfl ?_
  refine as_getR (ci := 1) (j := 8) (pc := 112) X (Cn := RX1) (Tf := TX1) (N := 14) rfl rfl (by decide) iw_X1 aw_110 rfl dX1_copyFrom_112 ?_
  refine as_iconst (pc := 115) X dX1_copyFrom_115 (by decide) ?_
  refine as_bipush (pc := 116) X dX1_copyFrom_116 (by decide) ?_
  refine as_copy (pc := 118) X aw_90 aw_92 aw_91 aw_62 (by decide) (by decide) dX1_copyFrom_118 ?_
  refine as_aload_n (pc := 121) X dX1_copyFrom_121 rfl ?_
  refine as_aload_n (pc := 122) X dX1_copyFrom_122 rfl ?_
  refine as_getI (ci := 1) (j := 9) (pc := 123) X (Cn := RX1) (Tf := TX1) (N := 14) rfl rfl (by decide) iw_X1 aw_113 rfl dX1_copyFrom_123 ?_
  refine as_putI (ci := 1) (j := 9) (pc := 126) X (Cn := RX1) (Tf := TX1) (N := 14) rfl rfl (by decide) iw_X1 aw_113 tyX1 tyX1_ok nmX1 rfl rfl (by decide +kernel) dX1_copyFrom_126 ?_
  refine as_aload_n (pc := 129) X dX1_copyFrom_129 rfl ?_
  refine as_getR (ci := 1) (j := 10) (pc := 130) X (Cn := RX1) (Tf := TX1) (N := 14) rfl rfl (by decide) iw_X1 aw_117 rfl dX1_copyFrom_130 ?_
  refine as_iconst (pc := 133) X dX1_copyFrom_133 (by decide) ?_
  refine as_aload_n (pc := 134) X dX1_copyFrom_134 rfl ?_
  refine as_getR (ci := 1) (j := 10) (pc := 135) X (Cn := RX1) (Tf := TX1) (N := 14) rfl rfl (by decide) iw_X1 aw_117 rfl dX1_copyFrom_135 ?_
  refine as_iconst (pc := 138) X dX1_copyFrom_138 (by decide) ?_
  refine as_bipush (pc := 139) X dX1_copyFrom_139 (by decide) ?_
  refine as_copy (pc := 141) X aw_90 aw_92 aw_91 aw_62 (by decide) (by decide) dX1_copyFrom_141 ?_
  refine as_aload_n (pc := 144) X dX1_copyFrom_144 rfl ?_
  refine as_getR (ci := 1) (j := 11) (pc := 145) X (Cn := RX1) (Tf := TX1) (N := 14) rfl rfl (by decide) iw_X1 aw_120 rfl dX1_copyFrom_145 ?_
  refine as_iconst (pc := 148) X dX1_copyFrom_148 (by decide) ?_
  refine as_aload_n (pc := 149) X dX1_copyFrom_149 rfl ?_
  refine as_getR (ci := 1) (j := 11) (pc := 150) X (Cn := RX1) (Tf := TX1) (N := 14) rfl rfl (by decide) iw_X1 aw_120 rfl dX1_copyFrom_150 ?_
  refine as_iconst (pc := 153) X dX1_copyFrom_153 (by decide) ?_
  refine as_bipush (pc := 154) X dX1_copyFrom_154 (by decide) ?_
  refine as_copy (pc := 156) X aw_90 aw_92 aw_91 aw_62 (by decide) (by decide) dX1_copyFrom_156 ?_
  refine as_aload_n (pc := 159) X dX1_copyFrom_159 rfl ?_
  refine as_getR (ci := 1) (j := 12) (pc := 160) X (Cn := RX1) (Tf := TX1) (N := 14) rfl rfl (by decide) iw_X1 aw_123 rfl dX1_copyFrom_160 ?_
  refine as_iconst (pc := 163) X dX1_copyFrom_163 (by decide) ?_
  refine as_aload_n (pc := 164) X dX1_copyFrom_164 rfl ?_
  refine as_getR (ci := 1) (j := 12) (pc := 165) X (Cn := RX1) (Tf := TX1) (N := 14) rfl rfl (by decide) iw_X1 aw_123 rfl dX1_copyFrom_165 ?_
  refine as_iconst (pc := 168) X dX1_copyFrom_168 (by decide) ?_
  refine as_bipush (pc := 169) X dX1_copyFrom_169 (by decide) ?_
  refine as_copy (pc := 171) X aw_90 aw_92 aw_91 aw_62 (by decide) (by decide) dX1_copyFrom_171 ?_
  refine as_aload_n (pc := 174) X dX1_copyFrom_174 rfl ?_
  refine as_getR (ci := 1) (j := 13) (pc := 175) X (Cn := RX1) (Tf := TX1) (N := 14) rfl rfl (by decide) iw_X1 aw_126 rfl dX1_copyFrom_175 ?_
  refine as_iconst (pc := 178) X dX1_copyFrom_178 (by decide) ?_
  refine as_aload_n (pc := 179) X dX1_copyFrom_179 rfl ?_
  refine as_getR (ci := 1) (j := 13) (pc := 180) X (Cn := RX1) (Tf := TX1) (N := 14) rfl rfl (by decide) iw_X1 aw_126 rfl dX1_copyFrom_180 ?_
  refine as_iconst (pc := 183) X dX1_copyFrom_183 (by decide) ?_
  refine as_bipush (pc := 184) X dX1_copyFrom_184 (by decide) ?_
  refine as_copy (pc := 186) X aw_90 aw_92 aw_91 aw_62 (by decide) (by decide) dX1_copyFrom_186 ?_
  exact as_ret (pc := 189) X ⟨rfl, rfl⟩ rfl dX1_copyFrom_189
theorem s_X1_copyFrom {G : am_G} {bc bs : Nat} (X : am_Cx G cX1_copyFrom RX1 "copyFrom" rm_X1_copyFrom none 2 bc bs true) (h : Nat) : am_S G h (h_X1_copyFrom h) := by
  unfold h_X1_copyFrom
  split
  · next e => rw [e]; exact s_X1_copyFrom_0 X
  exact as_bad
theorem ct_X1_copyFrom : am_Ct yX1_copyFrom cX1_copyFrom 2 none rm_X1_copyFrom sp_X1_copyFrom := am_met (own := RX1) (nm := "copyFrom") (by decide) rfl rfl (Or.inl rfl) (fun _ _ => h_X1_copyFrom) (fun _ _ _ X => s_X1_copyFrom X) (fun _ _ _ _ h => h)
-- X0_keep
theorem dX0_keep_0 : decode cX0_keep 0 = .ok (.aload_n 0, 1) := by decide +kernel
theorem dX0_keep_1 : decode cX0_keep 1 = .ok (.getfield 9, 3) := by decide +kernel
theorem dX0_keep_4 : decode cX0_keep 4 = .ok (.iconst 4, 1) := by decide +kernel
theorem dX0_keep_5 : decode cX0_keep 5 = .ok (.if_icmp .ne 7, 3) := by decide +kernel
theorem dX0_keep_8 : decode cX0_keep 8 = .ok (.aload_n 0, 1) := by decide +kernel
theorem dX0_keep_9 : decode cX0_keep 9 = .ok (.invokevirtual 22, 3) := by decide +kernel
theorem dX0_keep_12 : decode cX0_keep 12 = .ok (.aload_n 0, 1) := by decide +kernel
theorem dX0_keep_13 : decode cX0_keep 13 = .ok (.getfield 17, 3) := by decide +kernel
theorem dX0_keep_16 : decode cX0_keep 16 = .ok (.aload_n 0, 1) := by decide +kernel
theorem dX0_keep_17 : decode cX0_keep 17 = .ok (.getfield 9, 3) := by decide +kernel
theorem dX0_keep_20 : decode cX0_keep 20 = .ok (.aaload, 1) := by decide +kernel
theorem dX0_keep_21 : decode cX0_keep 21 = .ok (.astore_n 2, 1) := by decide +kernel
theorem dX0_keep_22 : decode cX0_keep 22 = .ok (.aload_n 2, 1) := by decide +kernel
theorem dX0_keep_23 : decode cX0_keep 23 = .ok (.ifnull 18, 3) := by decide +kernel
theorem dX0_keep_26 : decode cX0_keep 26 = .ok (.aload_n 2, 1) := by decide +kernel
theorem dX0_keep_27 : decode cX0_keep 27 = .ok (.aload_n 1, 1) := by decide +kernel
theorem dX0_keep_28 : decode cX0_keep 28 = .ok (.invokevirtual 25, 3) := by decide +kernel
theorem dX0_keep_31 : decode cX0_keep 31 = .ok (.aload_n 0, 1) := by decide +kernel
theorem dX0_keep_32 : decode cX0_keep 32 = .ok (.dup, 1) := by decide +kernel
theorem dX0_keep_33 : decode cX0_keep 33 = .ok (.getfield 9, 3) := by decide +kernel
theorem dX0_keep_36 : decode cX0_keep 36 = .ok (.iconst 1, 1) := by decide +kernel
theorem dX0_keep_37 : decode cX0_keep 37 = .ok (.iadd, 1) := by decide +kernel
theorem dX0_keep_38 : decode cX0_keep 38 = .ok (.putfield 9, 3) := by decide +kernel
theorem dX0_keep_41 : decode cX0_keep 41 = .ok (.return_, 1) := by decide +kernel
def t_X0_keep_12 : am_T := tb_aload 0 <|
  tb_getR 0 1 <|
  tb_aload 0 <|
  tb_getI 0 0 <|
  tb_aald <|
  tb_astore 2 <|
  tb_aload 2 <|
  tb_nn <|
  tb_aload 2 <|
  tb_aload 1 <|
  tb_callV 1 sp_X1_copyFrom 2 <|
  tb_aload 0 <|
  tb_dup <|
  tb_getI 0 0 <|
  tb_const 1 <|
  tb_bin (fun x y => x + y) <|
  tb_putI 0 0 <|
  tb_ret
def t_X0_keep_0 : am_T := tb_aload 0 <|
  tb_getI 0 0 <|
  tb_const 4 <|
  tb_ic (fun x y => x ≠ y) (t_X0_keep_12) <|
  tb_aload 0 <|
  tb_callV 0 sp_X0_dropOldest 1 <|
  t_X0_keep_12
def h_X0_keep : am_Hd := fun h => if h = 0 then t_X0_keep_0 else tb_bad
theorem h_X0_keep_0 : h_X0_keep 0 = t_X0_keep_0 := rfl
def rm_X0_keep : Room := { frames := 2, cells := 0, slots := 0, locals := 47 }
def sp_X0_keep : am_sp := fun as M Q => as.length ≤ 3 ∧ am_OK h_X0_keep Q 0 (am_in 3 as) M
theorem s_X0_keep_12 {G : am_G} {bc bs : Nat} (X : am_Cx G cX0_keep RX0 "keep" rm_X0_keep none 3 bc bs true) : am_S G 12 (t_X0_keep_12) := by
  unfold t_X0_keep_12
  refine as_aload_n (pc := 12) X dX0_keep_12 rfl ?_
  refine as_getR (ci := 0) (j := 1) (pc := 13) X (Cn := RX0) (Tf := TX0) (N := 2) rfl rfl (by decide) iw_X0 aw_232 rfl dX0_keep_13 ?_
  refine as_aload_n (pc := 16) X dX0_keep_16 rfl ?_
  refine as_getI (ci := 0) (j := 0) (pc := 17) X (Cn := RX0) (Tf := TX0) (N := 2) rfl rfl (by decide) iw_X0 aw_230 rfl dX0_keep_17 ?_
  refine as_aald (pc := 20) X dX0_keep_20 ?_
  refine as_astore_n (pc := 21) X dX0_keep_21 rfl ?_ (by decide)
  refine as_aload_n (pc := 22) X dX0_keep_22 rfl ?_
  refine as_nn (pc := 23) X dX0_keep_23 ?_
  refine as_aload_n (pc := 26) X dX0_keep_26 rfl ?_
  refine as_aload_n (pc := 27) X dX0_keep_27 rfl ?_
  refine as_callV (ci := 1) (np := 1) (ix := 25) (pc := 28) X ct_X1_copyFrom (Cn := (RX1, TX1, 14)) rfl ⟨rfl, rfl⟩ aw_334 aw_335 aw_336 aw_337 aw_61 (by decide +kernel) (by decide) dX0_keep_28 ?_
  refine as_aload_n (pc := 31) X dX0_keep_31 rfl ?_
  refine as_dup (pc := 32) X dX0_keep_32 ?_
  refine as_getI (ci := 0) (j := 0) (pc := 33) X (Cn := RX0) (Tf := TX0) (N := 2) rfl rfl (by decide) iw_X0 aw_230 rfl dX0_keep_33 ?_
  refine as_iconst (pc := 36) X dX0_keep_36 (by decide) ?_
  refine as_iadd (pc := 37) X dX0_keep_37 ?_
  refine as_putI (ci := 0) (j := 0) (pc := 38) X (Cn := RX0) (Tf := TX0) (N := 2) rfl rfl (by decide) iw_X0 aw_230 tyX0 tyX0_ok nmX0 rfl rfl (by decide +kernel) dX0_keep_38 ?_
  exact as_ret (pc := 41) X ⟨rfl, rfl⟩ rfl dX0_keep_41
theorem s_X0_keep_0 {G : am_G} {bc bs : Nat} (X : am_Cx G cX0_keep RX0 "keep" rm_X0_keep none 3 bc bs true) : am_S G 0 (t_X0_keep_0) := by
  unfold t_X0_keep_0
  refine as_aload_n (pc := 0) X dX0_keep_0 rfl ?_
  refine as_getI (ci := 0) (j := 0) (pc := 1) X (Cn := RX0) (Tf := TX0) (N := 2) rfl rfl (by decide) iw_X0 aw_230 rfl dX0_keep_1 ?_
  refine as_iconst (pc := 4) X dX0_keep_4 (by decide) ?_
  refine as_ic_ne (pc := 5) X 12 dX0_keep_5 (by decide) (s_X0_keep_12 X) ?_
  refine as_aload_n (pc := 8) X dX0_keep_8 rfl ?_
  refine as_callV (ci := 0) (np := 0) (ix := 22) (pc := 9) X ct_X0_dropOldest (Cn := (RX0, TX0, 2)) rfl ⟨rfl, rfl⟩ aw_330 aw_332 aw_1 aw_333 aw_63 (by decide +kernel) (by decide) dX0_keep_9 ?_
  exact s_X0_keep_12 X
theorem s_X0_keep {G : am_G} {bc bs : Nat} (X : am_Cx G cX0_keep RX0 "keep" rm_X0_keep none 3 bc bs true) (h : Nat) : am_S G h (h_X0_keep h) := by
  unfold h_X0_keep
  split
  · next e => rw [e]; exact s_X0_keep_0 X
  exact as_bad
theorem ct_X0_keep : am_Ct yX0_keep cX0_keep 3 none rm_X0_keep sp_X0_keep := am_met (own := RX0) (nm := "keep") (by decide) rfl rfl (Or.inl rfl) (fun _ _ => h_X0_keep) (fun _ _ _ X => s_X0_keep X) (fun _ _ _ _ h => h)
-- X4_beginChange
theorem dX4_beginChange_0 : decode cX4_beginChange 0 = .ok (.aload_n 0, 1) := by decide +kernel
theorem dX4_beginChange_1 : decode cX4_beginChange 1 = .ok (.getfield 28, 3) := by decide +kernel
theorem dX4_beginChange_4 : decode cX4_beginChange 4 = .ok (.aload_n 0, 1) := by decide +kernel
theorem dX4_beginChange_5 : decode cX4_beginChange 5 = .ok (.getfield 20, 3) := by decide +kernel
theorem dX4_beginChange_8 : decode cX4_beginChange 8 = .ok (.invokevirtual 277, 3) := by decide +kernel
theorem dX4_beginChange_11 : decode cX4_beginChange 11 = .ok (.aload_n 0, 1) := by decide +kernel
theorem dX4_beginChange_12 : decode cX4_beginChange 12 = .ok (.iconst 1, 1) := by decide +kernel
theorem dX4_beginChange_13 : decode cX4_beginChange 13 = .ok (.putfield 21, 3) := by decide +kernel
theorem dX4_beginChange_16 : decode cX4_beginChange 16 = .ok (.return_, 1) := by decide +kernel
def t_X4_beginChange_0 : am_T := tb_aload 0 <|
  tb_getR 4 3 <|
  tb_aload 0 <|
  tb_getR 4 1 <|
  tb_callV 0 sp_X0_keep 2 <|
  tb_aload 0 <|
  tb_const 1 <|
  tb_putN .boolean 4 2 <|
  tb_ret
def h_X4_beginChange : am_Hd := fun h => if h = 0 then t_X4_beginChange_0 else tb_bad
theorem h_X4_beginChange_0 : h_X4_beginChange 0 = t_X4_beginChange_0 := rfl
def rm_X4_beginChange : Room := { frames := 3, cells := 0, slots := 0, locals := 69 }
def sp_X4_beginChange : am_sp := fun as M Q => as.length ≤ 1 ∧ am_OK h_X4_beginChange Q 0 (am_in 1 as) M
theorem s_X4_beginChange_0 {G : am_G} {bc bs : Nat} (X : am_Cx G cX4_beginChange RX4 "beginChange" rm_X4_beginChange none 1 bc bs true) : am_S G 0 (t_X4_beginChange_0) := by
  unfold t_X4_beginChange_0
  refine as_aload_n (pc := 0) X dX4_beginChange_0 rfl ?_
  refine as_getR (ci := 4) (j := 3) (pc := 1) X (Cn := RX4) (Tf := TX4) (N := 7) rfl rfl (by decide) iw_X4 aw_277 rfl dX4_beginChange_1 ?_
  refine as_aload_n (pc := 4) X dX4_beginChange_4 rfl ?_
  refine as_getR (ci := 4) (j := 1) (pc := 5) X (Cn := RX4) (Tf := TX4) (N := 7) rfl rfl (by decide) iw_X4 aw_275 rfl dX4_beginChange_5 ?_
  refine as_callV (ci := 0) (np := 1) (ix := 277) (pc := 8) X ct_X0_keep (Cn := (RX0, TX0, 2)) rfl ⟨rfl, rfl⟩ aw_326 aw_327 aw_328 aw_329 aw_63 (by decide +kernel) (by decide) dX4_beginChange_8 ?_
  refine as_aload_n (pc := 11) X dX4_beginChange_11 rfl ?_
  refine as_iconst (pc := 12) X dX4_beginChange_12 (by decide) ?_
  refine as_putN (ci := 4) (j := 2) (pc := 13) X (Cn := RX4) (Tf := TX4) (N := 7) rfl rfl (by decide) iw_X4 aw_276 tyX4 tyX4_ok nmX4 rfl (ty := .boolean) rfl (by decide +kernel) dX4_beginChange_13 ?_
  exact as_ret (pc := 16) X ⟨rfl, rfl⟩ rfl dX4_beginChange_16
theorem s_X4_beginChange {G : am_G} {bc bs : Nat} (X : am_Cx G cX4_beginChange RX4 "beginChange" rm_X4_beginChange none 1 bc bs true) (h : Nat) : am_S G h (h_X4_beginChange h) := by
  unfold h_X4_beginChange
  split
  · next e => rw [e]; exact s_X4_beginChange_0 X
  exact as_bad
theorem ct_X4_beginChange : am_Ct yX4_beginChange cX4_beginChange 1 none rm_X4_beginChange sp_X4_beginChange := am_met (own := RX4) (nm := "beginChange") (by decide) rfl rfl (Or.inl rfl) (fun _ _ => h_X4_beginChange) (fun _ _ _ X => s_X4_beginChange X) (fun _ _ _ _ h => h)
