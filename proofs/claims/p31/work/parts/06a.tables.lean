-- X1_init
theorem dX1_init_0 : decode cX1_init 0 = .ok (.aload_n 0, 1) := by decide +kernel
theorem dX1_init_1 : decode cX1_init 1 = .ok (.invokespecial 3, 3) := by decide +kernel
theorem dX1_init_4 : decode cX1_init 4 = .ok (.aload_n 0, 1) := by decide +kernel
theorem dX1_init_5 : decode cX1_init 5 = .ok (.iconst 0, 1) := by decide +kernel
theorem dX1_init_6 : decode cX1_init 6 = .ok (.putfield 9, 3) := by decide +kernel
theorem dX1_init_9 : decode cX1_init 9 = .ok (.aload_n 0, 1) := by decide +kernel
theorem dX1_init_10 : decode cX1_init 10 = .ok (.bipush 20, 2) := by decide +kernel
theorem dX1_init_12 : decode cX1_init 12 = .ok (.newarray .int, 2) := by decide +kernel
theorem dX1_init_14 : decode cX1_init 14 = .ok (.putfield 15, 3) := by decide +kernel
theorem dX1_init_17 : decode cX1_init 17 = .ok (.aload_n 0, 1) := by decide +kernel
theorem dX1_init_18 : decode cX1_init 18 = .ok (.bipush 20, 2) := by decide +kernel
theorem dX1_init_20 : decode cX1_init 20 = .ok (.newarray .int, 2) := by decide +kernel
theorem dX1_init_22 : decode cX1_init 22 = .ok (.putfield 19, 3) := by decide +kernel
theorem dX1_init_25 : decode cX1_init 25 = .ok (.aload_n 0, 1) := by decide +kernel
theorem dX1_init_26 : decode cX1_init 26 = .ok (.bipush 20, 2) := by decide +kernel
theorem dX1_init_28 : decode cX1_init 28 = .ok (.newarray .int, 2) := by decide +kernel
theorem dX1_init_30 : decode cX1_init 30 = .ok (.putfield 22, 3) := by decide +kernel
theorem dX1_init_33 : decode cX1_init 33 = .ok (.aload_n 0, 1) := by decide +kernel
theorem dX1_init_34 : decode cX1_init 34 = .ok (.iconst 0, 1) := by decide +kernel
theorem dX1_init_35 : decode cX1_init 35 = .ok (.putfield 25, 3) := by decide +kernel
theorem dX1_init_38 : decode cX1_init 38 = .ok (.aload_n 0, 1) := by decide +kernel
theorem dX1_init_39 : decode cX1_init 39 = .ok (.bipush 30, 2) := by decide +kernel
theorem dX1_init_41 : decode cX1_init 41 = .ok (.newarray .int, 2) := by decide +kernel
theorem dX1_init_43 : decode cX1_init 43 = .ok (.putfield 28, 3) := by decide +kernel
theorem dX1_init_46 : decode cX1_init 46 = .ok (.aload_n 0, 1) := by decide +kernel
theorem dX1_init_47 : decode cX1_init 47 = .ok (.bipush 30, 2) := by decide +kernel
theorem dX1_init_49 : decode cX1_init 49 = .ok (.newarray .int, 2) := by decide +kernel
theorem dX1_init_51 : decode cX1_init 51 = .ok (.putfield 31, 3) := by decide +kernel
theorem dX1_init_54 : decode cX1_init 54 = .ok (.aload_n 0, 1) := by decide +kernel
theorem dX1_init_55 : decode cX1_init 55 = .ok (.bipush 30, 2) := by decide +kernel
theorem dX1_init_57 : decode cX1_init 57 = .ok (.newarray .int, 2) := by decide +kernel
theorem dX1_init_59 : decode cX1_init 59 = .ok (.putfield 34, 3) := by decide +kernel
theorem dX1_init_62 : decode cX1_init 62 = .ok (.aload_n 0, 1) := by decide +kernel
theorem dX1_init_63 : decode cX1_init 63 = .ok (.bipush 30, 2) := by decide +kernel
theorem dX1_init_65 : decode cX1_init 65 = .ok (.newarray .int, 2) := by decide +kernel
theorem dX1_init_67 : decode cX1_init 67 = .ok (.putfield 37, 3) := by decide +kernel
theorem dX1_init_70 : decode cX1_init 70 = .ok (.aload_n 0, 1) := by decide +kernel
theorem dX1_init_71 : decode cX1_init 71 = .ok (.iconst 0, 1) := by decide +kernel
theorem dX1_init_72 : decode cX1_init 72 = .ok (.putfield 40, 3) := by decide +kernel
theorem dX1_init_75 : decode cX1_init 75 = .ok (.aload_n 0, 1) := by decide +kernel
theorem dX1_init_76 : decode cX1_init 76 = .ok (.bipush 12, 2) := by decide +kernel
theorem dX1_init_78 : decode cX1_init 78 = .ok (.newarray .int, 2) := by decide +kernel
theorem dX1_init_80 : decode cX1_init 80 = .ok (.putfield 43, 3) := by decide +kernel
theorem dX1_init_83 : decode cX1_init 83 = .ok (.aload_n 0, 1) := by decide +kernel
theorem dX1_init_84 : decode cX1_init 84 = .ok (.bipush 12, 2) := by decide +kernel
theorem dX1_init_86 : decode cX1_init 86 = .ok (.newarray .int, 2) := by decide +kernel
theorem dX1_init_88 : decode cX1_init 88 = .ok (.putfield 46, 3) := by decide +kernel
theorem dX1_init_91 : decode cX1_init 91 = .ok (.aload_n 0, 1) := by decide +kernel
theorem dX1_init_92 : decode cX1_init 92 = .ok (.bipush 12, 2) := by decide +kernel
theorem dX1_init_94 : decode cX1_init 94 = .ok (.newarray .int, 2) := by decide +kernel
theorem dX1_init_96 : decode cX1_init 96 = .ok (.putfield 49, 3) := by decide +kernel
theorem dX1_init_99 : decode cX1_init 99 = .ok (.aload_n 0, 1) := by decide +kernel
theorem dX1_init_100 : decode cX1_init 100 = .ok (.bipush 8, 2) := by decide +kernel
theorem dX1_init_102 : decode cX1_init 102 = .ok (.newarray .int, 2) := by decide +kernel
theorem dX1_init_104 : decode cX1_init 104 = .ok (.putfield 52, 3) := by decide +kernel
theorem dX1_init_107 : decode cX1_init 107 = .ok (.getstatic 55, 3) := by decide +kernel
theorem dX1_init_110 : decode cX1_init 110 = .ok (.iconst 0, 1) := by decide +kernel
theorem dX1_init_111 : decode cX1_init 111 = .ok (.aload_n 0, 1) := by decide +kernel
theorem dX1_init_112 : decode cX1_init 112 = .ok (.getfield 52, 3) := by decide +kernel
theorem dX1_init_115 : decode cX1_init 115 = .ok (.iconst 0, 1) := by decide +kernel
theorem dX1_init_116 : decode cX1_init 116 = .ok (.bipush 8, 2) := by decide +kernel
theorem dX1_init_118 : decode cX1_init 118 = .ok (.invokestatic 58, 3) := by decide +kernel
theorem dX1_init_121 : decode cX1_init 121 = .ok (.return_, 1) := by decide +kernel
def t_X1_init_0 (bc bs : Nat) : am_T := tb_aload 0 <|
  tb_pop <|
  tb_aload 0 <|
  tb_const 0 <|
  tb_putI 1 0 <|
  tb_aload 0 <|
  tb_const 20 <|
  tb_newa bc bs 1 <|
  tb_putR 1 1 <|
  tb_aload 0 <|
  tb_const 20 <|
  tb_newa bc bs 1 <|
  tb_putR 1 2 <|
  tb_aload 0 <|
  tb_const 20 <|
  tb_newa bc bs 1 <|
  tb_putR 1 3 <|
  tb_aload 0 <|
  tb_const 0 <|
  tb_putI 1 4 <|
  tb_aload 0 <|
  tb_const 30 <|
  tb_newa bc bs 1 <|
  tb_putR 1 5 <|
  tb_aload 0 <|
  tb_const 30 <|
  tb_newa bc bs 1 <|
  tb_putR 1 6 <|
  tb_aload 0 <|
  tb_const 30 <|
  tb_newa bc bs 1 <|
  tb_putR 1 7 <|
  tb_aload 0 <|
  tb_const 30 <|
  tb_newa bc bs 1 <|
  tb_putR 1 8 <|
  tb_aload 0 <|
  tb_const 0 <|
  tb_putI 1 9 <|
  tb_aload 0 <|
  tb_const 12 <|
  tb_newa bc bs 1 <|
  tb_putR 1 10 <|
  tb_aload 0 <|
  tb_const 12 <|
  tb_newa bc bs 1 <|
  tb_putR 1 11 <|
  tb_aload 0 <|
  tb_const 12 <|
  tb_newa bc bs 1 <|
  tb_putR 1 12 <|
  tb_aload 0 <|
  tb_const 8 <|
  tb_newa bc bs 1 <|
  tb_putR 1 13 <|
  tb_stat 0 <|
  tb_const 0 <|
  tb_aload 0 <|
  tb_getR 1 13 <|
  tb_const 0 <|
  tb_const 8 <|
  tb_copy <|
  tb_retA bc bs
def h_X1_init (bc bs : Nat) : am_Hd := fun h => if h = 0 then t_X1_init_0 bc bs else tb_bad
theorem h_X1_init_0 {bc bs : Nat} : h_X1_init bc bs 0 = t_X1_init_0 bc bs := rfl
def rm_X1_init : Room := { frames := 1, cells := 11, slots := 224, locals := 26 }
def sp_X1_init : am_sp := fun as M Q => as.length ≤ 1 ∧ am_OK (h_X1_init (M.1.length + 11) (am_sz M.1 + 224)) Q 0 (am_in 1 as) M
theorem s_X1_init_0 {G : am_G} {bc bs : Nat} (X : am_Cx G cX1_init RX1 "<init>" rm_X1_init none 1 bc bs true) : am_S G 0 (t_X1_init_0 bc bs) := by
  unfold t_X1_init_0
  refine as_aload_n (pc := 0) X dX1_init_0 rfl ?_
  refine as_pop (pc := 1) X aw_44 aw_31 aw_32 (by decide) (by decide) dX1_init_1 ?_
  refine as_aload_n (pc := 4) X dX1_init_4 rfl ?_
  refine as_iconst (pc := 5) X dX1_init_5 (by decide) ?_
  refine as_putI (ci := 1) (j := 0) (pc := 6) X (Cn := RX1) (Tf := TX1) (N := 14) rfl rfl (by decide) iw_X1 aw_50 tyX1 tyX1_ok nmX1 rfl rfl (by decide +kernel) dX1_init_6 ?_
  refine as_aload_n (pc := 9) X dX1_init_9 rfl ?_
  refine as_bipush (pc := 10) X dX1_init_10 (by decide) ?_
  refine as_newa1 (pc := 12) X aw_113 dX1_init_12 ?_
  refine as_putR (ci := 1) (j := 1) (pc := 14) X (Cn := RX1) (Tf := TX1) (N := 14) rfl rfl (by decide) iw_X1 aw_52 tyX1 tyX1_ok nmX1 rfl rfl (ty := (.array .int)) rfl (by decide +kernel) (fun _ => rfl) (fun _ => rfl) dX1_init_14 ?_
  refine as_aload_n (pc := 17) X dX1_init_17 rfl ?_
  refine as_bipush (pc := 18) X dX1_init_18 (by decide) ?_
  refine as_newa1 (pc := 20) X aw_113 dX1_init_20 ?_
  refine as_putR (ci := 1) (j := 2) (pc := 22) X (Cn := RX1) (Tf := TX1) (N := 14) rfl rfl (by decide) iw_X1 aw_53 tyX1 tyX1_ok nmX1 rfl rfl (ty := (.array .int)) rfl (by decide +kernel) (fun _ => rfl) (fun _ => rfl) dX1_init_22 ?_
  refine as_aload_n (pc := 25) X dX1_init_25 rfl ?_
  refine as_bipush (pc := 26) X dX1_init_26 (by decide) ?_
  refine as_newa1 (pc := 28) X aw_113 dX1_init_28 ?_
  refine as_putR (ci := 1) (j := 3) (pc := 30) X (Cn := RX1) (Tf := TX1) (N := 14) rfl rfl (by decide) iw_X1 aw_54 tyX1 tyX1_ok nmX1 rfl rfl (ty := (.array .int)) rfl (by decide +kernel) (fun _ => rfl) (fun _ => rfl) dX1_init_30 ?_
  refine as_aload_n (pc := 33) X dX1_init_33 rfl ?_
  refine as_iconst (pc := 34) X dX1_init_34 (by decide) ?_
  refine as_putI (ci := 1) (j := 4) (pc := 35) X (Cn := RX1) (Tf := TX1) (N := 14) rfl rfl (by decide) iw_X1 aw_55 tyX1 tyX1_ok nmX1 rfl rfl (by decide +kernel) dX1_init_35 ?_
  refine as_aload_n (pc := 38) X dX1_init_38 rfl ?_
  refine as_bipush (pc := 39) X dX1_init_39 (by decide) ?_
  refine as_newa1 (pc := 41) X aw_113 dX1_init_41 ?_
  refine as_putR (ci := 1) (j := 5) (pc := 43) X (Cn := RX1) (Tf := TX1) (N := 14) rfl rfl (by decide) iw_X1 aw_58 tyX1 tyX1_ok nmX1 rfl rfl (ty := (.array .int)) rfl (by decide +kernel) (fun _ => rfl) (fun _ => rfl) dX1_init_43 ?_
  refine as_aload_n (pc := 46) X dX1_init_46 rfl ?_
  refine as_bipush (pc := 47) X dX1_init_47 (by decide) ?_
  refine as_newa1 (pc := 49) X aw_113 dX1_init_49 ?_
  refine as_putR (ci := 1) (j := 6) (pc := 51) X (Cn := RX1) (Tf := TX1) (N := 14) rfl rfl (by decide) iw_X1 aw_61 tyX1 tyX1_ok nmX1 rfl rfl (ty := (.array .int)) rfl (by decide +kernel) (fun _ => rfl) (fun _ => rfl) dX1_init_51 ?_
  refine as_aload_n (pc := 54) X dX1_init_54 rfl ?_
  refine as_bipush (pc := 55) X dX1_init_55 (by decide) ?_
  refine as_newa1 (pc := 57) X aw_113 dX1_init_57 ?_
  refine as_putR (ci := 1) (j := 7) (pc := 59) X (Cn := RX1) (Tf := TX1) (N := 14) rfl rfl (by decide) iw_X1 aw_64 tyX1 tyX1_ok nmX1 rfl rfl (ty := (.array .int)) rfl (by decide +kernel) (fun _ => rfl) (fun _ => rfl) dX1_init_59 ?_
  refine as_aload_n (pc := 62) X dX1_init_62 rfl ?_
  refine as_bipush (pc := 63) X dX1_init_63 (by decide) ?_
  refine as_newa1 (pc := 65) X aw_113 dX1_init_65 ?_
  refine as_putR (ci := 1) (j := 8) (pc := 67) X (Cn := RX1) (Tf := TX1) (N := 14) rfl rfl (by decide) iw_X1 aw_66 tyX1 tyX1_ok nmX1 rfl rfl (ty := (.array .int)) rfl (by decide +kernel) (fun _ => rfl) (fun _ => rfl) dX1_init_67 ?_
  refine as_aload_n (pc := 70) X dX1_init_70 rfl ?_
  refine as_iconst (pc := 71) X dX1_init_71 (by decide) ?_
  refine as_putI (ci := 1) (j := 9) (pc := 72) X (Cn := RX1) (Tf := TX1) (N := 14) rfl rfl (by decide) iw_X1 aw_69 tyX1 tyX1_ok nmX1 rfl rfl (by decide +kernel) dX1_init_72 ?_
  refine as_aload_n (pc := 75) X dX1_init_75 rfl ?_
  refine as_bipush (pc := 76) X dX1_init_76 (by decide) ?_
  refine as_newa1 (pc := 78) X aw_113 dX1_init_78 ?_
  refine as_putR (ci := 1) (j := 10) (pc := 80) X (Cn := RX1) (Tf := TX1) (N := 14) rfl rfl (by decide) iw_X1 aw_72 tyX1 tyX1_ok nmX1 rfl rfl (ty := (.array .int)) rfl (by decide +kernel) (fun _ => rfl) (fun _ => rfl) dX1_init_80 ?_
  refine as_aload_n (pc := 83) X dX1_init_83 rfl ?_
  refine as_bipush (pc := 84) X dX1_init_84 (by decide) ?_
  refine as_newa1 (pc := 86) X aw_113 dX1_init_86 ?_
  refine as_putR (ci := 1) (j := 11) (pc := 88) X (Cn := RX1) (Tf := TX1) (N := 14) rfl rfl (by decide) iw_X1 aw_75 tyX1 tyX1_ok nmX1 rfl rfl (ty := (.array .int)) rfl (by decide +kernel) (fun _ => rfl) (fun _ => rfl) dX1_init_88 ?_
  refine as_aload_n (pc := 91) X dX1_init_91 rfl ?_
  refine as_bipush (pc := 92) X dX1_init_92 (by decide) ?_
  refine as_newa1 (pc := 94) X aw_113 dX1_init_94 ?_
  refine as_putR (ci := 1) (j := 12) (pc := 96) X (Cn := RX1) (Tf := TX1) (N := 14) rfl rfl (by decide) iw_X1 aw_78 tyX1 tyX1_ok nmX1 rfl rfl (ty := (.array .int)) rfl (by decide +kernel) (fun _ => rfl) (fun _ => rfl) dX1_init_96 ?_
  refine as_aload_n (pc := 99) X dX1_init_99 rfl ?_
  refine as_bipush (pc := 100) X dX1_init_100 (by decide) ?_
  refine as_newa1 (pc := 102) X aw_113 dX1_init_102 ?_
  refine as_putR (ci := 1) (j := 13) (pc := 104) X (Cn := RX1) (Tf := TX1) (N := 14) rfl rfl (by decide) iw_X1 aw_81 tyX1 tyX1_ok nmX1 rfl rfl (ty := (.array .int)) rfl (by decide +kernel) (fun _ => rfl) (fun _ => rfl) dX1_init_104 ?_
  refine as_stat0N (pc := 107) X (ix := 55) (by simp [am_NW, RX4]) dX1_init_107 ?_
  refine as_iconst (pc := 110) X dX1_init_110 (by decide) ?_
  refine as_aload_n (pc := 111) X dX1_init_111 rfl ?_
  refine as_getR (ci := 1) (j := 13) (pc := 112) X (Cn := RX1) (Tf := TX1) (N := 14) rfl rfl (by decide) iw_X1 aw_81 rfl dX1_init_112 ?_
  refine as_iconst (pc := 115) X dX1_init_115 (by decide) ?_
  refine as_bipush (pc := 116) X dX1_init_116 (by decide) ?_
  refine as_copy (pc := 118) X aw_47 aw_49 aw_48 aw_20 (by decide) (by decide) dX1_init_118 ?_
  exact as_retA (pc := 121) X rfl dX1_init_121
theorem s_X1_init {G : am_G} {bc bs : Nat} (X : am_Cx G cX1_init RX1 "<init>" rm_X1_init none 1 bc bs true) (h : Nat) : am_S G h (h_X1_init bc bs h) := by
  unfold h_X1_init
  split
  · next e => rw [e]; exact s_X1_init_0 X
  exact as_bad
theorem ct_X1_init : am_Ct yX1_init cX1_init 1 none rm_X1_init sp_X1_init := am_met (own := RX1) (nm := "<init>") (by decide) rfl rfl (Or.inl rfl) (fun bc bs => h_X1_init bc bs) (fun _ _ _ X => s_X1_init X) (fun _ _ _ _ h => h)
-- X3_init
theorem dX3_init_0 : decode cX3_init 0 = .ok (.aload_n 0, 1) := by decide +kernel
theorem dX3_init_1 : decode cX3_init 1 = .ok (.invokespecial 3, 3) := by decide +kernel
theorem dX3_init_4 : decode cX3_init 4 = .ok (.aload_n 0, 1) := by decide +kernel
theorem dX3_init_5 : decode cX3_init 5 = .ok (.new 9, 3) := by decide +kernel
theorem dX3_init_8 : decode cX3_init 8 = .ok (.dup, 1) := by decide +kernel
theorem dX3_init_9 : decode cX3_init 9 = .ok (.invokespecial 11, 3) := by decide +kernel
theorem dX3_init_12 : decode cX3_init 12 = .ok (.putfield 12, 3) := by decide +kernel
theorem dX3_init_15 : decode cX3_init 15 = .ok (.aload_n 0, 1) := by decide +kernel
theorem dX3_init_16 : decode cX3_init 16 = .ok (.bipush 30, 2) := by decide +kernel
theorem dX3_init_18 : decode cX3_init 18 = .ok (.newarray .int, 2) := by decide +kernel
theorem dX3_init_20 : decode cX3_init 20 = .ok (.putfield 18, 3) := by decide +kernel
theorem dX3_init_23 : decode cX3_init 23 = .ok (.aload_n 0, 1) := by decide +kernel
theorem dX3_init_24 : decode cX3_init 24 = .ok (.bipush 30, 2) := by decide +kernel
theorem dX3_init_26 : decode cX3_init 26 = .ok (.newarray .int, 2) := by decide +kernel
theorem dX3_init_28 : decode cX3_init 28 = .ok (.putfield 22, 3) := by decide +kernel
theorem dX3_init_31 : decode cX3_init 31 = .ok (.aload_n 0, 1) := by decide +kernel
theorem dX3_init_32 : decode cX3_init 32 = .ok (.bipush 30, 2) := by decide +kernel
theorem dX3_init_34 : decode cX3_init 34 = .ok (.newarray .int, 2) := by decide +kernel
theorem dX3_init_36 : decode cX3_init 36 = .ok (.putfield 25, 3) := by decide +kernel
theorem dX3_init_39 : decode cX3_init 39 = .ok (.aload_n 0, 1) := by decide +kernel
theorem dX3_init_40 : decode cX3_init 40 = .ok (.sipush 900, 3) := by decide +kernel
theorem dX3_init_43 : decode cX3_init 43 = .ok (.newarray .int, 2) := by decide +kernel
theorem dX3_init_45 : decode cX3_init 45 = .ok (.putfield 28, 3) := by decide +kernel
theorem dX3_init_48 : decode cX3_init 48 = .ok (.aload_n 0, 1) := by decide +kernel
theorem dX3_init_49 : decode cX3_init 49 = .ok (.bipush 30, 2) := by decide +kernel
theorem dX3_init_51 : decode cX3_init 51 = .ok (.newarray .int, 2) := by decide +kernel
theorem dX3_init_53 : decode cX3_init 53 = .ok (.putfield 31, 3) := by decide +kernel
theorem dX3_init_56 : decode cX3_init 56 = .ok (.aload_n 0, 1) := by decide +kernel
theorem dX3_init_57 : decode cX3_init 57 = .ok (.bipush 30, 2) := by decide +kernel
theorem dX3_init_59 : decode cX3_init 59 = .ok (.newarray .int, 2) := by decide +kernel
theorem dX3_init_61 : decode cX3_init 61 = .ok (.putfield 34, 3) := by decide +kernel
theorem dX3_init_64 : decode cX3_init 64 = .ok (.aload_n 0, 1) := by decide +kernel
theorem dX3_init_65 : decode cX3_init 65 = .ok (.bipush 30, 2) := by decide +kernel
theorem dX3_init_67 : decode cX3_init 67 = .ok (.newarray .int, 2) := by decide +kernel
theorem dX3_init_69 : decode cX3_init 69 = .ok (.putfield 37, 3) := by decide +kernel
theorem dX3_init_72 : decode cX3_init 72 = .ok (.aload_n 0, 1) := by decide +kernel
theorem dX3_init_73 : decode cX3_init 73 = .ok (.bipush 30, 2) := by decide +kernel
theorem dX3_init_75 : decode cX3_init 75 = .ok (.newarray .int, 2) := by decide +kernel
theorem dX3_init_77 : decode cX3_init 77 = .ok (.putfield 40, 3) := by decide +kernel
theorem dX3_init_80 : decode cX3_init 80 = .ok (.aload_n 0, 1) := by decide +kernel
theorem dX3_init_81 : decode cX3_init 81 = .ok (.bipush 30, 2) := by decide +kernel
theorem dX3_init_83 : decode cX3_init 83 = .ok (.newarray .int, 2) := by decide +kernel
theorem dX3_init_85 : decode cX3_init 85 = .ok (.putfield 43, 3) := by decide +kernel
theorem dX3_init_88 : decode cX3_init 88 = .ok (.aload_n 0, 1) := by decide +kernel
theorem dX3_init_89 : decode cX3_init 89 = .ok (.bipush 30, 2) := by decide +kernel
theorem dX3_init_91 : decode cX3_init 91 = .ok (.newarray .int, 2) := by decide +kernel
theorem dX3_init_93 : decode cX3_init 93 = .ok (.putfield 46, 3) := by decide +kernel
theorem dX3_init_96 : decode cX3_init 96 = .ok (.aload_n 0, 1) := by decide +kernel
theorem dX3_init_97 : decode cX3_init 97 = .ok (.bipush 30, 2) := by decide +kernel
theorem dX3_init_99 : decode cX3_init 99 = .ok (.newarray .int, 2) := by decide +kernel
theorem dX3_init_101 : decode cX3_init 101 = .ok (.putfield 49, 3) := by decide +kernel
theorem dX3_init_104 : decode cX3_init 104 = .ok (.aload_n 0, 1) := by decide +kernel
theorem dX3_init_105 : decode cX3_init 105 = .ok (.bipush 30, 2) := by decide +kernel
theorem dX3_init_107 : decode cX3_init 107 = .ok (.newarray .int, 2) := by decide +kernel
theorem dX3_init_109 : decode cX3_init 109 = .ok (.putfield 52, 3) := by decide +kernel
theorem dX3_init_112 : decode cX3_init 112 = .ok (.aload_n 0, 1) := by decide +kernel
theorem dX3_init_113 : decode cX3_init 113 = .ok (.bipush 30, 2) := by decide +kernel
theorem dX3_init_115 : decode cX3_init 115 = .ok (.newarray .int, 2) := by decide +kernel
theorem dX3_init_117 : decode cX3_init 117 = .ok (.putfield 55, 3) := by decide +kernel
theorem dX3_init_120 : decode cX3_init 120 = .ok (.aload_n 0, 1) := by decide +kernel
theorem dX3_init_121 : decode cX3_init 121 = .ok (.iconst 0, 1) := by decide +kernel
theorem dX3_init_122 : decode cX3_init 122 = .ok (.putfield 58, 3) := by decide +kernel
theorem dX3_init_125 : decode cX3_init 125 = .ok (.aload_n 0, 1) := by decide +kernel
theorem dX3_init_126 : decode cX3_init 126 = .ok (.bipush 30, 2) := by decide +kernel
theorem dX3_init_128 : decode cX3_init 128 = .ok (.newarray .int, 2) := by decide +kernel
theorem dX3_init_130 : decode cX3_init 130 = .ok (.putfield 62, 3) := by decide +kernel
theorem dX3_init_133 : decode cX3_init 133 = .ok (.aload_n 0, 1) := by decide +kernel
theorem dX3_init_134 : decode cX3_init 134 = .ok (.bipush 30, 2) := by decide +kernel
theorem dX3_init_136 : decode cX3_init 136 = .ok (.newarray .int, 2) := by decide +kernel
theorem dX3_init_138 : decode cX3_init 138 = .ok (.putfield 65, 3) := by decide +kernel
theorem dX3_init_141 : decode cX3_init 141 = .ok (.return_, 1) := by decide +kernel
def t_X3_init_0 (bc bs : Nat) : am_T := tb_aload 0 <|
  tb_pop <|
  tb_aload 0 <|
  tb_new bc bs 1 <|
  tb_dup <|
  tb_callI bc bs 11 224 sp_X1_init 1 <|
  tb_putR 3 0 <|
  tb_aload 0 <|
  tb_const 30 <|
  tb_newa bc bs 1 <|
  tb_putR 3 1 <|
  tb_aload 0 <|
  tb_const 30 <|
  tb_newa bc bs 1 <|
  tb_putR 3 2 <|
  tb_aload 0 <|
  tb_const 30 <|
  tb_newa bc bs 1 <|
  tb_putR 3 3 <|
  tb_aload 0 <|
  tb_const 900 <|
  tb_newa bc bs 1 <|
  tb_putR 3 4 <|
  tb_aload 0 <|
  tb_const 30 <|
  tb_newa bc bs 1 <|
  tb_putR 3 5 <|
  tb_aload 0 <|
  tb_const 30 <|
  tb_newa bc bs 1 <|
  tb_putR 3 6 <|
  tb_aload 0 <|
  tb_const 30 <|
  tb_newa bc bs 1 <|
  tb_putR 3 7 <|
  tb_aload 0 <|
  tb_const 30 <|
  tb_newa bc bs 1 <|
  tb_putR 3 8 <|
  tb_aload 0 <|
  tb_const 30 <|
  tb_newa bc bs 1 <|
  tb_putR 3 9 <|
  tb_aload 0 <|
  tb_const 30 <|
  tb_newa bc bs 1 <|
  tb_putR 3 10 <|
  tb_aload 0 <|
  tb_const 30 <|
  tb_newa bc bs 1 <|
  tb_putR 3 11 <|
  tb_aload 0 <|
  tb_const 30 <|
  tb_newa bc bs 1 <|
  tb_putR 3 12 <|
  tb_aload 0 <|
  tb_const 30 <|
  tb_newa bc bs 1 <|
  tb_putR 3 13 <|
  tb_aload 0 <|
  tb_const 0 <|
  tb_putI 3 14 <|
  tb_aload 0 <|
  tb_const 30 <|
  tb_newa bc bs 1 <|
  tb_putR 3 15 <|
  tb_aload 0 <|
  tb_const 30 <|
  tb_newa bc bs 1 <|
  tb_putR 3 16 <|
  tb_retA bc bs
def h_X3_init (bc bs : Nat) : am_Hd := fun h => if h = 0 then t_X3_init_0 bc bs else tb_bad
theorem h_X3_init_0 {bc bs : Nat} : h_X3_init bc bs 0 = t_X3_init_0 bc bs := rfl
def rm_X3_init : Room := { frames := 2, cells := 27, slots := 1558, locals := 46 }
def sp_X3_init : am_sp := fun as M Q => as.length ≤ 1 ∧ am_OK (h_X3_init (M.1.length + 27) (am_sz M.1 + 1558)) Q 0 (am_in 1 as) M
theorem s_X3_init_0 {G : am_G} {bc bs : Nat} (X : am_Cx G cX3_init RX3 "<init>" rm_X3_init none 1 bc bs true) : am_S G 0 (t_X3_init_0 bc bs) := by
  unfold t_X3_init_0
  refine as_aload_n (pc := 0) X dX3_init_0 rfl ?_
  refine as_pop (pc := 1) X aw_38 aw_31 aw_32 (by decide) (by decide) dX3_init_1 ?_
  refine as_aload_n (pc := 4) X dX3_init_4 rfl ?_
  refine as_new (ci := 1) (Cn := RX1) (Tf := TX1) (N := 14) (pc := 5) X rfl rfl iw_X1 tyX1 tyX1_ok (by decide +kernel) aw_39 aw_40 aw_19 dX3_init_5 ?_
  refine as_dup (pc := 8) X dX3_init_8 ?_
  refine as_callI (np := 0) (ix := 11) (pc := 9) X ct_X1_init rfl aw_41 aw_42 aw_43 aw_19 (by decide +kernel) (by decide) dX3_init_9 ?_
  refine as_putR (ci := 3) (j := 0) (pc := 12) X (Cn := RX3) (Tf := TX3) (N := 17) rfl rfl (by decide) iw_X3 aw_114 tyX3 tyX3_ok nmX3 rfl rfl (ty := (.object "ChatThreads$Log")) rfl (by decide +kernel) (fun _ => rfl) (fun _ => rfl) dX3_init_12 ?_
  refine as_aload_n (pc := 15) X dX3_init_15 rfl ?_
  refine as_bipush (pc := 16) X dX3_init_16 (by decide) ?_
  refine as_newa1 (pc := 18) X aw_113 dX3_init_18 ?_
  refine as_putR (ci := 3) (j := 1) (pc := 20) X (Cn := RX3) (Tf := TX3) (N := 17) rfl rfl (by decide) iw_X3 aw_116 tyX3 tyX3_ok nmX3 rfl rfl (ty := (.array .int)) rfl (by decide +kernel) (fun _ => rfl) (fun _ => rfl) dX3_init_20 ?_
  refine as_aload_n (pc := 23) X dX3_init_23 rfl ?_
  refine as_bipush (pc := 24) X dX3_init_24 (by decide) ?_
  refine as_newa1 (pc := 26) X aw_113 dX3_init_26 ?_
  refine as_putR (ci := 3) (j := 2) (pc := 28) X (Cn := RX3) (Tf := TX3) (N := 17) rfl rfl (by decide) iw_X3 aw_118 tyX3 tyX3_ok nmX3 rfl rfl (ty := (.array .int)) rfl (by decide +kernel) (fun _ => rfl) (fun _ => rfl) dX3_init_28 ?_
  refine as_aload_n (pc := 31) X dX3_init_31 rfl ?_
  refine as_bipush (pc := 32) X dX3_init_32 (by decide) ?_
  refine as_newa1 (pc := 34) X aw_113 dX3_init_34 ?_
  refine as_putR (ci := 3) (j := 3) (pc := 36) X (Cn := RX3) (Tf := TX3) (N := 17) rfl rfl (by decide) iw_X3 aw_120 tyX3 tyX3_ok nmX3 rfl rfl (ty := (.array .int)) rfl (by decide +kernel) (fun _ => rfl) (fun _ => rfl) dX3_init_36 ?_
  refine as_aload_n (pc := 39) X dX3_init_39 rfl ?_
  refine as_sipush (pc := 40) X dX3_init_40 (by decide) ?_
  refine as_newa1 (pc := 43) X aw_113 dX3_init_43 ?_
  refine as_putR (ci := 3) (j := 4) (pc := 45) X (Cn := RX3) (Tf := TX3) (N := 17) rfl rfl (by decide) iw_X3 aw_122 tyX3 tyX3_ok nmX3 rfl rfl (ty := (.array .int)) rfl (by decide +kernel) (fun _ => rfl) (fun _ => rfl) dX3_init_45 ?_
  refine as_aload_n (pc := 48) X dX3_init_48 rfl ?_
  refine as_bipush (pc := 49) X dX3_init_49 (by decide) ?_
  refine as_newa1 (pc := 51) X aw_113 dX3_init_51 ?_
  refine as_putR (ci := 3) (j := 5) (pc := 53) X (Cn := RX3) (Tf := TX3) (N := 17) rfl rfl (by decide) iw_X3 aw_123 tyX3 tyX3_ok nmX3 rfl rfl (ty := (.array .int)) rfl (by decide +kernel) (fun _ => rfl) (fun _ => rfl) dX3_init_53 ?_
  refine as_aload_n (pc := 56) X dX3_init_56 rfl ?_
  refine as_bipush (pc := 57) X dX3_init_57 (by decide) ?_
  refine as_newa1 (pc := 59) X aw_113 dX3_init_59 ?_
  refine as_putR (ci := 3) (j := 6) (pc := 61) X (Cn := RX3) (Tf := TX3) (N := 17) rfl rfl (by decide) iw_X3 aw_124 tyX3 tyX3_ok nmX3 rfl rfl (ty := (.array .int)) rfl (by decide +kernel) (fun _ => rfl) (fun _ => rfl) dX3_init_61 ?_
  refine as_aload_n (pc := 64) X dX3_init_64 rfl ?_
  refine as_bipush (pc := 65) X dX3_init_65 (by decide) ?_
  refine as_newa1 (pc := 67) X aw_113 dX3_init_67 ?_
  refine as_putR (ci := 3) (j := 7) (pc := 69) X (Cn := RX3) (Tf := TX3) (N := 17) rfl rfl (by decide) iw_X3 aw_125 tyX3 tyX3_ok nmX3 rfl rfl (ty := (.array .int)) rfl (by decide +kernel) (fun _ => rfl) (fun _ => rfl) dX3_init_69 ?_
  refine as_aload_n (pc := 72) X dX3_init_72 rfl ?_
  refine as_bipush (pc := 73) X dX3_init_73 (by decide) ?_
  refine as_newa1 (pc := 75) X aw_113 dX3_init_75 ?_
  refine as_putR (ci := 3) (j := 8) (pc := 77) X (Cn := RX3) (Tf := TX3) (N := 17) rfl rfl (by decide) iw_X3 aw_126 tyX3 tyX3_ok nmX3 rfl rfl (ty := (.array .int)) rfl (by decide +kernel) (fun _ => rfl) (fun _ => rfl) dX3_init_77 ?_
  refine as_aload_n (pc := 80) X dX3_init_80 rfl ?_
  refine as_bipush (pc := 81) X dX3_init_81 (by decide) ?_
  refine as_newa1 (pc := 83) X aw_113 dX3_init_83 ?_
  refine as_putR (ci := 3) (j := 9) (pc := 85) X (Cn := RX3) (Tf := TX3) (N := 17) rfl rfl (by decide) iw_X3 aw_127 tyX3 tyX3_ok nmX3 rfl rfl (ty := (.array .int)) rfl (by decide +kernel) (fun _ => rfl) (fun _ => rfl) dX3_init_85 ?_
  refine as_aload_n (pc := 88) X dX3_init_88 rfl ?_
  refine as_bipush (pc := 89) X dX3_init_89 (by decide) ?_
  refine as_newa1 (pc := 91) X aw_113 dX3_init_91 ?_
  refine as_putR (ci := 3) (j := 10) (pc := 93) X (Cn := RX3) (Tf := TX3) (N := 17) rfl rfl (by decide) iw_X3 aw_129 tyX3 tyX3_ok nmX3 rfl rfl (ty := (.array .int)) rfl (by decide +kernel) (fun _ => rfl) (fun _ => rfl) dX3_init_93 ?_
  refine as_aload_n (pc := 96) X dX3_init_96 rfl ?_
  refine as_bipush (pc := 97) X dX3_init_97 (by decide) ?_
  refine as_newa1 (pc := 99) X aw_113 dX3_init_99 ?_
  refine as_putR (ci := 3) (j := 11) (pc := 101) X (Cn := RX3) (Tf := TX3) (N := 17) rfl rfl (by decide) iw_X3 aw_131 tyX3 tyX3_ok nmX3 rfl rfl (ty := (.array .int)) rfl (by decide +kernel) (fun _ => rfl) (fun _ => rfl) dX3_init_101 ?_
  refine as_aload_n (pc := 104) X dX3_init_104 rfl ?_
  refine as_bipush (pc := 105) X dX3_init_105 (by decide) ?_
  refine as_newa1 (pc := 107) X aw_113 dX3_init_107 ?_
  refine as_putR (ci := 3) (j := 12) (pc := 109) X (Cn := RX3) (Tf := TX3) (N := 17) rfl rfl (by decide) iw_X3 aw_132 tyX3 tyX3_ok nmX3 rfl rfl (ty := (.array .int)) rfl (by decide +kernel) (fun _ => rfl) (fun _ => rfl) dX3_init_109 ?_
  refine as_aload_n (pc := 112) X dX3_init_112 rfl ?_
  refine as_bipush (pc := 113) X dX3_init_113 (by decide) ?_
  refine as_newa1 (pc := 115) X aw_113 dX3_init_115 ?_
  refine as_putR (ci := 3) (j := 13) (pc := 117) X (Cn := RX3) (Tf := TX3) (N := 17) rfl rfl (by decide) iw_X3 aw_133 tyX3 tyX3_ok nmX3 rfl rfl (ty := (.array .int)) rfl (by decide +kernel) (fun _ => rfl) (fun _ => rfl) dX3_init_117 ?_
  refine as_aload_n (pc := 120) X dX3_init_120 rfl ?_
  refine as_iconst (pc := 121) X dX3_init_121 (by decide) ?_
  refine as_putI (ci := 3) (j := 14) (pc := 122) X (Cn := RX3) (Tf := TX3) (N := 17) rfl rfl (by decide) iw_X3 aw_135 tyX3 tyX3_ok nmX3 rfl rfl (by decide +kernel) dX3_init_122 ?_
  refine as_aload_n (pc := 125) X dX3_init_125 rfl ?_
  refine as_bipush (pc := 126) X dX3_init_126 (by decide) ?_
  refine as_newa1 (pc := 128) X aw_113 dX3_init_128 ?_
  refine as_putR (ci := 3) (j := 15) (pc := 130) X (Cn := RX3) (Tf := TX3) (N := 17) rfl rfl (by decide) iw_X3 aw_137 tyX3 tyX3_ok nmX3 rfl rfl (ty := (.array .int)) rfl (by decide +kernel) (fun _ => rfl) (fun _ => rfl) dX3_init_130 ?_
  refine as_aload_n (pc := 133) X dX3_init_133 rfl ?_
  refine as_bipush (pc := 134) X dX3_init_134 (by decide) ?_
  refine as_newa1 (pc := 136) X aw_113 dX3_init_136 ?_
  refine as_putR (ci := 3) (j := 16) (pc := 138) X (Cn := RX3) (Tf := TX3) (N := 17) rfl rfl (by decide) iw_X3 aw_138 tyX3 tyX3_ok nmX3 rfl rfl (ty := (.array .int)) rfl (by decide +kernel) (fun _ => rfl) (fun _ => rfl) dX3_init_138 ?_
  exact as_retA (pc := 141) X rfl dX3_init_141
theorem s_X3_init {G : am_G} {bc bs : Nat} (X : am_Cx G cX3_init RX3 "<init>" rm_X3_init none 1 bc bs true) (h : Nat) : am_S G h (h_X3_init bc bs h) := by
  unfold h_X3_init
  split
  · next e => rw [e]; exact s_X3_init_0 X
  exact as_bad
theorem ct_X3_init : am_Ct yX3_init cX3_init 1 none rm_X3_init sp_X3_init := am_met (own := RX3) (nm := "<init>") (by decide) rfl rfl (Or.inl rfl) (fun bc bs => h_X3_init bc bs) (fun _ _ _ X => s_X3_init X) (fun _ _ _ _ h => h)
-- X0_init
theorem dX0_init_0 : decode cX0_init 0 = .ok (.aload_n 0, 1) := by decide +kernel
theorem dX0_init_1 : decode cX0_init 1 = .ok (.invokespecial 3, 3) := by decide +kernel
theorem dX0_init_4 : decode cX0_init 4 = .ok (.aload_n 0, 1) := by decide +kernel
theorem dX0_init_5 : decode cX0_init 5 = .ok (.iconst 0, 1) := by decide +kernel
theorem dX0_init_6 : decode cX0_init 6 = .ok (.putfield 9, 3) := by decide +kernel
theorem dX0_init_9 : decode cX0_init 9 = .ok (.aload_n 0, 1) := by decide +kernel
theorem dX0_init_10 : decode cX0_init 10 = .ok (.iconst 4, 1) := by decide +kernel
theorem dX0_init_11 : decode cX0_init 11 = .ok (.anewarray 15, 3) := by decide +kernel
theorem dX0_init_14 : decode cX0_init 14 = .ok (.putfield 17, 3) := by decide +kernel
theorem dX0_init_17 : decode cX0_init 17 = .ok (.iconst 0, 1) := by decide +kernel
theorem dX0_init_18 : decode cX0_init 18 = .ok (.istore_n 1, 1) := by decide +kernel
theorem dX0_init_19 : decode cX0_init 19 = .ok (.iload_n 1, 1) := by decide +kernel
theorem dX0_init_20 : decode cX0_init 20 = .ok (.iconst 4, 1) := by decide +kernel
theorem dX0_init_21 : decode cX0_init 21 = .ok (.if_icmp .ge 22, 3) := by decide +kernel
theorem dX0_init_24 : decode cX0_init 24 = .ok (.aload_n 0, 1) := by decide +kernel
theorem dX0_init_25 : decode cX0_init 25 = .ok (.getfield 17, 3) := by decide +kernel
theorem dX0_init_28 : decode cX0_init 28 = .ok (.iload_n 1, 1) := by decide +kernel
theorem dX0_init_29 : decode cX0_init 29 = .ok (.new 15, 3) := by decide +kernel
theorem dX0_init_32 : decode cX0_init 32 = .ok (.dup, 1) := by decide +kernel
theorem dX0_init_33 : decode cX0_init 33 = .ok (.invokespecial 21, 3) := by decide +kernel
theorem dX0_init_36 : decode cX0_init 36 = .ok (.aastore, 1) := by decide +kernel
theorem dX0_init_37 : decode cX0_init 37 = .ok (.iinc 1 1, 3) := by decide +kernel
theorem dX0_init_40 : decode cX0_init 40 = .ok (.goto (-21), 3) := by decide +kernel
theorem dX0_init_43 : decode cX0_init 43 = .ok (.return_, 1) := by decide +kernel
def t_X0_init_43 (bc bs : Nat) : am_T := tb_retA bc bs
def t_X0_init_19 (bc bs : Nat) : am_T := tb_iload 1 <|
  tb_const 4 <|
  tb_ic (fun x y => y ≤ x) (t_X0_init_43 bc bs) <|
  tb_aload 0 <|
  tb_getR 0 1 <|
  tb_iload 1 <|
  tb_new bc bs 1 <|
  tb_dup <|
  tb_callI bc bs 11 224 sp_X1_init 1 <|
  tb_aast <|
  tb_iinc 1 1 <|
  tb_head 19
def t_X0_init_0 (bc bs : Nat) : am_T := tb_aload 0 <|
  tb_pop <|
  tb_aload 0 <|
  tb_const 0 <|
  tb_putI 0 0 <|
  tb_aload 0 <|
  tb_const 4 <|
  tb_newa bc bs 3 <|
  tb_putR 0 1 <|
  tb_const 0 <|
  tb_istore 1 <|
  tb_head 19
def h_X0_init (bc bs : Nat) : am_Hd := fun h => if h = 0 then t_X0_init_0 bc bs else if h = 19 then t_X0_init_19 bc bs else tb_bad
theorem h_X0_init_0 {bc bs : Nat} : h_X0_init bc bs 0 = t_X0_init_0 bc bs := rfl
theorem h_X0_init_19 {bc bs : Nat} : h_X0_init bc bs 19 = t_X0_init_19 bc bs := rfl
def rm_X0_init : Room := { frames := 2, cells := 49, slots := 956, locals := 46 }
def sp_X0_init : am_sp := fun as M Q => as.length ≤ 2 ∧ am_OK (h_X0_init (M.1.length + 49) (am_sz M.1 + 956)) Q 0 (am_in 2 as) M
theorem s_X0_init_43 {G : am_G} {bc bs : Nat} (X : am_Cx G cX0_init RX0 "<init>" rm_X0_init none 2 bc bs true) : am_S G 43 (t_X0_init_43 bc bs) := by
  unfold t_X0_init_43
  exact as_retA (pc := 43) X rfl dX0_init_43
theorem s_X0_init_19 {G : am_G} {bc bs : Nat} (X : am_Cx G cX0_init RX0 "<init>" rm_X0_init none 2 bc bs true) : am_S G 19 (t_X0_init_19 bc bs) := by
  unfold t_X0_init_19
  refine as_iload_n (pc := 19) X dX0_init_19 rfl ?_
  refine as_iconst (pc := 20) X dX0_init_20 (by decide) ?_
  refine as_ic_ge (pc := 21) X 43 dX0_init_21 (by decide) (s_X0_init_43 X) ?_
  refine as_aload_n (pc := 24) X dX0_init_24 rfl ?_
  refine as_getR (ci := 0) (j := 1) (pc := 25) X (Cn := RX0) (Tf := TX0) (N := 2) rfl rfl (by decide) iw_X0 aw_185 rfl dX0_init_25 ?_
  refine as_iload_n (pc := 28) X dX0_init_28 rfl ?_
  refine as_new (ci := 1) (Cn := RX1) (Tf := TX1) (N := 14) (pc := 29) X rfl rfl iw_X1 tyX1 tyX1_ok (by decide +kernel) aw_180 aw_40 aw_19 dX0_init_29 ?_
  refine as_dup (pc := 32) X dX0_init_32 ?_
  refine as_callI (np := 0) (ix := 21) (pc := 33) X ct_X1_init rfl aw_182 aw_42 aw_43 aw_19 (by decide +kernel) (by decide) dX0_init_33 ?_
  refine as_aast (pc := 36) X dX0_init_36 ?_
  refine as_iinc (pc := 37) X dX0_init_37 (by decide) (by decide) ?_
  exact as_goto (pc := 40) X 19 dX0_init_40 (by decide) (as_head)
theorem s_X0_init_0 {G : am_G} {bc bs : Nat} (X : am_Cx G cX0_init RX0 "<init>" rm_X0_init none 2 bc bs true) : am_S G 0 (t_X0_init_0 bc bs) := by
  unfold t_X0_init_0
  refine as_aload_n (pc := 0) X dX0_init_0 rfl ?_
  refine as_pop (pc := 1) X aw_179 aw_31 aw_32 (by decide) (by decide) dX0_init_1 ?_
  refine as_aload_n (pc := 4) X dX0_init_4 rfl ?_
  refine as_iconst (pc := 5) X dX0_init_5 (by decide) ?_
  refine as_putI (ci := 0) (j := 0) (pc := 6) X (Cn := RX0) (Tf := TX0) (N := 2) rfl rfl (by decide) iw_X0 aw_183 tyX0 tyX0_ok nmX0 rfl rfl (by decide +kernel) dX0_init_6 ?_
  refine as_aload_n (pc := 9) X dX0_init_9 rfl ?_
  refine as_iconst (pc := 10) X dX0_init_10 (by decide) ?_
  refine as_newa3 (pc := 11) X aw_180 dX0_init_11 ?_
  refine as_putR (ci := 0) (j := 1) (pc := 14) X (Cn := RX0) (Tf := TX0) (N := 2) rfl rfl (by decide) iw_X0 aw_185 tyX0 tyX0_ok nmX0 rfl rfl (ty := (.array (.object "ChatThreads$Log"))) rfl (by decide +kernel) (fun _ => rfl) (fun _ => rfl) dX0_init_14 ?_
  refine as_iconst (pc := 17) X dX0_init_17 (by decide) ?_
  refine as_istore_n (pc := 18) X dX0_init_18 rfl ?_ (by decide)
  exact as_head
theorem s_X0_init {G : am_G} {bc bs : Nat} (X : am_Cx G cX0_init RX0 "<init>" rm_X0_init none 2 bc bs true) (h : Nat) : am_S G h (h_X0_init bc bs h) := by
  unfold h_X0_init
  split
  · next e => rw [e]; exact s_X0_init_0 X
  split
  · next e => rw [e]; exact s_X0_init_19 X
  exact as_bad
theorem ct_X0_init : am_Ct yX0_init cX0_init 2 none rm_X0_init sp_X0_init := am_met (own := RX0) (nm := "<init>") (by decide) rfl rfl (Or.inl rfl) (fun bc bs => h_X0_init bc bs) (fun _ _ _ X => s_X0_init X) (fun _ _ _ _ h => h)
-- X2_init
theorem dX2_init_0 : decode cX2_init 0 = .ok (.aload_n 0, 1) := by decide +kernel
theorem dX2_init_1 : decode cX2_init 1 = .ok (.invokespecial 3, 3) := by decide +kernel
theorem dX2_init_4 : decode cX2_init 4 = .ok (.aload_n 0, 1) := by decide +kernel
theorem dX2_init_5 : decode cX2_init 5 = .ok (.iconst 0, 1) := by decide +kernel
theorem dX2_init_6 : decode cX2_init 6 = .ok (.putfield 9, 3) := by decide +kernel
theorem dX2_init_9 : decode cX2_init 9 = .ok (.aload_n 0, 1) := by decide +kernel
theorem dX2_init_10 : decode cX2_init 10 = .ok (.bipush 80, 2) := by decide +kernel
theorem dX2_init_12 : decode cX2_init 12 = .ok (.newarray .char, 2) := by decide +kernel
theorem dX2_init_14 : decode cX2_init 14 = .ok (.putfield 15, 3) := by decide +kernel
theorem dX2_init_17 : decode cX2_init 17 = .ok (.aload_n 0, 1) := by decide +kernel
theorem dX2_init_18 : decode cX2_init 18 = .ok (.iconst 0, 1) := by decide +kernel
theorem dX2_init_19 : decode cX2_init 19 = .ok (.putfield 19, 3) := by decide +kernel
theorem dX2_init_22 : decode cX2_init 22 = .ok (.aload_n 0, 1) := by decide +kernel
theorem dX2_init_23 : decode cX2_init 23 = .ok (.iconst 0, 1) := by decide +kernel
theorem dX2_init_24 : decode cX2_init 24 = .ok (.putfield 22, 3) := by decide +kernel
theorem dX2_init_27 : decode cX2_init 27 = .ok (.aload_n 0, 1) := by decide +kernel
theorem dX2_init_28 : decode cX2_init 28 = .ok (.iconst 0, 1) := by decide +kernel
theorem dX2_init_29 : decode cX2_init 29 = .ok (.putfield 25, 3) := by decide +kernel
theorem dX2_init_32 : decode cX2_init 32 = .ok (.aload_n 0, 1) := by decide +kernel
theorem dX2_init_33 : decode cX2_init 33 = .ok (.bipush 32, 2) := by decide +kernel
theorem dX2_init_35 : decode cX2_init 35 = .ok (.putfield 28, 3) := by decide +kernel
theorem dX2_init_38 : decode cX2_init 38 = .ok (.aload_n 0, 1) := by decide +kernel
theorem dX2_init_39 : decode cX2_init 39 = .ok (.iconst 0, 1) := by decide +kernel
theorem dX2_init_40 : decode cX2_init 40 = .ok (.putfield 32, 3) := by decide +kernel
theorem dX2_init_43 : decode cX2_init 43 = .ok (.aload_n 0, 1) := by decide +kernel
theorem dX2_init_44 : decode cX2_init 44 = .ok (.iconst 4, 1) := by decide +kernel
theorem dX2_init_45 : decode cX2_init 45 = .ok (.newarray .int, 2) := by decide +kernel
theorem dX2_init_47 : decode cX2_init 47 = .ok (.putfield 35, 3) := by decide +kernel
theorem dX2_init_50 : decode cX2_init 50 = .ok (.return_, 1) := by decide +kernel
def t_X2_init_0 (bc bs : Nat) : am_T := tb_aload 0 <|
  tb_pop <|
  tb_aload 0 <|
  tb_const 0 <|
  tb_putI 2 0 <|
  tb_aload 0 <|
  tb_const 80 <|
  tb_newa bc bs 2 <|
  tb_putR 2 1 <|
  tb_aload 0 <|
  tb_const 0 <|
  tb_putI 2 2 <|
  tb_aload 0 <|
  tb_const 0 <|
  tb_putI 2 3 <|
  tb_aload 0 <|
  tb_const 0 <|
  tb_putI 2 4 <|
  tb_aload 0 <|
  tb_const 32 <|
  tb_putN .char 2 5 <|
  tb_aload 0 <|
  tb_const 0 <|
  tb_putI 2 6 <|
  tb_aload 0 <|
  tb_const 4 <|
  tb_newa bc bs 1 <|
  tb_putR 2 7 <|
  tb_retA bc bs
def h_X2_init (bc bs : Nat) : am_Hd := fun h => if h = 0 then t_X2_init_0 bc bs else tb_bad
theorem h_X2_init_0 {bc bs : Nat} : h_X2_init bc bs 0 = t_X2_init_0 bc bs := rfl
def rm_X2_init : Room := { frames := 1, cells := 2, slots := 84, locals := 20 }
def sp_X2_init : am_sp := fun as M Q => as.length ≤ 1 ∧ am_OK (h_X2_init (M.1.length + 2) (am_sz M.1 + 84)) Q 0 (am_in 1 as) M
theorem s_X2_init_0 {G : am_G} {bc bs : Nat} (X : am_Cx G cX2_init RX2 "<init>" rm_X2_init none 1 bc bs true) : am_S G 0 (t_X2_init_0 bc bs) := by
  unfold t_X2_init_0
  refine as_aload_n (pc := 0) X dX2_init_0 rfl ?_
  refine as_pop (pc := 1) X aw_196 aw_31 aw_32 (by decide) (by decide) dX2_init_1 ?_
  refine as_aload_n (pc := 4) X dX2_init_4 rfl ?_
  refine as_iconst (pc := 5) X dX2_init_5 (by decide) ?_
  refine as_putI (ci := 2) (j := 0) (pc := 6) X (Cn := RX2) (Tf := TX2) (N := 8) rfl rfl (by decide) iw_X2 aw_197 tyX2 tyX2_ok nmX2 rfl rfl (by decide +kernel) dX2_init_6 ?_
  refine as_aload_n (pc := 9) X dX2_init_9 rfl ?_
  refine as_bipush (pc := 10) X dX2_init_10 (by decide) ?_
  refine as_newa2 (pc := 12) X aw_223 dX2_init_12 ?_
  refine as_putR (ci := 2) (j := 1) (pc := 14) X (Cn := RX2) (Tf := TX2) (N := 8) rfl rfl (by decide) iw_X2 aw_199 tyX2 tyX2_ok nmX2 rfl rfl (ty := (.array .char)) rfl (by decide +kernel) (fun _ => rfl) (fun _ => rfl) dX2_init_14 ?_
  refine as_aload_n (pc := 17) X dX2_init_17 rfl ?_
  refine as_iconst (pc := 18) X dX2_init_18 (by decide) ?_
  refine as_putI (ci := 2) (j := 2) (pc := 19) X (Cn := RX2) (Tf := TX2) (N := 8) rfl rfl (by decide) iw_X2 aw_200 tyX2 tyX2_ok nmX2 rfl rfl (by decide +kernel) dX2_init_19 ?_
  refine as_aload_n (pc := 22) X dX2_init_22 rfl ?_
  refine as_iconst (pc := 23) X dX2_init_23 (by decide) ?_
  refine as_putI (ci := 2) (j := 3) (pc := 24) X (Cn := RX2) (Tf := TX2) (N := 8) rfl rfl (by decide) iw_X2 aw_201 tyX2 tyX2_ok nmX2 rfl rfl (by decide +kernel) dX2_init_24 ?_
  refine as_aload_n (pc := 27) X dX2_init_27 rfl ?_
  refine as_iconst (pc := 28) X dX2_init_28 (by decide) ?_
  refine as_putI (ci := 2) (j := 4) (pc := 29) X (Cn := RX2) (Tf := TX2) (N := 8) rfl rfl (by decide) iw_X2 aw_202 tyX2 tyX2_ok nmX2 rfl rfl (by decide +kernel) dX2_init_29 ?_
  refine as_aload_n (pc := 32) X dX2_init_32 rfl ?_
  refine as_bipush (pc := 33) X dX2_init_33 (by decide) ?_
  refine as_putN (ci := 2) (j := 5) (pc := 35) X (Cn := RX2) (Tf := TX2) (N := 8) rfl rfl (by decide) iw_X2 aw_203 tyX2 tyX2_ok nmX2 rfl (ty := .char) rfl (by decide +kernel) dX2_init_35 ?_
  refine as_aload_n (pc := 38) X dX2_init_38 rfl ?_
  refine as_iconst (pc := 39) X dX2_init_39 (by decide) ?_
  refine as_putI (ci := 2) (j := 6) (pc := 40) X (Cn := RX2) (Tf := TX2) (N := 8) rfl rfl (by decide) iw_X2 aw_204 tyX2 tyX2_ok nmX2 rfl rfl (by decide +kernel) dX2_init_40 ?_
  refine as_aload_n (pc := 43) X dX2_init_43 rfl ?_
  refine as_iconst (pc := 44) X dX2_init_44 (by decide) ?_
  refine as_newa1 (pc := 45) X aw_113 dX2_init_45 ?_
  refine as_putR (ci := 2) (j := 7) (pc := 47) X (Cn := RX2) (Tf := TX2) (N := 8) rfl rfl (by decide) iw_X2 aw_205 tyX2 tyX2_ok nmX2 rfl rfl (ty := (.array .int)) rfl (by decide +kernel) (fun _ => rfl) (fun _ => rfl) dX2_init_47 ?_
  exact as_retA (pc := 50) X rfl dX2_init_50
theorem s_X2_init {G : am_G} {bc bs : Nat} (X : am_Cx G cX2_init RX2 "<init>" rm_X2_init none 1 bc bs true) (h : Nat) : am_S G h (h_X2_init bc bs h) := by
  unfold h_X2_init
  split
  · next e => rw [e]; exact s_X2_init_0 X
  exact as_bad
theorem ct_X2_init : am_Ct yX2_init cX2_init 1 none rm_X2_init sp_X2_init := am_met (own := RX2) (nm := "<init>") (by decide) rfl rfl (Or.inl rfl) (fun bc bs => h_X2_init bc bs) (fun _ _ _ X => s_X2_init X) (fun _ _ _ _ h => h)
-- X4_init
theorem dX4_init_0 : decode cX4_init 0 = .ok (.aload_n 0, 1) := by decide +kernel
theorem dX4_init_1 : decode cX4_init 1 = .ok (.invokespecial 1, 3) := by decide +kernel
theorem dX4_init_4 : decode cX4_init 4 = .ok (.aload_n 0, 1) := by decide +kernel
theorem dX4_init_5 : decode cX4_init 5 = .ok (.new 7, 3) := by decide +kernel
theorem dX4_init_8 : decode cX4_init 8 = .ok (.dup, 1) := by decide +kernel
theorem dX4_init_9 : decode cX4_init 9 = .ok (.invokespecial 9, 3) := by decide +kernel
theorem dX4_init_12 : decode cX4_init 12 = .ok (.putfield 10, 3) := by decide +kernel
theorem dX4_init_15 : decode cX4_init 15 = .ok (.aload_n 0, 1) := by decide +kernel
theorem dX4_init_16 : decode cX4_init 16 = .ok (.aload_n 0, 1) := by decide +kernel
theorem dX4_init_17 : decode cX4_init 17 = .ok (.getfield 10, 3) := by decide +kernel
theorem dX4_init_20 : decode cX4_init 20 = .ok (.getfield 16, 3) := by decide +kernel
theorem dX4_init_23 : decode cX4_init 23 = .ok (.putfield 20, 3) := by decide +kernel
theorem dX4_init_26 : decode cX4_init 26 = .ok (.aload_n 0, 1) := by decide +kernel
theorem dX4_init_27 : decode cX4_init 27 = .ok (.iconst 1, 1) := by decide +kernel
theorem dX4_init_28 : decode cX4_init 28 = .ok (.putfield 21, 3) := by decide +kernel
theorem dX4_init_31 : decode cX4_init 31 = .ok (.aload_n 0, 1) := by decide +kernel
theorem dX4_init_32 : decode cX4_init 32 = .ok (.new 25, 3) := by decide +kernel
theorem dX4_init_35 : decode cX4_init 35 = .ok (.dup, 1) := by decide +kernel
theorem dX4_init_36 : decode cX4_init 36 = .ok (.invokespecial 27, 3) := by decide +kernel
theorem dX4_init_39 : decode cX4_init 39 = .ok (.putfield 28, 3) := by decide +kernel
theorem dX4_init_42 : decode cX4_init 42 = .ok (.aload_n 0, 1) := by decide +kernel
theorem dX4_init_43 : decode cX4_init 43 = .ok (.new 32, 3) := by decide +kernel
theorem dX4_init_46 : decode cX4_init 46 = .ok (.dup, 1) := by decide +kernel
theorem dX4_init_47 : decode cX4_init 47 = .ok (.invokespecial 34, 3) := by decide +kernel
theorem dX4_init_50 : decode cX4_init 50 = .ok (.putfield 35, 3) := by decide +kernel
theorem dX4_init_53 : decode cX4_init 53 = .ok (.aload_n 0, 1) := by decide +kernel
theorem dX4_init_54 : decode cX4_init 54 = .ok (.new 7, 3) := by decide +kernel
theorem dX4_init_57 : decode cX4_init 57 = .ok (.dup, 1) := by decide +kernel
theorem dX4_init_58 : decode cX4_init 58 = .ok (.invokespecial 9, 3) := by decide +kernel
theorem dX4_init_61 : decode cX4_init 61 = .ok (.putfield 39, 3) := by decide +kernel
theorem dX4_init_64 : decode cX4_init 64 = .ok (.aload_n 0, 1) := by decide +kernel
theorem dX4_init_65 : decode cX4_init 65 = .ok (.aload_n 0, 1) := by decide +kernel
theorem dX4_init_66 : decode cX4_init 66 = .ok (.getfield 39, 3) := by decide +kernel
theorem dX4_init_69 : decode cX4_init 69 = .ok (.getfield 16, 3) := by decide +kernel
theorem dX4_init_72 : decode cX4_init 72 = .ok (.putfield 42, 3) := by decide +kernel
theorem dX4_init_75 : decode cX4_init 75 = .ok (.return_, 1) := by decide +kernel
def t_X4_init_0 (bc bs : Nat) : am_T := tb_aload 0 <|
  tb_pop <|
  tb_aload 0 <|
  tb_new bc bs 3 <|
  tb_dup <|
  tb_callI bc bs 27 1558 sp_X3_init 1 <|
  tb_putR 4 0 <|
  tb_aload 0 <|
  tb_aload 0 <|
  tb_getR 4 0 <|
  tb_getR 3 0 <|
  tb_putR 4 1 <|
  tb_aload 0 <|
  tb_const 1 <|
  tb_putN .boolean 4 2 <|
  tb_aload 0 <|
  tb_new bc bs 0 <|
  tb_dup <|
  tb_callI bc bs 49 956 sp_X0_init 1 <|
  tb_putR 4 3 <|
  tb_aload 0 <|
  tb_new bc bs 2 <|
  tb_dup <|
  tb_callI bc bs 2 84 sp_X2_init 1 <|
  tb_putR 4 4 <|
  tb_aload 0 <|
  tb_new bc bs 3 <|
  tb_dup <|
  tb_callI bc bs 27 1558 sp_X3_init 1 <|
  tb_putR 4 5 <|
  tb_aload 0 <|
  tb_aload 0 <|
  tb_getR 4 5 <|
  tb_getR 3 0 <|
  tb_putR 4 6 <|
  tb_retA bc bs
def h_X4_init (bc bs : Nat) : am_Hd := fun h => if h = 0 then t_X4_init_0 bc bs else tb_bad
theorem h_X4_init_0 {bc bs : Nat} : h_X4_init bc bs 0 = t_X4_init_0 bc bs := rfl
def rm_X4_init : Room := { frames := 3, cells := 109, slots := 4200, locals := 67 }
def sp_X4_init : am_sp := fun as M Q => as.length ≤ 1 ∧ am_OK (h_X4_init (M.1.length + 109) (am_sz M.1 + 4200)) Q 0 (am_in 1 as) M
theorem s_X4_init_0 {G : am_G} {bc bs : Nat} (X : am_Cx G cX4_init RX4 "<init>" rm_X4_init none 1 bc bs true) : am_S G 0 (t_X4_init_0 bc bs) := by
  unfold t_X4_init_0
  refine as_aload_n (pc := 0) X dX4_init_0 rfl ?_
  refine as_pop (pc := 1) X aw_30 aw_31 aw_32 (by decide) (by decide) dX4_init_1 ?_
  refine as_aload_n (pc := 4) X dX4_init_4 rfl ?_
  refine as_new (ci := 3) (Cn := RX3) (Tf := TX3) (N := 17) (pc := 5) X rfl rfl iw_X3 tyX3 tyX3_ok (by decide +kernel) aw_33 aw_34 aw_18 dX4_init_5 ?_
  refine as_dup (pc := 8) X dX4_init_8 ?_
  refine as_callIN (np := 0) (ix := 9) (pc := 9) X ct_X3_init rfl (host := RX4) (by simp [am_NW]) aw_36 aw_37 aw_18 (by decide +kernel) (by decide) dX4_init_9 ?_
  refine as_putR (ci := 4) (j := 0) (pc := 12) X (Cn := RX4) (Tf := TX4) (N := 7) rfl rfl (by decide) iw_X4 aw_224 tyX4 tyX4_ok nmX4 rfl rfl (ty := (.object "ChatThreads$Threads")) rfl (by decide +kernel) (fun _ => rfl) (fun _ => rfl) dX4_init_12 ?_
  refine as_aload_n (pc := 15) X dX4_init_15 rfl ?_
  refine as_aload_n (pc := 16) X dX4_init_16 rfl ?_
  refine as_getR (ci := 4) (j := 0) (pc := 17) X (Cn := RX4) (Tf := TX4) (N := 7) rfl rfl (by decide) iw_X4 aw_224 rfl dX4_init_17 ?_
  refine as_getR (ci := 3) (j := 0) (pc := 20) X (Cn := RX3) (Tf := TX3) (N := 17) rfl rfl (by decide) iw_X3 aw_115 rfl dX4_init_20 ?_
  refine as_putR (ci := 4) (j := 1) (pc := 23) X (Cn := RX4) (Tf := TX4) (N := 7) rfl rfl (by decide) iw_X4 aw_225 tyX4 tyX4_ok nmX4 rfl rfl (ty := (.object "ChatThreads$Log")) rfl (by decide +kernel) (fun _ => rfl) (fun _ => rfl) dX4_init_23 ?_
  refine as_aload_n (pc := 26) X dX4_init_26 rfl ?_
  refine as_iconst (pc := 27) X dX4_init_27 (by decide) ?_
  refine as_putN (ci := 4) (j := 2) (pc := 28) X (Cn := RX4) (Tf := TX4) (N := 7) rfl rfl (by decide) iw_X4 aw_226 tyX4 tyX4_ok nmX4 rfl (ty := .boolean) rfl (by decide +kernel) dX4_init_28 ?_
  refine as_aload_n (pc := 31) X dX4_init_31 rfl ?_
  refine as_new (ci := 0) (Cn := RX0) (Tf := TX0) (N := 2) (pc := 32) X rfl rfl iw_X0 tyX0 tyX0_ok (by decide +kernel) aw_174 aw_175 aw_21 dX4_init_32 ?_
  refine as_dup (pc := 35) X dX4_init_35 ?_
  refine as_callI (np := 0) (ix := 27) (pc := 36) X ct_X0_init rfl aw_176 aw_177 aw_178 aw_21 (by decide +kernel) (by decide) dX4_init_36 ?_
  refine as_putR (ci := 4) (j := 3) (pc := 39) X (Cn := RX4) (Tf := TX4) (N := 7) rfl rfl (by decide) iw_X4 aw_227 tyX4 tyX4_ok nmX4 rfl rfl (ty := (.object "ChatThreads$History")) rfl (by decide +kernel) (fun _ => rfl) (fun _ => rfl) dX4_init_39 ?_
  refine as_aload_n (pc := 42) X dX4_init_42 rfl ?_
  refine as_new (ci := 2) (Cn := RX2) (Tf := TX2) (N := 8) (pc := 43) X rfl rfl iw_X2 tyX2 tyX2_ok (by decide +kernel) aw_191 aw_192 aw_22 dX4_init_43 ?_
  refine as_dup (pc := 46) X dX4_init_46 ?_
  refine as_callIN (np := 0) (ix := 34) (pc := 47) X ct_X2_init rfl (host := RX4) (by simp [am_NW]) aw_194 aw_195 aw_22 (by decide +kernel) (by decide) dX4_init_47 ?_
  refine as_putR (ci := 4) (j := 4) (pc := 50) X (Cn := RX4) (Tf := TX4) (N := 7) rfl rfl (by decide) iw_X4 aw_228 tyX4 tyX4_ok nmX4 rfl rfl (ty := (.object "ChatThreads$Text")) rfl (by decide +kernel) (fun _ => rfl) (fun _ => rfl) dX4_init_50 ?_
  refine as_aload_n (pc := 53) X dX4_init_53 rfl ?_
  refine as_new (ci := 3) (Cn := RX3) (Tf := TX3) (N := 17) (pc := 54) X rfl rfl iw_X3 tyX3 tyX3_ok (by decide +kernel) aw_33 aw_34 aw_18 dX4_init_54 ?_
  refine as_dup (pc := 57) X dX4_init_57 ?_
  refine as_callIN (np := 0) (ix := 9) (pc := 58) X ct_X3_init rfl (host := RX4) (by simp [am_NW]) aw_36 aw_37 aw_18 (by decide +kernel) (by decide) dX4_init_58 ?_
  refine as_putR (ci := 4) (j := 5) (pc := 61) X (Cn := RX4) (Tf := TX4) (N := 7) rfl rfl (by decide) iw_X4 aw_229 tyX4 tyX4_ok nmX4 rfl rfl (ty := (.object "ChatThreads$Threads")) rfl (by decide +kernel) (fun _ => rfl) (fun _ => rfl) dX4_init_61 ?_
  refine as_aload_n (pc := 64) X dX4_init_64 rfl ?_
  refine as_aload_n (pc := 65) X dX4_init_65 rfl ?_
  refine as_getR (ci := 4) (j := 5) (pc := 66) X (Cn := RX4) (Tf := TX4) (N := 7) rfl rfl (by decide) iw_X4 aw_229 rfl dX4_init_66 ?_
  refine as_getR (ci := 3) (j := 0) (pc := 69) X (Cn := RX3) (Tf := TX3) (N := 17) rfl rfl (by decide) iw_X3 aw_115 rfl dX4_init_69 ?_
  refine as_putR (ci := 4) (j := 6) (pc := 72) X (Cn := RX4) (Tf := TX4) (N := 7) rfl rfl (by decide) iw_X4 aw_230 tyX4 tyX4_ok nmX4 rfl rfl (ty := (.object "ChatThreads$Log")) rfl (by decide +kernel) (fun _ => rfl) (fun _ => rfl) dX4_init_72 ?_
  exact as_retA (pc := 75) X rfl dX4_init_75
theorem s_X4_init {G : am_G} {bc bs : Nat} (X : am_Cx G cX4_init RX4 "<init>" rm_X4_init none 1 bc bs true) (h : Nat) : am_S G h (h_X4_init bc bs h) := by
  unfold h_X4_init
  split
  · next e => rw [e]; exact s_X4_init_0 X
  exact as_bad
theorem ct_X4_init : am_Ct yX4_init cX4_init 1 none rm_X4_init sp_X4_init := am_met (own := RX4) (nm := "<init>") (by decide) rfl rfl (Or.inl rfl) (fun bc bs => h_X4_init bc bs) (fun _ _ _ X => s_X4_init X) (fun _ _ _ _ h => h)
-- L_ahead
theorem dL_ahead_0 : decode cL_ahead 0 = .ok (.aload_n 0, 1) := by decide +kernel
theorem dL_ahead_1 : decode cL_ahead 1 = .ok (.iconst 4, 1) := by decide +kernel
theorem dL_ahead_2 : decode cL_ahead 2 = .ok (.iload_n 1, 1) := by decide +kernel
theorem dL_ahead_3 : decode cL_ahead 3 = .ok (.imul, 1) := by decide +kernel
theorem dL_ahead_4 : decode cL_ahead 4 = .ok (.iaload, 1) := by decide +kernel
theorem dL_ahead_5 : decode cL_ahead 5 = .ok (.aload_n 0, 1) := by decide +kernel
theorem dL_ahead_6 : decode cL_ahead 6 = .ok (.iconst 4, 1) := by decide +kernel
theorem dL_ahead_7 : decode cL_ahead 7 = .ok (.iload_n 2, 1) := by decide +kernel
theorem dL_ahead_8 : decode cL_ahead 8 = .ok (.imul, 1) := by decide +kernel
theorem dL_ahead_9 : decode cL_ahead 9 = .ok (.iaload, 1) := by decide +kernel
theorem dL_ahead_10 : decode cL_ahead 10 = .ok (.if_icmp .lt 21, 3) := by decide +kernel
theorem dL_ahead_13 : decode cL_ahead 13 = .ok (.aload_n 0, 1) := by decide +kernel
theorem dL_ahead_14 : decode cL_ahead 14 = .ok (.iconst 4, 1) := by decide +kernel
theorem dL_ahead_15 : decode cL_ahead 15 = .ok (.iload_n 1, 1) := by decide +kernel
theorem dL_ahead_16 : decode cL_ahead 16 = .ok (.imul, 1) := by decide +kernel
theorem dL_ahead_17 : decode cL_ahead 17 = .ok (.iaload, 1) := by decide +kernel
theorem dL_ahead_18 : decode cL_ahead 18 = .ok (.aload_n 0, 1) := by decide +kernel
theorem dL_ahead_19 : decode cL_ahead 19 = .ok (.iconst 4, 1) := by decide +kernel
theorem dL_ahead_20 : decode cL_ahead 20 = .ok (.iload_n 2, 1) := by decide +kernel
theorem dL_ahead_21 : decode cL_ahead 21 = .ok (.imul, 1) := by decide +kernel
theorem dL_ahead_22 : decode cL_ahead 22 = .ok (.iaload, 1) := by decide +kernel
theorem dL_ahead_23 : decode cL_ahead 23 = .ok (.if_icmp .ne 12, 3) := by decide +kernel
theorem dL_ahead_26 : decode cL_ahead 26 = .ok (.iload_n 1, 1) := by decide +kernel
theorem dL_ahead_27 : decode cL_ahead 27 = .ok (.iload_n 2, 1) := by decide +kernel
theorem dL_ahead_28 : decode cL_ahead 28 = .ok (.if_icmp .ge 7, 3) := by decide +kernel
theorem dL_ahead_31 : decode cL_ahead 31 = .ok (.iconst 1, 1) := by decide +kernel
theorem dL_ahead_32 : decode cL_ahead 32 = .ok (.goto 4, 3) := by decide +kernel
theorem dL_ahead_35 : decode cL_ahead 35 = .ok (.iconst 0, 1) := by decide +kernel
theorem dL_ahead_36 : decode cL_ahead 36 = .ok (.ireturn, 1) := by decide +kernel
def t_L_ahead_36 : am_T := tb_zret
def t_L_ahead_35 : am_T := tb_const 0 <|
  t_L_ahead_36
def t_L_ahead_31 : am_T := tb_const 1 <|
  t_L_ahead_36
def t_L_ahead_0 : am_T := tb_aload 0 <|
  tb_const 4 <|
  tb_iload 1 <|
  tb_bin (fun x y => x * y) <|
  tb_iald <|
  tb_aload 0 <|
  tb_const 4 <|
  tb_iload 2 <|
  tb_bin (fun x y => x * y) <|
  tb_iald <|
  tb_ic (fun x y => x < y) (t_L_ahead_31) <|
  tb_aload 0 <|
  tb_const 4 <|
  tb_iload 1 <|
  tb_bin (fun x y => x * y) <|
  tb_iald <|
  tb_aload 0 <|
  tb_const 4 <|
  tb_iload 2 <|
  tb_bin (fun x y => x * y) <|
  tb_iald <|
  tb_ic (fun x y => x ≠ y) (t_L_ahead_35) <|
  tb_iload 1 <|
  tb_iload 2 <|
  tb_ic (fun x y => y ≤ x) (t_L_ahead_35) <|
  t_L_ahead_31
def h_L_ahead : am_Hd := fun h => if h = 0 then t_L_ahead_0 else tb_bad
theorem h_L_ahead_0 : h_L_ahead 0 = t_L_ahead_0 := rfl
def rm_L_ahead : Room := { frames := 0, cells := 0, slots := 0, locals := 0 }
def sp_L_ahead : am_sp := fun as M Q => as.length ≤ 3 ∧ am_OK h_L_ahead Q 0 (am_in 3 as) M
theorem s_L_ahead_36 {G : am_G} {bc bs : Nat} (X : am_Cx G cL_ahead RL "ahead" rm_L_ahead (some .boolean) 3 bc bs true) : am_S G 36 (t_L_ahead_36) := by
  unfold t_L_ahead_36
  exact as_zret (pc := 36) X ⟨rfl, rfl⟩ rfl dL_ahead_36
theorem s_L_ahead_35 {G : am_G} {bc bs : Nat} (X : am_Cx G cL_ahead RL "ahead" rm_L_ahead (some .boolean) 3 bc bs true) : am_S G 35 (t_L_ahead_35) := by
  unfold t_L_ahead_35
  refine as_iconst (pc := 35) X dL_ahead_35 (by decide) ?_
  exact s_L_ahead_36 X
theorem s_L_ahead_31 {G : am_G} {bc bs : Nat} (X : am_Cx G cL_ahead RL "ahead" rm_L_ahead (some .boolean) 3 bc bs true) : am_S G 31 (t_L_ahead_31) := by
  unfold t_L_ahead_31
  refine as_iconst (pc := 31) X dL_ahead_31 (by decide) ?_
  exact as_goto (pc := 32) X 36 dL_ahead_32 (by decide) (s_L_ahead_36 X)
theorem s_L_ahead_0 {G : am_G} {bc bs : Nat} (X : am_Cx G cL_ahead RL "ahead" rm_L_ahead (some .boolean) 3 bc bs true) : am_S G 0 (t_L_ahead_0) := by
  unfold t_L_ahead_0
  refine as_aload_n (pc := 0) X dL_ahead_0 rfl ?_
  refine as_iconst (pc := 1) X dL_ahead_1 (by decide) ?_
  refine as_iload_n (pc := 2) X dL_ahead_2 rfl ?_
  refine as_imul (pc := 3) X dL_ahead_3 ?_
  refine as_iald (pc := 4) X dL_ahead_4 ?_
  refine as_aload_n (pc := 5) X dL_ahead_5 rfl ?_
  refine as_iconst (pc := 6) X dL_ahead_6 (by decide) ?_
  refine as_iload_n (pc := 7) X dL_ahead_7 rfl ?_
  refine as_imul (pc := 8) X dL_ahead_8 ?_
  refine as_iald (pc := 9) X dL_ahead_9 ?_
  refine as_ic_lt (pc := 10) X 31 dL_ahead_10 (by decide) (s_L_ahead_31 X) ?_
  refine as_aload_n (pc := 13) X dL_ahead_13 rfl ?_
  refine as_iconst (pc := 14) X dL_ahead_14 (by decide) ?_
  refine as_iload_n (pc := 15) X dL_ahead_15 rfl ?_
  refine as_imul (pc := 16) X dL_ahead_16 ?_
  refine as_iald (pc := 17) X dL_ahead_17 ?_
  refine as_aload_n (pc := 18) X dL_ahead_18 rfl ?_
  refine as_iconst (pc := 19) X dL_ahead_19 (by decide) ?_
  refine as_iload_n (pc := 20) X dL_ahead_20 rfl ?_
  refine as_imul (pc := 21) X dL_ahead_21 ?_
  refine as_iald (pc := 22) X dL_ahead_22 ?_
  refine as_ic_ne (pc := 23) X 35 dL_ahead_23 (by decide) (s_L_ahead_35 X) ?_
  refine as_iload_n (pc := 26) X dL_ahead_26 rfl ?_
  refine as_iload_n (pc := 27) X dL_ahead_27 rfl ?_
  refine as_ic_ge (pc := 28) X 35 dL_ahead_28 (by decide) (s_L_ahead_35 X) ?_
  exact s_L_ahead_31 X
theorem s_L_ahead {G : am_G} {bc bs : Nat} (X : am_Cx G cL_ahead RL "ahead" rm_L_ahead (some .boolean) 3 bc bs true) (h : Nat) : am_S G h (h_L_ahead h) := by
  unfold h_L_ahead
  split
  · next e => rw [e]; exact s_L_ahead_0 X
  exact as_bad
theorem ct_L_ahead : am_Ct yL_ahead cL_ahead 3 (some .boolean) rm_L_ahead sp_L_ahead := am_met (own := RL) (nm := "ahead") (by decide) rfl rfl (Or.inr (Or.inr (Or.inl rfl))) (fun _ _ => h_L_ahead) (fun _ _ _ X => s_L_ahead X) (fun _ _ _ _ h => h)
-- L_orders
theorem dL_orders_0 : decode cL_orders 0 = .ok (.iconst 0, 1) := by decide +kernel
theorem dL_orders_1 : decode cL_orders 1 = .ok (.istore_n 3, 1) := by decide +kernel
theorem dL_orders_2 : decode cL_orders 2 = .ok (.iload_n 3, 1) := by decide +kernel
theorem dL_orders_3 : decode cL_orders 3 = .ok (.aload_n 0, 1) := by decide +kernel
theorem dL_orders_4 : decode cL_orders 4 = .ok (.bipush 9, 2) := by decide +kernel
theorem dL_orders_6 : decode cL_orders 6 = .ok (.iaload, 1) := by decide +kernel
theorem dL_orders_7 : decode cL_orders 7 = .ok (.if_icmp .ge 55, 3) := by decide +kernel
theorem dL_orders_10 : decode cL_orders 10 = .ok (.iconst 0, 1) := by decide +kernel
theorem dL_orders_11 : decode cL_orders 11 = .ok (.istore 4, 2) := by decide +kernel
theorem dL_orders_13 : decode cL_orders 13 = .ok (.iconst 0, 1) := by decide +kernel
theorem dL_orders_14 : decode cL_orders 14 = .ok (.istore 5, 2) := by decide +kernel
theorem dL_orders_16 : decode cL_orders 16 = .ok (.iload 5, 2) := by decide +kernel
theorem dL_orders_18 : decode cL_orders 18 = .ok (.aload_n 0, 1) := by decide +kernel
theorem dL_orders_19 : decode cL_orders 19 = .ok (.bipush 9, 2) := by decide +kernel
theorem dL_orders_21 : decode cL_orders 21 = .ok (.iaload, 1) := by decide +kernel
theorem dL_orders_22 : decode cL_orders 22 = .ok (.if_icmp .ge 29, 3) := by decide +kernel
theorem dL_orders_25 : decode cL_orders 25 = .ok (.iload 4, 2) := by decide +kernel
theorem dL_orders_27 : decode cL_orders 27 = .ok (.aload_n 1, 1) := by decide +kernel
theorem dL_orders_28 : decode cL_orders 28 = .ok (.iload 5, 2) := by decide +kernel
theorem dL_orders_30 : decode cL_orders 30 = .ok (.iload_n 3, 1) := by decide +kernel
theorem dL_orders_31 : decode cL_orders 31 = .ok (.invokestatic 23, 3) := by decide +kernel
theorem dL_orders_34 : decode cL_orders 34 = .ok (.ifCond .eq 7, 3) := by decide +kernel
theorem dL_orders_37 : decode cL_orders 37 = .ok (.iconst 1, 1) := by decide +kernel
theorem dL_orders_38 : decode cL_orders 38 = .ok (.goto 4, 3) := by decide +kernel
theorem dL_orders_41 : decode cL_orders 41 = .ok (.iconst 0, 1) := by decide +kernel
theorem dL_orders_42 : decode cL_orders 42 = .ok (.iadd, 1) := by decide +kernel
theorem dL_orders_43 : decode cL_orders 43 = .ok (.istore 4, 2) := by decide +kernel
theorem dL_orders_45 : decode cL_orders 45 = .ok (.iinc 5 1, 3) := by decide +kernel
theorem dL_orders_48 : decode cL_orders 48 = .ok (.goto (-32), 3) := by decide +kernel
theorem dL_orders_51 : decode cL_orders 51 = .ok (.aload_n 2, 1) := by decide +kernel
theorem dL_orders_52 : decode cL_orders 52 = .ok (.iload 4, 2) := by decide +kernel
theorem dL_orders_54 : decode cL_orders 54 = .ok (.iload_n 3, 1) := by decide +kernel
theorem dL_orders_55 : decode cL_orders 55 = .ok (.iastore, 1) := by decide +kernel
theorem dL_orders_56 : decode cL_orders 56 = .ok (.iinc 3 1, 3) := by decide +kernel
theorem dL_orders_59 : decode cL_orders 59 = .ok (.goto (-57), 3) := by decide +kernel
theorem dL_orders_62 : decode cL_orders 62 = .ok (.return_, 1) := by decide +kernel
def t_L_orders_62 : am_T := tb_ret
def t_L_orders_51 : am_T := tb_aload 2 <|
  tb_iload 4 <|
  tb_iload 3 <|
  tb_iast <|
  tb_iinc 3 1 <|
  tb_head 2
def t_L_orders_42 : am_T := tb_bin (fun x y => x + y) <|
  tb_istore 4 <|
  tb_iinc 5 1 <|
  tb_head 16
def t_L_orders_41 : am_T := tb_const 0 <|
  t_L_orders_42
def t_L_orders_16 : am_T := tb_iload 5 <|
  tb_aload 0 <|
  tb_const 9 <|
  tb_iald <|
  tb_ic (fun x y => y ≤ x) (t_L_orders_51) <|
  tb_iload 4 <|
  tb_aload 1 <|
  tb_iload 5 <|
  tb_iload 3 <|
  tb_callS sp_L_ahead 3 <|
  tb_if (fun x => x = 0) (t_L_orders_41) <|
  tb_const 1 <|
  t_L_orders_42
def t_L_orders_2 : am_T := tb_iload 3 <|
  tb_aload 0 <|
  tb_const 9 <|
  tb_iald <|
  tb_ic (fun x y => y ≤ x) (t_L_orders_62) <|
  tb_const 0 <|
  tb_istore 4 <|
  tb_const 0 <|
  tb_istore 5 <|
  tb_head 16
def t_L_orders_0 : am_T := tb_const 0 <|
  tb_istore 3 <|
  tb_head 2
def h_L_orders : am_Hd := fun h => if h = 0 then t_L_orders_0 else if h = 2 then t_L_orders_2 else if h = 16 then t_L_orders_16 else tb_bad
theorem h_L_orders_0 : h_L_orders 0 = t_L_orders_0 := rfl
theorem h_L_orders_2 : h_L_orders 2 = t_L_orders_2 := rfl
theorem h_L_orders_16 : h_L_orders 16 = t_L_orders_16 := rfl
def rm_L_orders : Room := { frames := 1, cells := 0, slots := 0, locals := 22 }
def sp_L_orders : am_sp := fun as M Q => as.length ≤ 6 ∧ am_OK h_L_orders Q 0 (am_in 6 as) M
theorem s_L_orders_62 {G : am_G} {bc bs : Nat} (X : am_Cx G cL_orders RL "orders" rm_L_orders none 6 bc bs true) : am_S G 62 (t_L_orders_62) := by
  unfold t_L_orders_62
  exact as_ret (pc := 62) X ⟨rfl, rfl⟩ rfl dL_orders_62
theorem s_L_orders_51 {G : am_G} {bc bs : Nat} (X : am_Cx G cL_orders RL "orders" rm_L_orders none 6 bc bs true) : am_S G 51 (t_L_orders_51) := by
  unfold t_L_orders_51
  refine as_aload_n (pc := 51) X dL_orders_51 rfl ?_
  refine as_iload (pc := 52) X dL_orders_52 ?_
  refine as_iload_n (pc := 54) X dL_orders_54 rfl ?_
  refine as_iast (pc := 55) X dL_orders_55 ?_
  refine as_iinc (pc := 56) X dL_orders_56 (by decide) (by decide) ?_
  exact as_goto (pc := 59) X 2 dL_orders_59 (by decide) (as_head)
theorem s_L_orders_42 {G : am_G} {bc bs : Nat} (X : am_Cx G cL_orders RL "orders" rm_L_orders none 6 bc bs true) : am_S G 42 (t_L_orders_42) := by
  unfold t_L_orders_42
  refine as_iadd (pc := 42) X dL_orders_42 ?_
  refine as_istore (pc := 43) X dL_orders_43 ?_ (by decide)
  refine as_iinc (pc := 45) X dL_orders_45 (by decide) (by decide) ?_
  exact as_goto (pc := 48) X 16 dL_orders_48 (by decide) (as_head)
theorem s_L_orders_41 {G : am_G} {bc bs : Nat} (X : am_Cx G cL_orders RL "orders" rm_L_orders none 6 bc bs true) : am_S G 41 (t_L_orders_41) := by
  unfold t_L_orders_41
  refine as_iconst (pc := 41) X dL_orders_41 (by decide) ?_
  exact s_L_orders_42 X
theorem s_L_orders_16 {G : am_G} {bc bs : Nat} (X : am_Cx G cL_orders RL "orders" rm_L_orders none 6 bc bs true) : am_S G 16 (t_L_orders_16) := by
  unfold t_L_orders_16
  refine as_iload (pc := 16) X dL_orders_16 ?_
  refine as_aload_n (pc := 18) X dL_orders_18 rfl ?_
  refine as_bipush (pc := 19) X dL_orders_19 (by decide) ?_
  refine as_iald (pc := 21) X dL_orders_21 ?_
  refine as_ic_ge (pc := 22) X 51 dL_orders_22 (by decide) (s_L_orders_51 X) ?_
  refine as_iload (pc := 25) X dL_orders_25 ?_
  refine as_aload_n (pc := 27) X dL_orders_27 rfl ?_
  refine as_iload (pc := 28) X dL_orders_28 ?_
  refine as_iload_n (pc := 30) X dL_orders_30 rfl ?_
  refine as_callS (np := 3) (ix := 23) (pc := 31) X ct_L_ahead ⟨rfl, rfl⟩ aw_480 aw_481 aw_482 aw_16 (by decide +kernel) (by decide) dL_orders_31 ?_
  refine as_if_eq (pc := 34) X 41 dL_orders_34 (by decide) (s_L_orders_41 X) ?_
  refine as_iconst (pc := 37) X dL_orders_37 (by decide) ?_
  exact as_goto (pc := 38) X 42 dL_orders_38 (by decide) (s_L_orders_42 X)
theorem s_L_orders_2 {G : am_G} {bc bs : Nat} (X : am_Cx G cL_orders RL "orders" rm_L_orders none 6 bc bs true) : am_S G 2 (t_L_orders_2) := by
  unfold t_L_orders_2
  refine as_iload_n (pc := 2) X dL_orders_2 rfl ?_
  refine as_aload_n (pc := 3) X dL_orders_3 rfl ?_
  refine as_bipush (pc := 4) X dL_orders_4 (by decide) ?_
  refine as_iald (pc := 6) X dL_orders_6 ?_
  refine as_ic_ge (pc := 7) X 62 dL_orders_7 (by decide) (s_L_orders_62 X) ?_
  refine as_iconst (pc := 10) X dL_orders_10 (by decide) ?_
  refine as_istore (pc := 11) X dL_orders_11 ?_ (by decide)
  refine as_iconst (pc := 13) X dL_orders_13 (by decide) ?_
  refine as_istore (pc := 14) X dL_orders_14 ?_ (by decide)
  exact as_head
theorem s_L_orders_0 {G : am_G} {bc bs : Nat} (X : am_Cx G cL_orders RL "orders" rm_L_orders none 6 bc bs true) : am_S G 0 (t_L_orders_0) := by
  unfold t_L_orders_0
  refine as_iconst (pc := 0) X dL_orders_0 (by decide) ?_
  refine as_istore_n (pc := 1) X dL_orders_1 rfl ?_ (by decide)
  exact as_head
theorem s_L_orders {G : am_G} {bc bs : Nat} (X : am_Cx G cL_orders RL "orders" rm_L_orders none 6 bc bs true) (h : Nat) : am_S G h (h_L_orders h) := by
  unfold h_L_orders
  split
  · next e => rw [e]; exact s_L_orders_0 X
  split
  · next e => rw [e]; exact s_L_orders_2 X
  split
  · next e => rw [e]; exact s_L_orders_16 X
  exact as_bad
theorem ct_L_orders : am_Ct yL_orders cL_orders 6 none rm_L_orders sp_L_orders := am_met (own := RL) (nm := "orders") (by decide) rfl rfl (Or.inl rfl) (fun _ _ => h_L_orders) (fun _ _ _ X => s_L_orders X) (fun _ _ _ _ h => h)
-- L_counts
theorem dL_counts_0 : decode cL_counts 0 = .ok (.aload_n 0, 1) := by decide +kernel
theorem dL_counts_1 : decode cL_counts 1 = .ok (.bipush 10, 2) := by decide +kernel
theorem dL_counts_3 : decode cL_counts 3 = .ok (.iaload, 1) := by decide +kernel
theorem dL_counts_4 : decode cL_counts 4 = .ok (.iconst 1, 1) := by decide +kernel
theorem dL_counts_5 : decode cL_counts 5 = .ok (.isub, 1) := by decide +kernel
theorem dL_counts_6 : decode cL_counts 6 = .ok (.istore_n 3, 1) := by decide +kernel
theorem dL_counts_7 : decode cL_counts 7 = .ok (.iload_n 3, 1) := by decide +kernel
theorem dL_counts_8 : decode cL_counts 8 = .ok (.ifCond .lt 29, 3) := by decide +kernel
theorem dL_counts_11 : decode cL_counts 11 = .ok (.aload_n 1, 1) := by decide +kernel
theorem dL_counts_12 : decode cL_counts 12 = .ok (.iconst 3, 1) := by decide +kernel
theorem dL_counts_13 : decode cL_counts 13 = .ok (.iload_n 3, 1) := by decide +kernel
theorem dL_counts_14 : decode cL_counts 14 = .ok (.imul, 1) := by decide +kernel
theorem dL_counts_15 : decode cL_counts 15 = .ok (.iconst 1, 1) := by decide +kernel
theorem dL_counts_16 : decode cL_counts 16 = .ok (.iadd, 1) := by decide +kernel
theorem dL_counts_17 : decode cL_counts 17 = .ok (.iaload, 1) := by decide +kernel
theorem dL_counts_18 : decode cL_counts 18 = .ok (.iload_n 2, 1) := by decide +kernel
theorem dL_counts_19 : decode cL_counts 19 = .ok (.if_icmp .ne 12, 3) := by decide +kernel
theorem dL_counts_22 : decode cL_counts 22 = .ok (.aload_n 1, 1) := by decide +kernel
theorem dL_counts_23 : decode cL_counts 23 = .ok (.iconst 3, 1) := by decide +kernel
theorem dL_counts_24 : decode cL_counts 24 = .ok (.iload_n 3, 1) := by decide +kernel
theorem dL_counts_25 : decode cL_counts 25 = .ok (.imul, 1) := by decide +kernel
theorem dL_counts_26 : decode cL_counts 26 = .ok (.iaload, 1) := by decide +kernel
theorem dL_counts_27 : decode cL_counts 27 = .ok (.iconst 2, 1) := by decide +kernel
theorem dL_counts_28 : decode cL_counts 28 = .ok (.if_icmp .ne 9, 3) := by decide +kernel
theorem dL_counts_31 : decode cL_counts 31 = .ok (.iinc 3 (-1), 3) := by decide +kernel
theorem dL_counts_34 : decode cL_counts 34 = .ok (.goto (-27), 3) := by decide +kernel
theorem dL_counts_37 : decode cL_counts 37 = .ok (.iload_n 3, 1) := by decide +kernel
theorem dL_counts_38 : decode cL_counts 38 = .ok (.ireturn, 1) := by decide +kernel
def t_L_counts_37 : am_T := tb_iload 3 <|
  tb_iret
def t_L_counts_31 : am_T := tb_iinc 3 (-1) <|
  tb_head 7
def t_L_counts_7 : am_T := tb_iload 3 <|
  tb_if (fun x => x < 0) (t_L_counts_37) <|
  tb_aload 1 <|
  tb_const 3 <|
  tb_iload 3 <|
  tb_bin (fun x y => x * y) <|
  tb_const 1 <|
  tb_bin (fun x y => x + y) <|
  tb_iald <|
  tb_iload 2 <|
  tb_ic (fun x y => x ≠ y) (t_L_counts_31) <|
  tb_aload 1 <|
  tb_const 3 <|
  tb_iload 3 <|
  tb_bin (fun x y => x * y) <|
  tb_iald <|
  tb_const 2 <|
  tb_ic (fun x y => x ≠ y) (t_L_counts_37) <|
  t_L_counts_31
def t_L_counts_0 : am_T := tb_aload 0 <|
  tb_const 10 <|
  tb_iald <|
  tb_const 1 <|
  tb_bin (fun x y => x - y) <|
  tb_istore 3 <|
  tb_head 7
def h_L_counts : am_Hd := fun h => if h = 0 then t_L_counts_0 else if h = 7 then t_L_counts_7 else tb_bad
theorem h_L_counts_0 : h_L_counts 0 = t_L_counts_0 := rfl
theorem h_L_counts_7 : h_L_counts 7 = t_L_counts_7 := rfl
def rm_L_counts : Room := { frames := 0, cells := 0, slots := 0, locals := 0 }
def sp_L_counts : am_sp := fun as M Q => as.length ≤ 4 ∧ am_OK h_L_counts Q 0 (am_in 4 as) M
theorem s_L_counts_37 {G : am_G} {bc bs : Nat} (X : am_Cx G cL_counts RL "counts" rm_L_counts (some .int) 4 bc bs true) : am_S G 37 (t_L_counts_37) := by
  unfold t_L_counts_37
  refine as_iload_n (pc := 37) X dL_counts_37 rfl ?_
  exact as_iret (pc := 38) X ⟨rfl, rfl⟩ rfl dL_counts_38
theorem s_L_counts_31 {G : am_G} {bc bs : Nat} (X : am_Cx G cL_counts RL "counts" rm_L_counts (some .int) 4 bc bs true) : am_S G 31 (t_L_counts_31) := by
  unfold t_L_counts_31
  refine as_iinc (pc := 31) X dL_counts_31 (by decide) (by decide) ?_
  exact as_goto (pc := 34) X 7 dL_counts_34 (by decide) (as_head)
theorem s_L_counts_7 {G : am_G} {bc bs : Nat} (X : am_Cx G cL_counts RL "counts" rm_L_counts (some .int) 4 bc bs true) : am_S G 7 (t_L_counts_7) := by
  unfold t_L_counts_7
  refine as_iload_n (pc := 7) X dL_counts_7 rfl ?_
  refine as_if_lt (pc := 8) X 37 dL_counts_8 (by decide) (s_L_counts_37 X) ?_
  refine as_aload_n (pc := 11) X dL_counts_11 rfl ?_
  refine as_iconst (pc := 12) X dL_counts_12 (by decide) ?_
  refine as_iload_n (pc := 13) X dL_counts_13 rfl ?_
  refine as_imul (pc := 14) X dL_counts_14 ?_
  refine as_iconst (pc := 15) X dL_counts_15 (by decide) ?_
  refine as_iadd (pc := 16) X dL_counts_16 ?_
  refine as_iald (pc := 17) X dL_counts_17 ?_
  refine as_iload_n (pc := 18) X dL_counts_18 rfl ?_
  refine as_ic_ne (pc := 19) X 31 dL_counts_19 (by decide) (s_L_counts_31 X) ?_
  refine as_aload_n (pc := 22) X dL_counts_22 rfl ?_
  refine as_iconst (pc := 23) X dL_counts_23 (by decide) ?_
  refine as_iload_n (pc := 24) X dL_counts_24 rfl ?_
  refine as_imul (pc := 25) X dL_counts_25 ?_
  refine as_iald (pc := 26) X dL_counts_26 ?_
  refine as_iconst (pc := 27) X dL_counts_27 (by decide) ?_
  refine as_ic_ne (pc := 28) X 37 dL_counts_28 (by decide) (s_L_counts_37 X) ?_
  exact s_L_counts_31 X
theorem s_L_counts_0 {G : am_G} {bc bs : Nat} (X : am_Cx G cL_counts RL "counts" rm_L_counts (some .int) 4 bc bs true) : am_S G 0 (t_L_counts_0) := by
  unfold t_L_counts_0
  refine as_aload_n (pc := 0) X dL_counts_0 rfl ?_
  refine as_bipush (pc := 1) X dL_counts_1 (by decide) ?_
  refine as_iald (pc := 3) X dL_counts_3 ?_
  refine as_iconst (pc := 4) X dL_counts_4 (by decide) ?_
  refine as_isub (pc := 5) X dL_counts_5 ?_
  refine as_istore_n (pc := 6) X dL_counts_6 rfl ?_ (by decide)
  exact as_head
theorem s_L_counts {G : am_G} {bc bs : Nat} (X : am_Cx G cL_counts RL "counts" rm_L_counts (some .int) 4 bc bs true) (h : Nat) : am_S G h (h_L_counts h) := by
  unfold h_L_counts
  split
  · next e => rw [e]; exact s_L_counts_0 X
  split
  · next e => rw [e]; exact s_L_counts_7 X
  exact as_bad
theorem ct_L_counts : am_Ct yL_counts cL_counts 4 (some .int) rm_L_counts sp_L_counts := am_met (own := RL) (nm := "counts") (by decide) rfl rfl (Or.inr (Or.inl rfl)) (fun _ _ => h_L_counts) (fun _ _ _ X => s_L_counts X) (fun _ _ _ _ h => h)
-- L_told
theorem dL_told_0 : decode cL_told 0 = .ok (.iconst (-1), 1) := by decide +kernel
theorem dL_told_1 : decode cL_told 1 = .ok (.istore 5, 2) := by decide +kernel
theorem dL_told_3 : decode cL_told 3 = .ok (.iconst 0, 1) := by decide +kernel
theorem dL_told_4 : decode cL_told 4 = .ok (.istore 6, 2) := by decide +kernel
theorem dL_told_6 : decode cL_told 6 = .ok (.iload 6, 2) := by decide +kernel
theorem dL_told_8 : decode cL_told 8 = .ok (.aload_n 0, 1) := by decide +kernel
theorem dL_told_9 : decode cL_told 9 = .ok (.bipush 10, 2) := by decide +kernel
theorem dL_told_11 : decode cL_told 11 = .ok (.iaload, 1) := by decide +kernel
theorem dL_told_12 : decode cL_told 12 = .ok (.if_icmp .ge 57, 3) := by decide +kernel
theorem dL_told_15 : decode cL_told 15 = .ok (.aload_n 1, 1) := by decide +kernel
theorem dL_told_16 : decode cL_told 16 = .ok (.iconst 3, 1) := by decide +kernel
theorem dL_told_17 : decode cL_told 17 = .ok (.iload 6, 2) := by decide +kernel
theorem dL_told_19 : decode cL_told 19 = .ok (.imul, 1) := by decide +kernel
theorem dL_told_20 : decode cL_told 20 = .ok (.iaload, 1) := by decide +kernel
theorem dL_told_21 : decode cL_told 21 = .ok (.iload_n 2, 1) := by decide +kernel
theorem dL_told_22 : decode cL_told 22 = .ok (.if_icmp .ne 37, 3) := by decide +kernel
theorem dL_told_25 : decode cL_told 25 = .ok (.aload_n 1, 1) := by decide +kernel
theorem dL_told_26 : decode cL_told 26 = .ok (.iconst 3, 1) := by decide +kernel
theorem dL_told_27 : decode cL_told 27 = .ok (.iload 6, 2) := by decide +kernel
theorem dL_told_29 : decode cL_told 29 = .ok (.imul, 1) := by decide +kernel
theorem dL_told_30 : decode cL_told 30 = .ok (.iconst 1, 1) := by decide +kernel
theorem dL_told_31 : decode cL_told 31 = .ok (.iadd, 1) := by decide +kernel
theorem dL_told_32 : decode cL_told 32 = .ok (.iaload, 1) := by decide +kernel
theorem dL_told_33 : decode cL_told 33 = .ok (.iload_n 3, 1) := by decide +kernel
theorem dL_told_34 : decode cL_told 34 = .ok (.if_icmp .ne 25, 3) := by decide +kernel
theorem dL_told_37 : decode cL_told 37 = .ok (.iload_n 2, 1) := by decide +kernel
theorem dL_told_38 : decode cL_told 38 = .ok (.ifCond .eq 16, 3) := by decide +kernel
theorem dL_told_41 : decode cL_told 41 = .ok (.aload_n 1, 1) := by decide +kernel
theorem dL_told_42 : decode cL_told 42 = .ok (.iconst 3, 1) := by decide +kernel
theorem dL_told_43 : decode cL_told 43 = .ok (.iload 6, 2) := by decide +kernel
theorem dL_told_45 : decode cL_told 45 = .ok (.imul, 1) := by decide +kernel
theorem dL_told_46 : decode cL_told 46 = .ok (.iconst 2, 1) := by decide +kernel
theorem dL_told_47 : decode cL_told 47 = .ok (.iadd, 1) := by decide +kernel
theorem dL_told_48 : decode cL_told 48 = .ok (.iaload, 1) := by decide +kernel
theorem dL_told_49 : decode cL_told 49 = .ok (.iload 4, 2) := by decide +kernel
theorem dL_told_51 : decode cL_told 51 = .ok (.if_icmp .ne 8, 3) := by decide +kernel
theorem dL_told_54 : decode cL_told 54 = .ok (.iload 6, 2) := by decide +kernel
theorem dL_told_56 : decode cL_told 56 = .ok (.goto 5, 3) := by decide +kernel
theorem dL_told_59 : decode cL_told 59 = .ok (.iload 5, 2) := by decide +kernel
theorem dL_told_61 : decode cL_told 61 = .ok (.istore 5, 2) := by decide +kernel
theorem dL_told_63 : decode cL_told 63 = .ok (.iinc 6 1, 3) := by decide +kernel
theorem dL_told_66 : decode cL_told 66 = .ok (.goto (-60), 3) := by decide +kernel
theorem dL_told_69 : decode cL_told 69 = .ok (.iload 5, 2) := by decide +kernel
theorem dL_told_71 : decode cL_told 71 = .ok (.ireturn, 1) := by decide +kernel
def t_L_told_69 : am_T := tb_iload 5 <|
  tb_iret
def t_L_told_61 : am_T := tb_istore 5 <|
  tb_iinc 6 1 <|
  tb_head 6
def t_L_told_59 : am_T := tb_iload 5 <|
  t_L_told_61
def t_L_told_54 : am_T := tb_iload 6 <|
  t_L_told_61
def t_L_told_6 : am_T := tb_iload 6 <|
  tb_aload 0 <|
  tb_const 10 <|
  tb_iald <|
  tb_ic (fun x y => y ≤ x) (t_L_told_69) <|
  tb_aload 1 <|
  tb_const 3 <|
  tb_iload 6 <|
  tb_bin (fun x y => x * y) <|
  tb_iald <|
  tb_iload 2 <|
  tb_ic (fun x y => x ≠ y) (t_L_told_59) <|
  tb_aload 1 <|
  tb_const 3 <|
  tb_iload 6 <|
  tb_bin (fun x y => x * y) <|
  tb_const 1 <|
  tb_bin (fun x y => x + y) <|
  tb_iald <|
  tb_iload 3 <|
  tb_ic (fun x y => x ≠ y) (t_L_told_59) <|
  tb_iload 2 <|
  tb_if (fun x => x = 0) (t_L_told_54) <|
  tb_aload 1 <|
  tb_const 3 <|
  tb_iload 6 <|
  tb_bin (fun x y => x * y) <|
  tb_const 2 <|
  tb_bin (fun x y => x + y) <|
  tb_iald <|
  tb_iload 4 <|
  tb_ic (fun x y => x ≠ y) (t_L_told_59) <|
  t_L_told_54
def t_L_told_0 : am_T := tb_const (-1) <|
  tb_istore 5 <|
  tb_const 0 <|
  tb_istore 6 <|
  tb_head 6
def h_L_told : am_Hd := fun h => if h = 0 then t_L_told_0 else if h = 6 then t_L_told_6 else tb_bad
theorem h_L_told_0 : h_L_told 0 = t_L_told_0 := rfl
theorem h_L_told_6 : h_L_told 6 = t_L_told_6 := rfl
def rm_L_told : Room := { frames := 0, cells := 0, slots := 0, locals := 0 }
def sp_L_told : am_sp := fun as M Q => as.length ≤ 7 ∧ am_OK h_L_told Q 0 (am_in 7 as) M
theorem s_L_told_69 {G : am_G} {bc bs : Nat} (X : am_Cx G cL_told RL "told" rm_L_told (some .int) 7 bc bs true) : am_S G 69 (t_L_told_69) := by
  unfold t_L_told_69
  refine as_iload (pc := 69) X dL_told_69 ?_
  exact as_iret (pc := 71) X ⟨rfl, rfl⟩ rfl dL_told_71
theorem s_L_told_61 {G : am_G} {bc bs : Nat} (X : am_Cx G cL_told RL "told" rm_L_told (some .int) 7 bc bs true) : am_S G 61 (t_L_told_61) := by
  unfold t_L_told_61
  refine as_istore (pc := 61) X dL_told_61 ?_ (by decide)
  refine as_iinc (pc := 63) X dL_told_63 (by decide) (by decide) ?_
  exact as_goto (pc := 66) X 6 dL_told_66 (by decide) (as_head)
theorem s_L_told_59 {G : am_G} {bc bs : Nat} (X : am_Cx G cL_told RL "told" rm_L_told (some .int) 7 bc bs true) : am_S G 59 (t_L_told_59) := by
  unfold t_L_told_59
  refine as_iload (pc := 59) X dL_told_59 ?_
  exact s_L_told_61 X
theorem s_L_told_54 {G : am_G} {bc bs : Nat} (X : am_Cx G cL_told RL "told" rm_L_told (some .int) 7 bc bs true) : am_S G 54 (t_L_told_54) := by
  unfold t_L_told_54
  refine as_iload (pc := 54) X dL_told_54 ?_
  exact as_goto (pc := 56) X 61 dL_told_56 (by decide) (s_L_told_61 X)
theorem s_L_told_6 {G : am_G} {bc bs : Nat} (X : am_Cx G cL_told RL "told" rm_L_told (some .int) 7 bc bs true) : am_S G 6 (t_L_told_6) := by
  unfold t_L_told_6
  refine as_iload (pc := 6) X dL_told_6 ?_
  refine as_aload_n (pc := 8) X dL_told_8 rfl ?_
  refine as_bipush (pc := 9) X dL_told_9 (by decide) ?_
  refine as_iald (pc := 11) X dL_told_11 ?_
  refine as_ic_ge (pc := 12) X 69 dL_told_12 (by decide) (s_L_told_69 X) ?_
  refine as_aload_n (pc := 15) X dL_told_15 rfl ?_
  refine as_iconst (pc := 16) X dL_told_16 (by decide) ?_
  refine as_iload (pc := 17) X dL_told_17 ?_
  refine as_imul (pc := 19) X dL_told_19 ?_
  refine as_iald (pc := 20) X dL_told_20 ?_
  refine as_iload_n (pc := 21) X dL_told_21 rfl ?_
  refine as_ic_ne (pc := 22) X 59 dL_told_22 (by decide) (s_L_told_59 X) ?_
  refine as_aload_n (pc := 25) X dL_told_25 rfl ?_
  refine as_iconst (pc := 26) X dL_told_26 (by decide) ?_
  refine as_iload (pc := 27) X dL_told_27 ?_
  refine as_imul (pc := 29) X dL_told_29 ?_
  refine as_iconst (pc := 30) X dL_told_30 (by decide) ?_
  refine as_iadd (pc := 31) X dL_told_31 ?_
  refine as_iald (pc := 32) X dL_told_32 ?_
  refine as_iload_n (pc := 33) X dL_told_33 rfl ?_
  refine as_ic_ne (pc := 34) X 59 dL_told_34 (by decide) (s_L_told_59 X) ?_
  refine as_iload_n (pc := 37) X dL_told_37 rfl ?_
  refine as_if_eq (pc := 38) X 54 dL_told_38 (by decide) (s_L_told_54 X) ?_
  refine as_aload_n (pc := 41) X dL_told_41 rfl ?_
  refine as_iconst (pc := 42) X dL_told_42 (by decide) ?_
  refine as_iload (pc := 43) X dL_told_43 ?_
  refine as_imul (pc := 45) X dL_told_45 ?_
  refine as_iconst (pc := 46) X dL_told_46 (by decide) ?_
  refine as_iadd (pc := 47) X dL_told_47 ?_
  refine as_iald (pc := 48) X dL_told_48 ?_
  refine as_iload (pc := 49) X dL_told_49 ?_
  refine as_ic_ne (pc := 51) X 59 dL_told_51 (by decide) (s_L_told_59 X) ?_
  exact s_L_told_54 X
theorem s_L_told_0 {G : am_G} {bc bs : Nat} (X : am_Cx G cL_told RL "told" rm_L_told (some .int) 7 bc bs true) : am_S G 0 (t_L_told_0) := by
  unfold t_L_told_0
  refine as_iconst (pc := 0) X dL_told_0 (by decide) ?_
  refine as_istore (pc := 1) X dL_told_1 ?_ (by decide)
  refine as_iconst (pc := 3) X dL_told_3 (by decide) ?_
  refine as_istore (pc := 4) X dL_told_4 ?_ (by decide)
  exact as_head
theorem s_L_told {G : am_G} {bc bs : Nat} (X : am_Cx G cL_told RL "told" rm_L_told (some .int) 7 bc bs true) (h : Nat) : am_S G h (h_L_told h) := by
  unfold h_L_told
  split
  · next e => rw [e]; exact s_L_told_0 X
  split
  · next e => rw [e]; exact s_L_told_6 X
  exact as_bad
theorem ct_L_told : am_Ct yL_told cL_told 7 (some .int) rm_L_told sp_L_told := am_met (own := RL) (nm := "told") (by decide) rfl rfl (Or.inr (Or.inl rfl)) (fun _ _ => h_L_told) (fun _ _ _ X => s_L_told X) (fun _ _ _ _ h => h)
-- L_name
theorem dL_name_0 : decode cL_name 0 = .ok (.aload_n 0, 1) := by decide +kernel
theorem dL_name_1 : decode cL_name 1 = .ok (.bipush 8, 2) := by decide +kernel
theorem dL_name_3 : decode cL_name 3 = .ok (.iaload, 1) := by decide +kernel
theorem dL_name_4 : decode cL_name 4 = .ok (.iconst 1, 1) := by decide +kernel
theorem dL_name_5 : decode cL_name 5 = .ok (.isub, 1) := by decide +kernel
theorem dL_name_6 : decode cL_name 6 = .ok (.istore 4, 2) := by decide +kernel
theorem dL_name_8 : decode cL_name 8 = .ok (.iload 4, 2) := by decide +kernel
theorem dL_name_10 : decode cL_name 10 = .ok (.ifCond .lt 40, 3) := by decide +kernel
theorem dL_name_13 : decode cL_name 13 = .ok (.aload_n 1, 1) := by decide +kernel
theorem dL_name_14 : decode cL_name 14 = .ok (.iconst 3, 1) := by decide +kernel
theorem dL_name_15 : decode cL_name 15 = .ok (.iload 4, 2) := by decide +kernel
theorem dL_name_17 : decode cL_name 17 = .ok (.imul, 1) := by decide +kernel
theorem dL_name_18 : decode cL_name 18 = .ok (.iaload, 1) := by decide +kernel
theorem dL_name_19 : decode cL_name 19 = .ok (.iload_n 2, 1) := by decide +kernel
theorem dL_name_20 : decode cL_name 20 = .ok (.if_icmp .ne 24, 3) := by decide +kernel
theorem dL_name_23 : decode cL_name 23 = .ok (.aload_n 1, 1) := by decide +kernel
theorem dL_name_24 : decode cL_name 24 = .ok (.iconst 3, 1) := by decide +kernel
theorem dL_name_25 : decode cL_name 25 = .ok (.iload 4, 2) := by decide +kernel
theorem dL_name_27 : decode cL_name 27 = .ok (.imul, 1) := by decide +kernel
theorem dL_name_28 : decode cL_name 28 = .ok (.iconst 2, 1) := by decide +kernel
theorem dL_name_29 : decode cL_name 29 = .ok (.iadd, 1) := by decide +kernel
theorem dL_name_30 : decode cL_name 30 = .ok (.iaload, 1) := by decide +kernel
theorem dL_name_31 : decode cL_name 31 = .ok (.iload_n 3, 1) := by decide +kernel
theorem dL_name_32 : decode cL_name 32 = .ok (.if_icmp .gt 12, 3) := by decide +kernel
theorem dL_name_35 : decode cL_name 35 = .ok (.aload_n 1, 1) := by decide +kernel
theorem dL_name_36 : decode cL_name 36 = .ok (.iconst 3, 1) := by decide +kernel
theorem dL_name_37 : decode cL_name 37 = .ok (.iload 4, 2) := by decide +kernel
theorem dL_name_39 : decode cL_name 39 = .ok (.imul, 1) := by decide +kernel
theorem dL_name_40 : decode cL_name 40 = .ok (.iconst 1, 1) := by decide +kernel
theorem dL_name_41 : decode cL_name 41 = .ok (.iadd, 1) := by decide +kernel
theorem dL_name_42 : decode cL_name 42 = .ok (.iaload, 1) := by decide +kernel
theorem dL_name_43 : decode cL_name 43 = .ok (.ireturn, 1) := by decide +kernel
theorem dL_name_44 : decode cL_name 44 = .ok (.iinc 4 (-1), 3) := by decide +kernel
theorem dL_name_47 : decode cL_name 47 = .ok (.goto (-39), 3) := by decide +kernel
theorem dL_name_50 : decode cL_name 50 = .ok (.bipush (-4), 2) := by decide +kernel
theorem dL_name_52 : decode cL_name 52 = .ok (.ireturn, 1) := by decide +kernel
def t_L_name_50 : am_T := tb_const (-4) <|
  tb_iret
def t_L_name_44 : am_T := tb_iinc 4 (-1) <|
  tb_head 8
def t_L_name_8 : am_T := tb_iload 4 <|
  tb_if (fun x => x < 0) (t_L_name_50) <|
  tb_aload 1 <|
  tb_const 3 <|
  tb_iload 4 <|
  tb_bin (fun x y => x * y) <|
  tb_iald <|
  tb_iload 2 <|
  tb_ic (fun x y => x ≠ y) (t_L_name_44) <|
  tb_aload 1 <|
  tb_const 3 <|
  tb_iload 4 <|
  tb_bin (fun x y => x * y) <|
  tb_const 2 <|
  tb_bin (fun x y => x + y) <|
  tb_iald <|
  tb_iload 3 <|
  tb_ic (fun x y => y < x) (t_L_name_44) <|
  tb_aload 1 <|
  tb_const 3 <|
  tb_iload 4 <|
  tb_bin (fun x y => x * y) <|
  tb_const 1 <|
  tb_bin (fun x y => x + y) <|
  tb_iald <|
  tb_iret
def t_L_name_0 : am_T := tb_aload 0 <|
  tb_const 8 <|
  tb_iald <|
  tb_const 1 <|
  tb_bin (fun x y => x - y) <|
  tb_istore 4 <|
  tb_head 8
def h_L_name : am_Hd := fun h => if h = 0 then t_L_name_0 else if h = 8 then t_L_name_8 else tb_bad
theorem h_L_name_0 : h_L_name 0 = t_L_name_0 := rfl
theorem h_L_name_8 : h_L_name 8 = t_L_name_8 := rfl
def rm_L_name : Room := { frames := 0, cells := 0, slots := 0, locals := 0 }
def sp_L_name : am_sp := fun as M Q => as.length ≤ 5 ∧ am_OK h_L_name Q 0 (am_in 5 as) M
theorem s_L_name_50 {G : am_G} {bc bs : Nat} (X : am_Cx G cL_name RL "name" rm_L_name (some .int) 5 bc bs true) : am_S G 50 (t_L_name_50) := by
  unfold t_L_name_50
  refine as_bipush (pc := 50) X dL_name_50 (by decide) ?_
  exact as_iret (pc := 52) X ⟨rfl, rfl⟩ rfl dL_name_52
theorem s_L_name_44 {G : am_G} {bc bs : Nat} (X : am_Cx G cL_name RL "name" rm_L_name (some .int) 5 bc bs true) : am_S G 44 (t_L_name_44) := by
  unfold t_L_name_44
  refine as_iinc (pc := 44) X dL_name_44 (by decide) (by decide) ?_
  exact as_goto (pc := 47) X 8 dL_name_47 (by decide) (as_head)
theorem s_L_name_8 {G : am_G} {bc bs : Nat} (X : am_Cx G cL_name RL "name" rm_L_name (some .int) 5 bc bs true) : am_S G 8 (t_L_name_8) := by
  unfold t_L_name_8
  refine as_iload (pc := 8) X dL_name_8 ?_
  refine as_if_lt (pc := 10) X 50 dL_name_10 (by decide) (s_L_name_50 X) ?_
  refine as_aload_n (pc := 13) X dL_name_13 rfl ?_
  refine as_iconst (pc := 14) X dL_name_14 (by decide) ?_
  refine as_iload (pc := 15) X dL_name_15 ?_
  refine as_imul (pc := 17) X dL_name_17 ?_
  refine as_iald (pc := 18) X dL_name_18 ?_
  refine as_iload_n (pc := 19) X dL_name_19 rfl ?_
  refine as_ic_ne (pc := 20) X 44 dL_name_20 (by decide) (s_L_name_44 X) ?_
  refine as_aload_n (pc := 23) X dL_name_23 rfl ?_
  refine as_iconst (pc := 24) X dL_name_24 (by decide) ?_
  refine as_iload (pc := 25) X dL_name_25 ?_
  refine as_imul (pc := 27) X dL_name_27 ?_
  refine as_iconst (pc := 28) X dL_name_28 (by decide) ?_
  refine as_iadd (pc := 29) X dL_name_29 ?_
  refine as_iald (pc := 30) X dL_name_30 ?_
  refine as_iload_n (pc := 31) X dL_name_31 rfl ?_
  refine as_ic_gt (pc := 32) X 44 dL_name_32 (by decide) (s_L_name_44 X) ?_
  refine as_aload_n (pc := 35) X dL_name_35 rfl ?_
  refine as_iconst (pc := 36) X dL_name_36 (by decide) ?_
  refine as_iload (pc := 37) X dL_name_37 ?_
  refine as_imul (pc := 39) X dL_name_39 ?_
  refine as_iconst (pc := 40) X dL_name_40 (by decide) ?_
  refine as_iadd (pc := 41) X dL_name_41 ?_
  refine as_iald (pc := 42) X dL_name_42 ?_
  exact as_iret (pc := 43) X ⟨rfl, rfl⟩ rfl dL_name_43
theorem s_L_name_0 {G : am_G} {bc bs : Nat} (X : am_Cx G cL_name RL "name" rm_L_name (some .int) 5 bc bs true) : am_S G 0 (t_L_name_0) := by
  unfold t_L_name_0
  refine as_aload_n (pc := 0) X dL_name_0 rfl ?_
  refine as_bipush (pc := 1) X dL_name_1 (by decide) ?_
  refine as_iald (pc := 3) X dL_name_3 ?_
  refine as_iconst (pc := 4) X dL_name_4 (by decide) ?_
  refine as_isub (pc := 5) X dL_name_5 ?_
  refine as_istore (pc := 6) X dL_name_6 ?_ (by decide)
  exact as_head
theorem s_L_name {G : am_G} {bc bs : Nat} (X : am_Cx G cL_name RL "name" rm_L_name (some .int) 5 bc bs true) (h : Nat) : am_S G h (h_L_name h) := by
  unfold h_L_name
  split
  · next e => rw [e]; exact s_L_name_0 X
  split
  · next e => rw [e]; exact s_L_name_8 X
  exact as_bad
theorem ct_L_name : am_Ct yL_name cL_name 5 (some .int) rm_L_name sp_L_name := am_met (own := RL) (nm := "name") (by decide) rfl rfl (Or.inr (Or.inl rfl)) (fun _ _ => h_L_name) (fun _ _ _ X => s_L_name X) (fun _ _ _ _ h => h)
-- L_speaks
theorem dL_speaks_0 : decode cL_speaks 0 = .ok (.aload_n 0, 1) := by decide +kernel
theorem dL_speaks_1 : decode cL_speaks 1 = .ok (.aload_n 1, 1) := by decide +kernel
theorem dL_speaks_2 : decode cL_speaks 2 = .ok (.iload 4, 2) := by decide +kernel
theorem dL_speaks_4 : decode cL_speaks 4 = .ok (.aload_n 2, 1) := by decide +kernel
theorem dL_speaks_5 : decode cL_speaks 5 = .ok (.iconst 4, 1) := by decide +kernel
theorem dL_speaks_6 : decode cL_speaks 6 = .ok (.iload_n 3, 1) := by decide +kernel
theorem dL_speaks_7 : decode cL_speaks 7 = .ok (.imul, 1) := by decide +kernel
theorem dL_speaks_8 : decode cL_speaks 8 = .ok (.iaload, 1) := by decide +kernel
theorem dL_speaks_9 : decode cL_speaks 9 = .ok (.invokestatic 9, 3) := by decide +kernel
theorem dL_speaks_12 : decode cL_speaks 12 = .ok (.istore 5, 2) := by decide +kernel
theorem dL_speaks_14 : decode cL_speaks 14 = .ok (.iload 5, 2) := by decide +kernel
theorem dL_speaks_16 : decode cL_speaks 16 = .ok (.ifCond .lt 23, 3) := by decide +kernel
theorem dL_speaks_19 : decode cL_speaks 19 = .ok (.aload_n 2, 1) := by decide +kernel
theorem dL_speaks_20 : decode cL_speaks 20 = .ok (.iconst 4, 1) := by decide +kernel
theorem dL_speaks_21 : decode cL_speaks 21 = .ok (.iload_n 3, 1) := by decide +kernel
theorem dL_speaks_22 : decode cL_speaks 22 = .ok (.imul, 1) := by decide +kernel
theorem dL_speaks_23 : decode cL_speaks 23 = .ok (.iconst 2, 1) := by decide +kernel
theorem dL_speaks_24 : decode cL_speaks 24 = .ok (.iadd, 1) := by decide +kernel
theorem dL_speaks_25 : decode cL_speaks 25 = .ok (.iaload, 1) := by decide +kernel
theorem dL_speaks_26 : decode cL_speaks 26 = .ok (.iload 5, 2) := by decide +kernel
theorem dL_speaks_28 : decode cL_speaks 28 = .ok (.ishr, 1) := by decide +kernel
theorem dL_speaks_29 : decode cL_speaks 29 = .ok (.iconst 1, 1) := by decide +kernel
theorem dL_speaks_30 : decode cL_speaks 30 = .ok (.iand, 1) := by decide +kernel
theorem dL_speaks_31 : decode cL_speaks 31 = .ok (.iconst 1, 1) := by decide +kernel
theorem dL_speaks_32 : decode cL_speaks 32 = .ok (.if_icmp .ne 7, 3) := by decide +kernel
theorem dL_speaks_35 : decode cL_speaks 35 = .ok (.iconst 1, 1) := by decide +kernel
theorem dL_speaks_36 : decode cL_speaks 36 = .ok (.goto 4, 3) := by decide +kernel
theorem dL_speaks_39 : decode cL_speaks 39 = .ok (.iconst 0, 1) := by decide +kernel
theorem dL_speaks_40 : decode cL_speaks 40 = .ok (.ireturn, 1) := by decide +kernel
def t_L_speaks_40 : am_T := tb_zret
def t_L_speaks_39 : am_T := tb_const 0 <|
  t_L_speaks_40
def t_L_speaks_0 : am_T := tb_aload 0 <|
  tb_aload 1 <|
  tb_iload 4 <|
  tb_aload 2 <|
  tb_const 4 <|
  tb_iload 3 <|
  tb_bin (fun x y => x * y) <|
  tb_iald <|
  tb_callS sp_L_name 4 <|
  tb_istore 5 <|
  tb_iload 5 <|
  tb_if (fun x => x < 0) (t_L_speaks_39) <|
  tb_aload 2 <|
  tb_const 4 <|
  tb_iload 3 <|
  tb_bin (fun x y => x * y) <|
  tb_const 2 <|
  tb_bin (fun x y => x + y) <|
  tb_iald <|
  tb_iload 5 <|
  tb_bin (fun x y => x >>> (y &&& 31)) <|
  tb_const 1 <|
  tb_bin (fun x y => x &&& y) <|
  tb_const 1 <|
  tb_ic (fun x y => x ≠ y) (t_L_speaks_39) <|
  tb_const 1 <|
  t_L_speaks_40
def h_L_speaks : am_Hd := fun h => if h = 0 then t_L_speaks_0 else tb_bad
theorem h_L_speaks_0 : h_L_speaks 0 = t_L_speaks_0 := rfl
def rm_L_speaks : Room := { frames := 1, cells := 0, slots := 0, locals := 24 }
def sp_L_speaks : am_sp := fun as M Q => as.length ≤ 6 ∧ am_OK h_L_speaks Q 0 (am_in 6 as) M
theorem s_L_speaks_40 {G : am_G} {bc bs : Nat} (X : am_Cx G cL_speaks RL "speaks" rm_L_speaks (some .boolean) 6 bc bs true) : am_S G 40 (t_L_speaks_40) := by
  unfold t_L_speaks_40
  exact as_zret (pc := 40) X ⟨rfl, rfl⟩ rfl dL_speaks_40
theorem s_L_speaks_39 {G : am_G} {bc bs : Nat} (X : am_Cx G cL_speaks RL "speaks" rm_L_speaks (some .boolean) 6 bc bs true) : am_S G 39 (t_L_speaks_39) := by
  unfold t_L_speaks_39
  refine as_iconst (pc := 39) X dL_speaks_39 (by decide) ?_
  exact s_L_speaks_40 X
theorem s_L_speaks_0 {G : am_G} {bc bs : Nat} (X : am_Cx G cL_speaks RL "speaks" rm_L_speaks (some .boolean) 6 bc bs true) : am_S G 0 (t_L_speaks_0) := by
  unfold t_L_speaks_0
  refine as_aload_n (pc := 0) X dL_speaks_0 rfl ?_
  refine as_aload_n (pc := 1) X dL_speaks_1 rfl ?_
  refine as_iload (pc := 2) X dL_speaks_2 ?_
  refine as_aload_n (pc := 4) X dL_speaks_4 rfl ?_
  refine as_iconst (pc := 5) X dL_speaks_5 (by decide) ?_
  refine as_iload_n (pc := 6) X dL_speaks_6 rfl ?_
  refine as_imul (pc := 7) X dL_speaks_7 ?_
  refine as_iald (pc := 8) X dL_speaks_8 ?_
  refine as_callS (np := 4) (ix := 9) (pc := 9) X ct_L_name ⟨rfl, rfl⟩ aw_412 aw_413 aw_414 aw_16 (by decide +kernel) (by decide) dL_speaks_9 ?_
  refine as_istore (pc := 12) X dL_speaks_12 ?_ (by decide)
  refine as_iload (pc := 14) X dL_speaks_14 ?_
  refine as_if_lt (pc := 16) X 39 dL_speaks_16 (by decide) (s_L_speaks_39 X) ?_
  refine as_aload_n (pc := 19) X dL_speaks_19 rfl ?_
  refine as_iconst (pc := 20) X dL_speaks_20 (by decide) ?_
  refine as_iload_n (pc := 21) X dL_speaks_21 rfl ?_
  refine as_imul (pc := 22) X dL_speaks_22 ?_
  refine as_iconst (pc := 23) X dL_speaks_23 (by decide) ?_
  refine as_iadd (pc := 24) X dL_speaks_24 ?_
  refine as_iald (pc := 25) X dL_speaks_25 ?_
  refine as_iload (pc := 26) X dL_speaks_26 ?_
  refine as_ishr (pc := 28) X dL_speaks_28 ?_
  refine as_iconst (pc := 29) X dL_speaks_29 (by decide) ?_
  refine as_iand (pc := 30) X dL_speaks_30 ?_
  refine as_iconst (pc := 31) X dL_speaks_31 (by decide) ?_
  refine as_ic_ne (pc := 32) X 39 dL_speaks_32 (by decide) (s_L_speaks_39 X) ?_
  refine as_iconst (pc := 35) X dL_speaks_35 (by decide) ?_
  exact as_goto (pc := 36) X 40 dL_speaks_36 (by decide) (s_L_speaks_40 X)
theorem s_L_speaks {G : am_G} {bc bs : Nat} (X : am_Cx G cL_speaks RL "speaks" rm_L_speaks (some .boolean) 6 bc bs true) (h : Nat) : am_S G h (h_L_speaks h) := by
  unfold h_L_speaks
  split
  · next e => rw [e]; exact s_L_speaks_0 X
  exact as_bad
theorem ct_L_speaks : am_Ct yL_speaks cL_speaks 6 (some .boolean) rm_L_speaks sp_L_speaks := am_met (own := RL) (nm := "speaks") (by decide) rfl rfl (Or.inr (Or.inr (Or.inl rfl))) (fun _ _ => h_L_speaks) (fun _ _ _ X => s_L_speaks X) (fun _ _ _ _ h => h)
-- L_score
theorem dL_score_0 : decode cL_score 0 = .ok (.aload_n 2, 1) := by decide +kernel
theorem dL_score_1 : decode cL_score 1 = .ok (.iconst 4, 1) := by decide +kernel
theorem dL_score_2 : decode cL_score 2 = .ok (.iload_n 3, 1) := by decide +kernel
theorem dL_score_3 : decode cL_score 3 = .ok (.imul, 1) := by decide +kernel
theorem dL_score_4 : decode cL_score 4 = .ok (.iconst 3, 1) := by decide +kernel
theorem dL_score_5 : decode cL_score 5 = .ok (.iadd, 1) := by decide +kernel
theorem dL_score_6 : decode cL_score 6 = .ok (.iaload, 1) := by decide +kernel
theorem dL_score_7 : decode cL_score 7 = .ok (.aload_n 2, 1) := by decide +kernel
theorem dL_score_8 : decode cL_score 8 = .ok (.iconst 4, 1) := by decide +kernel
theorem dL_score_9 : decode cL_score 9 = .ok (.iload 4, 2) := by decide +kernel
theorem dL_score_11 : decode cL_score 11 = .ok (.imul, 1) := by decide +kernel
theorem dL_score_12 : decode cL_score 12 = .ok (.iconst 3, 1) := by decide +kernel
theorem dL_score_13 : decode cL_score 13 = .ok (.iadd, 1) := by decide +kernel
theorem dL_score_14 : decode cL_score 14 = .ok (.iaload, 1) := by decide +kernel
theorem dL_score_15 : decode cL_score 15 = .ok (.iand, 1) := by decide +kernel
theorem dL_score_16 : decode cL_score 16 = .ok (.istore 5, 2) := by decide +kernel
theorem dL_score_18 : decode cL_score 18 = .ok (.iconst 0, 1) := by decide +kernel
theorem dL_score_19 : decode cL_score 19 = .ok (.istore 6, 2) := by decide +kernel
theorem dL_score_21 : decode cL_score 21 = .ok (.iconst 0, 1) := by decide +kernel
theorem dL_score_22 : decode cL_score 22 = .ok (.istore 7, 2) := by decide +kernel
theorem dL_score_24 : decode cL_score 24 = .ok (.iload 7, 2) := by decide +kernel
theorem dL_score_26 : decode cL_score 26 = .ok (.bipush 16, 2) := by decide +kernel
theorem dL_score_28 : decode cL_score 28 = .ok (.if_icmp .ge 25, 3) := by decide +kernel
theorem dL_score_31 : decode cL_score 31 = .ok (.iload 6, 2) := by decide +kernel
theorem dL_score_33 : decode cL_score 33 = .ok (.iload 5, 2) := by decide +kernel
theorem dL_score_35 : decode cL_score 35 = .ok (.iload 7, 2) := by decide +kernel
theorem dL_score_37 : decode cL_score 37 = .ok (.ishr, 1) := by decide +kernel
theorem dL_score_38 : decode cL_score 38 = .ok (.iconst 1, 1) := by decide +kernel
theorem dL_score_39 : decode cL_score 39 = .ok (.iand, 1) := by decide +kernel
theorem dL_score_40 : decode cL_score 40 = .ok (.aload_n 0, 1) := by decide +kernel
theorem dL_score_41 : decode cL_score 41 = .ok (.iconst 4, 1) := by decide +kernel
theorem dL_score_42 : decode cL_score 42 = .ok (.iaload, 1) := by decide +kernel
theorem dL_score_43 : decode cL_score 43 = .ok (.imul, 1) := by decide +kernel
theorem dL_score_44 : decode cL_score 44 = .ok (.iadd, 1) := by decide +kernel
theorem dL_score_45 : decode cL_score 45 = .ok (.istore 6, 2) := by decide +kernel
theorem dL_score_47 : decode cL_score 47 = .ok (.iinc 7 1, 3) := by decide +kernel
theorem dL_score_50 : decode cL_score 50 = .ok (.goto (-26), 3) := by decide +kernel
theorem dL_score_53 : decode cL_score 53 = .ok (.iload 6, 2) := by decide +kernel
theorem dL_score_55 : decode cL_score 55 = .ok (.aload_n 0, 1) := by decide +kernel
theorem dL_score_56 : decode cL_score 56 = .ok (.aload_n 1, 1) := by decide +kernel
theorem dL_score_57 : decode cL_score 57 = .ok (.aload_n 2, 1) := by decide +kernel
theorem dL_score_58 : decode cL_score 58 = .ok (.iload_n 3, 1) := by decide +kernel
theorem dL_score_59 : decode cL_score 59 = .ok (.aload_n 2, 1) := by decide +kernel
theorem dL_score_60 : decode cL_score 60 = .ok (.iconst 4, 1) := by decide +kernel
theorem dL_score_61 : decode cL_score 61 = .ok (.iload 4, 2) := by decide +kernel
theorem dL_score_63 : decode cL_score 63 = .ok (.imul, 1) := by decide +kernel
theorem dL_score_64 : decode cL_score 64 = .ok (.iconst 1, 1) := by decide +kernel
theorem dL_score_65 : decode cL_score 65 = .ok (.iadd, 1) := by decide +kernel
theorem dL_score_66 : decode cL_score 66 = .ok (.iaload, 1) := by decide +kernel
theorem dL_score_67 : decode cL_score 67 = .ok (.invokestatic 15, 3) := by decide +kernel
theorem dL_score_70 : decode cL_score 70 = .ok (.ifCond .eq 9, 3) := by decide +kernel
theorem dL_score_73 : decode cL_score 73 = .ok (.aload_n 0, 1) := by decide +kernel
theorem dL_score_74 : decode cL_score 74 = .ok (.iconst 2, 1) := by decide +kernel
theorem dL_score_75 : decode cL_score 75 = .ok (.iaload, 1) := by decide +kernel
theorem dL_score_76 : decode cL_score 76 = .ok (.goto 4, 3) := by decide +kernel
theorem dL_score_79 : decode cL_score 79 = .ok (.iconst 0, 1) := by decide +kernel
theorem dL_score_80 : decode cL_score 80 = .ok (.iadd, 1) := by decide +kernel
theorem dL_score_81 : decode cL_score 81 = .ok (.istore 6, 2) := by decide +kernel
theorem dL_score_83 : decode cL_score 83 = .ok (.iload 6, 2) := by decide +kernel
theorem dL_score_85 : decode cL_score 85 = .ok (.aload_n 0, 1) := by decide +kernel
theorem dL_score_86 : decode cL_score 86 = .ok (.aload_n 1, 1) := by decide +kernel
theorem dL_score_87 : decode cL_score 87 = .ok (.aload_n 2, 1) := by decide +kernel
theorem dL_score_88 : decode cL_score 88 = .ok (.iload 4, 2) := by decide +kernel
theorem dL_score_90 : decode cL_score 90 = .ok (.aload_n 2, 1) := by decide +kernel
theorem dL_score_91 : decode cL_score 91 = .ok (.iconst 4, 1) := by decide +kernel
theorem dL_score_92 : decode cL_score 92 = .ok (.iload_n 3, 1) := by decide +kernel
theorem dL_score_93 : decode cL_score 93 = .ok (.imul, 1) := by decide +kernel
theorem dL_score_94 : decode cL_score 94 = .ok (.iconst 1, 1) := by decide +kernel
theorem dL_score_95 : decode cL_score 95 = .ok (.iadd, 1) := by decide +kernel
theorem dL_score_96 : decode cL_score 96 = .ok (.iaload, 1) := by decide +kernel
theorem dL_score_97 : decode cL_score 97 = .ok (.invokestatic 15, 3) := by decide +kernel
theorem dL_score_100 : decode cL_score 100 = .ok (.ifCond .eq 9, 3) := by decide +kernel
theorem dL_score_103 : decode cL_score 103 = .ok (.aload_n 0, 1) := by decide +kernel
theorem dL_score_104 : decode cL_score 104 = .ok (.iconst 3, 1) := by decide +kernel
theorem dL_score_105 : decode cL_score 105 = .ok (.iaload, 1) := by decide +kernel
theorem dL_score_106 : decode cL_score 106 = .ok (.goto 4, 3) := by decide +kernel
theorem dL_score_109 : decode cL_score 109 = .ok (.iconst 0, 1) := by decide +kernel
theorem dL_score_110 : decode cL_score 110 = .ok (.iadd, 1) := by decide +kernel
theorem dL_score_111 : decode cL_score 111 = .ok (.istore 6, 2) := by decide +kernel
theorem dL_score_113 : decode cL_score 113 = .ok (.iload 6, 2) := by decide +kernel
theorem dL_score_115 : decode cL_score 115 = .ok (.aload_n 2, 1) := by decide +kernel
theorem dL_score_116 : decode cL_score 116 = .ok (.iconst 4, 1) := by decide +kernel
theorem dL_score_117 : decode cL_score 117 = .ok (.iload_n 3, 1) := by decide +kernel
theorem dL_score_118 : decode cL_score 118 = .ok (.imul, 1) := by decide +kernel
theorem dL_score_119 : decode cL_score 119 = .ok (.iconst 1, 1) := by decide +kernel
theorem dL_score_120 : decode cL_score 120 = .ok (.iadd, 1) := by decide +kernel
theorem dL_score_121 : decode cL_score 121 = .ok (.iaload, 1) := by decide +kernel
theorem dL_score_122 : decode cL_score 122 = .ok (.aload_n 2, 1) := by decide +kernel
theorem dL_score_123 : decode cL_score 123 = .ok (.iconst 4, 1) := by decide +kernel
theorem dL_score_124 : decode cL_score 124 = .ok (.iload 4, 2) := by decide +kernel
theorem dL_score_126 : decode cL_score 126 = .ok (.imul, 1) := by decide +kernel
theorem dL_score_127 : decode cL_score 127 = .ok (.iconst 1, 1) := by decide +kernel
theorem dL_score_128 : decode cL_score 128 = .ok (.iadd, 1) := by decide +kernel
theorem dL_score_129 : decode cL_score 129 = .ok (.iaload, 1) := by decide +kernel
theorem dL_score_130 : decode cL_score 130 = .ok (.if_icmp .ne 9, 3) := by decide +kernel
theorem dL_score_133 : decode cL_score 133 = .ok (.aload_n 0, 1) := by decide +kernel
theorem dL_score_134 : decode cL_score 134 = .ok (.iconst 5, 1) := by decide +kernel
theorem dL_score_135 : decode cL_score 135 = .ok (.iaload, 1) := by decide +kernel
theorem dL_score_136 : decode cL_score 136 = .ok (.goto 4, 3) := by decide +kernel
theorem dL_score_139 : decode cL_score 139 = .ok (.iconst 0, 1) := by decide +kernel
theorem dL_score_140 : decode cL_score 140 = .ok (.iadd, 1) := by decide +kernel
theorem dL_score_141 : decode cL_score 141 = .ok (.istore 6, 2) := by decide +kernel
theorem dL_score_143 : decode cL_score 143 = .ok (.iload 6, 2) := by decide +kernel
theorem dL_score_145 : decode cL_score 145 = .ok (.aload_n 2, 1) := by decide +kernel
theorem dL_score_146 : decode cL_score 146 = .ok (.iconst 4, 1) := by decide +kernel
theorem dL_score_147 : decode cL_score 147 = .ok (.iload_n 3, 1) := by decide +kernel
theorem dL_score_148 : decode cL_score 148 = .ok (.imul, 1) := by decide +kernel
theorem dL_score_149 : decode cL_score 149 = .ok (.iaload, 1) := by decide +kernel
theorem dL_score_150 : decode cL_score 150 = .ok (.aload_n 2, 1) := by decide +kernel
theorem dL_score_151 : decode cL_score 151 = .ok (.iconst 4, 1) := by decide +kernel
theorem dL_score_152 : decode cL_score 152 = .ok (.iload 4, 2) := by decide +kernel
theorem dL_score_154 : decode cL_score 154 = .ok (.imul, 1) := by decide +kernel
theorem dL_score_155 : decode cL_score 155 = .ok (.iaload, 1) := by decide +kernel
theorem dL_score_156 : decode cL_score 156 = .ok (.isub, 1) := by decide +kernel
theorem dL_score_157 : decode cL_score 157 = .ok (.aload_n 0, 1) := by decide +kernel
theorem dL_score_158 : decode cL_score 158 = .ok (.bipush 6, 2) := by decide +kernel
theorem dL_score_160 : decode cL_score 160 = .ok (.iaload, 1) := by decide +kernel
theorem dL_score_161 : decode cL_score 161 = .ok (.idiv, 1) := by decide +kernel
theorem dL_score_162 : decode cL_score 162 = .ok (.isub, 1) := by decide +kernel
theorem dL_score_163 : decode cL_score 163 = .ok (.ireturn, 1) := by decide +kernel
def t_L_score_140 : am_T := tb_bin (fun x y => x + y) <|
  tb_istore 6 <|
  tb_iload 6 <|
  tb_aload 2 <|
  tb_const 4 <|
  tb_iload 3 <|
  tb_bin (fun x y => x * y) <|
  tb_iald <|
  tb_aload 2 <|
  tb_const 4 <|
  tb_iload 4 <|
  tb_bin (fun x y => x * y) <|
  tb_iald <|
  tb_bin (fun x y => x - y) <|
  tb_aload 0 <|
  tb_const 6 <|
  tb_iald <|
  tb_idiv <|
  tb_bin (fun x y => x - y) <|
  tb_iret
def t_L_score_139 : am_T := tb_const 0 <|
  t_L_score_140
def t_L_score_110 : am_T := tb_bin (fun x y => x + y) <|
  tb_istore 6 <|
  tb_iload 6 <|
  tb_aload 2 <|
  tb_const 4 <|
  tb_iload 3 <|
  tb_bin (fun x y => x * y) <|
  tb_const 1 <|
  tb_bin (fun x y => x + y) <|
  tb_iald <|
  tb_aload 2 <|
  tb_const 4 <|
  tb_iload 4 <|
  tb_bin (fun x y => x * y) <|
  tb_const 1 <|
  tb_bin (fun x y => x + y) <|
  tb_iald <|
  tb_ic (fun x y => x ≠ y) (t_L_score_139) <|
  tb_aload 0 <|
  tb_const 5 <|
  tb_iald <|
  t_L_score_140
def t_L_score_109 : am_T := tb_const 0 <|
  t_L_score_110
def t_L_score_80 : am_T := tb_bin (fun x y => x + y) <|
  tb_istore 6 <|
  tb_iload 6 <|
  tb_aload 0 <|
  tb_aload 1 <|
  tb_aload 2 <|
  tb_iload 4 <|
  tb_aload 2 <|
  tb_const 4 <|
  tb_iload 3 <|
  tb_bin (fun x y => x * y) <|
  tb_const 1 <|
  tb_bin (fun x y => x + y) <|
  tb_iald <|
  tb_callS sp_L_speaks 5 <|
  tb_if (fun x => x = 0) (t_L_score_109) <|
  tb_aload 0 <|
  tb_const 3 <|
  tb_iald <|
  t_L_score_110
def t_L_score_79 : am_T := tb_const 0 <|
  t_L_score_80
def t_L_score_53 : am_T := tb_iload 6 <|
  tb_aload 0 <|
  tb_aload 1 <|
  tb_aload 2 <|
  tb_iload 3 <|
  tb_aload 2 <|
  tb_const 4 <|
  tb_iload 4 <|
  tb_bin (fun x y => x * y) <|
  tb_const 1 <|
  tb_bin (fun x y => x + y) <|
  tb_iald <|
  tb_callS sp_L_speaks 5 <|
  tb_if (fun x => x = 0) (t_L_score_79) <|
  tb_aload 0 <|
  tb_const 2 <|
  tb_iald <|
  t_L_score_80
def t_L_score_24 : am_T := tb_iload 7 <|
  tb_const 16 <|
  tb_ic (fun x y => y ≤ x) (t_L_score_53) <|
  tb_iload 6 <|
  tb_iload 5 <|
  tb_iload 7 <|
  tb_bin (fun x y => x >>> (y &&& 31)) <|
  tb_const 1 <|
  tb_bin (fun x y => x &&& y) <|
  tb_aload 0 <|
  tb_const 4 <|
  tb_iald <|
  tb_bin (fun x y => x * y) <|
  tb_bin (fun x y => x + y) <|
  tb_istore 6 <|
  tb_iinc 7 1 <|
  tb_head 24
def t_L_score_0 : am_T := tb_aload 2 <|
  tb_const 4 <|
  tb_iload 3 <|
  tb_bin (fun x y => x * y) <|
  tb_const 3 <|
  tb_bin (fun x y => x + y) <|
  tb_iald <|
  tb_aload 2 <|
  tb_const 4 <|
  tb_iload 4 <|
  tb_bin (fun x y => x * y) <|
  tb_const 3 <|
  tb_bin (fun x y => x + y) <|
  tb_iald <|
  tb_bin (fun x y => x &&& y) <|
  tb_istore 5 <|
  tb_const 0 <|
  tb_istore 6 <|
  tb_const 0 <|
  tb_istore 7 <|
  tb_head 24
def h_L_score : am_Hd := fun h => if h = 0 then t_L_score_0 else if h = 24 then t_L_score_24 else tb_bad
theorem h_L_score_0 : h_L_score 0 = t_L_score_0 := rfl
theorem h_L_score_24 : h_L_score 24 = t_L_score_24 := rfl
def rm_L_score : Room := { frames := 2, cells := 0, slots := 0, locals := 49 }
def sp_L_score : am_sp := fun as M Q => as.length ≤ 8 ∧ am_OK h_L_score Q 0 (am_in 8 as) M
theorem s_L_score_140 {G : am_G} {bc bs : Nat} (X : am_Cx G cL_score RL "score" rm_L_score (some .int) 8 bc bs true) : am_S G 140 (t_L_score_140) := by
  unfold t_L_score_140
  refine as_iadd (pc := 140) X dL_score_140 ?_
  refine as_istore (pc := 141) X dL_score_141 ?_ (by decide)
  refine as_iload (pc := 143) X dL_score_143 ?_
  refine as_aload_n (pc := 145) X dL_score_145 rfl ?_
  refine as_iconst (pc := 146) X dL_score_146 (by decide) ?_
  refine as_iload_n (pc := 147) X dL_score_147 rfl ?_
  refine as_imul (pc := 148) X dL_score_148 ?_
  refine as_iald (pc := 149) X dL_score_149 ?_
  refine as_aload_n (pc := 150) X dL_score_150 rfl ?_
  refine as_iconst (pc := 151) X dL_score_151 (by decide) ?_
  refine as_iload (pc := 152) X dL_score_152 ?_
  refine as_imul (pc := 154) X dL_score_154 ?_
  refine as_iald (pc := 155) X dL_score_155 ?_
  refine as_isub (pc := 156) X dL_score_156 ?_
  refine as_aload_n (pc := 157) X dL_score_157 rfl ?_
  refine as_bipush (pc := 158) X dL_score_158 (by decide) ?_
  refine as_iald (pc := 160) X dL_score_160 ?_
  refine as_idiv (pc := 161) X dL_score_161 ?_
  refine as_isub (pc := 162) X dL_score_162 ?_
  exact as_iret (pc := 163) X ⟨rfl, rfl⟩ rfl dL_score_163
theorem s_L_score_139 {G : am_G} {bc bs : Nat} (X : am_Cx G cL_score RL "score" rm_L_score (some .int) 8 bc bs true) : am_S G 139 (t_L_score_139) := by
  unfold t_L_score_139
  refine as_iconst (pc := 139) X dL_score_139 (by decide) ?_
  exact s_L_score_140 X
theorem s_L_score_110 {G : am_G} {bc bs : Nat} (X : am_Cx G cL_score RL "score" rm_L_score (some .int) 8 bc bs true) : am_S G 110 (t_L_score_110) := by
  unfold t_L_score_110
  refine as_iadd (pc := 110) X dL_score_110 ?_
  refine as_istore (pc := 111) X dL_score_111 ?_ (by decide)
  refine as_iload (pc := 113) X dL_score_113 ?_
  refine as_aload_n (pc := 115) X dL_score_115 rfl ?_
  refine as_iconst (pc := 116) X dL_score_116 (by decide) ?_
  refine as_iload_n (pc := 117) X dL_score_117 rfl ?_
  refine as_imul (pc := 118) X dL_score_118 ?_
  refine as_iconst (pc := 119) X dL_score_119 (by decide) ?_
  refine as_iadd (pc := 120) X dL_score_120 ?_
  refine as_iald (pc := 121) X dL_score_121 ?_
  refine as_aload_n (pc := 122) X dL_score_122 rfl ?_
  refine as_iconst (pc := 123) X dL_score_123 (by decide) ?_
  refine as_iload (pc := 124) X dL_score_124 ?_
  refine as_imul (pc := 126) X dL_score_126 ?_
  refine as_iconst (pc := 127) X dL_score_127 (by decide) ?_
  refine as_iadd (pc := 128) X dL_score_128 ?_
  refine as_iald (pc := 129) X dL_score_129 ?_
  refine as_ic_ne (pc := 130) X 139 dL_score_130 (by decide) (s_L_score_139 X) ?_
  refine as_aload_n (pc := 133) X dL_score_133 rfl ?_
  refine as_iconst (pc := 134) X dL_score_134 (by decide) ?_
  refine as_iald (pc := 135) X dL_score_135 ?_
  exact as_goto (pc := 136) X 140 dL_score_136 (by decide) (s_L_score_140 X)
theorem s_L_score_109 {G : am_G} {bc bs : Nat} (X : am_Cx G cL_score RL "score" rm_L_score (some .int) 8 bc bs true) : am_S G 109 (t_L_score_109) := by
  unfold t_L_score_109
  refine as_iconst (pc := 109) X dL_score_109 (by decide) ?_
  exact s_L_score_110 X
theorem s_L_score_80 {G : am_G} {bc bs : Nat} (X : am_Cx G cL_score RL "score" rm_L_score (some .int) 8 bc bs true) : am_S G 80 (t_L_score_80) := by
  unfold t_L_score_80
  refine as_iadd (pc := 80) X dL_score_80 ?_
  refine as_istore (pc := 81) X dL_score_81 ?_ (by decide)
  refine as_iload (pc := 83) X dL_score_83 ?_
  refine as_aload_n (pc := 85) X dL_score_85 rfl ?_
  refine as_aload_n (pc := 86) X dL_score_86 rfl ?_
  refine as_aload_n (pc := 87) X dL_score_87 rfl ?_
  refine as_iload (pc := 88) X dL_score_88 ?_
  refine as_aload_n (pc := 90) X dL_score_90 rfl ?_
  refine as_iconst (pc := 91) X dL_score_91 (by decide) ?_
  refine as_iload_n (pc := 92) X dL_score_92 rfl ?_
  refine as_imul (pc := 93) X dL_score_93 ?_
  refine as_iconst (pc := 94) X dL_score_94 (by decide) ?_
  refine as_iadd (pc := 95) X dL_score_95 ?_
  refine as_iald (pc := 96) X dL_score_96 ?_
  refine as_callS (np := 5) (ix := 15) (pc := 97) X ct_L_speaks ⟨rfl, rfl⟩ aw_553 aw_554 aw_555 aw_16 (by decide +kernel) (by decide) dL_score_97 ?_
  refine as_if_eq (pc := 100) X 109 dL_score_100 (by decide) (s_L_score_109 X) ?_
  refine as_aload_n (pc := 103) X dL_score_103 rfl ?_
  refine as_iconst (pc := 104) X dL_score_104 (by decide) ?_
  refine as_iald (pc := 105) X dL_score_105 ?_
  exact as_goto (pc := 106) X 110 dL_score_106 (by decide) (s_L_score_110 X)
theorem s_L_score_79 {G : am_G} {bc bs : Nat} (X : am_Cx G cL_score RL "score" rm_L_score (some .int) 8 bc bs true) : am_S G 79 (t_L_score_79) := by
  unfold t_L_score_79
  refine as_iconst (pc := 79) X dL_score_79 (by decide) ?_
  exact s_L_score_80 X
theorem s_L_score_53 {G : am_G} {bc bs : Nat} (X : am_Cx G cL_score RL "score" rm_L_score (some .int) 8 bc bs true) : am_S G 53 (t_L_score_53) := by
  unfold t_L_score_53
  refine as_iload (pc := 53) X dL_score_53 ?_
  refine as_aload_n (pc := 55) X dL_score_55 rfl ?_
  refine as_aload_n (pc := 56) X dL_score_56 rfl ?_
  refine as_aload_n (pc := 57) X dL_score_57 rfl ?_
  refine as_iload_n (pc := 58) X dL_score_58 rfl ?_
  refine as_aload_n (pc := 59) X dL_score_59 rfl ?_
  refine as_iconst (pc := 60) X dL_score_60 (by decide) ?_
  refine as_iload (pc := 61) X dL_score_61 ?_
  refine as_imul (pc := 63) X dL_score_63 ?_
  refine as_iconst (pc := 64) X dL_score_64 (by decide) ?_
  refine as_iadd (pc := 65) X dL_score_65 ?_
  refine as_iald (pc := 66) X dL_score_66 ?_
  refine as_callS (np := 5) (ix := 15) (pc := 67) X ct_L_speaks ⟨rfl, rfl⟩ aw_553 aw_554 aw_555 aw_16 (by decide +kernel) (by decide) dL_score_67 ?_
  refine as_if_eq (pc := 70) X 79 dL_score_70 (by decide) (s_L_score_79 X) ?_
  refine as_aload_n (pc := 73) X dL_score_73 rfl ?_
  refine as_iconst (pc := 74) X dL_score_74 (by decide) ?_
  refine as_iald (pc := 75) X dL_score_75 ?_
  exact as_goto (pc := 76) X 80 dL_score_76 (by decide) (s_L_score_80 X)
theorem s_L_score_24 {G : am_G} {bc bs : Nat} (X : am_Cx G cL_score RL "score" rm_L_score (some .int) 8 bc bs true) : am_S G 24 (t_L_score_24) := by
  unfold t_L_score_24
  refine as_iload (pc := 24) X dL_score_24 ?_
  refine as_bipush (pc := 26) X dL_score_26 (by decide) ?_
  refine as_ic_ge (pc := 28) X 53 dL_score_28 (by decide) (s_L_score_53 X) ?_
  refine as_iload (pc := 31) X dL_score_31 ?_
  refine as_iload (pc := 33) X dL_score_33 ?_
  refine as_iload (pc := 35) X dL_score_35 ?_
  refine as_ishr (pc := 37) X dL_score_37 ?_
  refine as_iconst (pc := 38) X dL_score_38 (by decide) ?_
  refine as_iand (pc := 39) X dL_score_39 ?_
  refine as_aload_n (pc := 40) X dL_score_40 rfl ?_
  refine as_iconst (pc := 41) X dL_score_41 (by decide) ?_
  refine as_iald (pc := 42) X dL_score_42 ?_
  refine as_imul (pc := 43) X dL_score_43 ?_
  refine as_iadd (pc := 44) X dL_score_44 ?_
  refine as_istore (pc := 45) X dL_score_45 ?_ (by decide)
  refine as_iinc (pc := 47) X dL_score_47 (by decide) (by decide) ?_
  exact as_goto (pc := 50) X 24 dL_score_50 (by decide) (as_head)
theorem s_L_score_0 {G : am_G} {bc bs : Nat} (X : am_Cx G cL_score RL "score" rm_L_score (some .int) 8 bc bs true) : am_S G 0 (t_L_score_0) := by
  unfold t_L_score_0
  refine as_aload_n (pc := 0) X dL_score_0 rfl ?_
  refine as_iconst (pc := 1) X dL_score_1 (by decide) ?_
  refine as_iload_n (pc := 2) X dL_score_2 rfl ?_
  refine as_imul (pc := 3) X dL_score_3 ?_
  refine as_iconst (pc := 4) X dL_score_4 (by decide) ?_
  refine as_iadd (pc := 5) X dL_score_5 ?_
  refine as_iald (pc := 6) X dL_score_6 ?_
  refine as_aload_n (pc := 7) X dL_score_7 rfl ?_
  refine as_iconst (pc := 8) X dL_score_8 (by decide) ?_
  refine as_iload (pc := 9) X dL_score_9 ?_
  refine as_imul (pc := 11) X dL_score_11 ?_
  refine as_iconst (pc := 12) X dL_score_12 (by decide) ?_
  refine as_iadd (pc := 13) X dL_score_13 ?_
  refine as_iald (pc := 14) X dL_score_14 ?_
  refine as_iand (pc := 15) X dL_score_15 ?_
  refine as_istore (pc := 16) X dL_score_16 ?_ (by decide)
  refine as_iconst (pc := 18) X dL_score_18 (by decide) ?_
  refine as_istore (pc := 19) X dL_score_19 ?_ (by decide)
  refine as_iconst (pc := 21) X dL_score_21 (by decide) ?_
  refine as_istore (pc := 22) X dL_score_22 ?_ (by decide)
  exact as_head
theorem s_L_score {G : am_G} {bc bs : Nat} (X : am_Cx G cL_score RL "score" rm_L_score (some .int) 8 bc bs true) (h : Nat) : am_S G h (h_L_score h) := by
  unfold h_L_score
  split
  · next e => rw [e]; exact s_L_score_0 X
  split
  · next e => rw [e]; exact s_L_score_24 X
  exact as_bad
theorem ct_L_score : am_Ct yL_score cL_score 8 (some .int) rm_L_score sp_L_score := am_met (own := RL) (nm := "score") (by decide) rfl rfl (Or.inr (Or.inl rfl)) (fun _ _ => h_L_score) (fun _ _ _ X => s_L_score X) (fun _ _ _ _ h => h)
-- L_might
theorem dL_might_0 : decode cL_might 0 = .ok (.aload_n 0, 1) := by decide +kernel
theorem dL_might_1 : decode cL_might 1 = .ok (.aload_n 3, 1) := by decide +kernel
theorem dL_might_2 : decode cL_might 2 = .ok (.iconst 2, 1) := by decide +kernel
theorem dL_might_3 : decode cL_might 3 = .ok (.iload 4, 2) := by decide +kernel
theorem dL_might_5 : decode cL_might 5 = .ok (.iload 5, 2) := by decide +kernel
theorem dL_might_7 : decode cL_might 7 = .ok (.invokestatic 19, 3) := by decide +kernel
theorem dL_might_10 : decode cL_might 10 = .ok (.istore 7, 2) := by decide +kernel
theorem dL_might_12 : decode cL_might 12 = .ok (.aload_n 2, 1) := by decide +kernel
theorem dL_might_13 : decode cL_might 13 = .ok (.iload 5, 2) := by decide +kernel
theorem dL_might_15 : decode cL_might 15 = .ok (.iload 4, 2) := by decide +kernel
theorem dL_might_17 : decode cL_might 17 = .ok (.invokestatic 23, 3) := by decide +kernel
theorem dL_might_20 : decode cL_might 20 = .ok (.ifCond .eq 54, 3) := by decide +kernel
theorem dL_might_23 : decode cL_might 23 = .ok (.aload_n 2, 1) := by decide +kernel
theorem dL_might_24 : decode cL_might 24 = .ok (.iconst 4, 1) := by decide +kernel
theorem dL_might_25 : decode cL_might 25 = .ok (.iload 4, 2) := by decide +kernel
theorem dL_might_27 : decode cL_might 27 = .ok (.imul, 1) := by decide +kernel
theorem dL_might_28 : decode cL_might 28 = .ok (.iaload, 1) := by decide +kernel
theorem dL_might_29 : decode cL_might 29 = .ok (.aload_n 2, 1) := by decide +kernel
theorem dL_might_30 : decode cL_might 30 = .ok (.iconst 4, 1) := by decide +kernel
theorem dL_might_31 : decode cL_might 31 = .ok (.iload 5, 2) := by decide +kernel
theorem dL_might_33 : decode cL_might 33 = .ok (.imul, 1) := by decide +kernel
theorem dL_might_34 : decode cL_might 34 = .ok (.iaload, 1) := by decide +kernel
theorem dL_might_35 : decode cL_might 35 = .ok (.isub, 1) := by decide +kernel
theorem dL_might_36 : decode cL_might 36 = .ok (.aload_n 0, 1) := by decide +kernel
theorem dL_might_37 : decode cL_might 37 = .ok (.iconst 0, 1) := by decide +kernel
theorem dL_might_38 : decode cL_might 38 = .ok (.iaload, 1) := by decide +kernel
theorem dL_might_39 : decode cL_might 39 = .ok (.if_icmp .gt 35, 3) := by decide +kernel
theorem dL_might_42 : decode cL_might 42 = .ok (.iload 7, 2) := by decide +kernel
theorem dL_might_44 : decode cL_might 44 = .ok (.ifCond .lt 10, 3) := by decide +kernel
theorem dL_might_47 : decode cL_might 47 = .ok (.iload 7, 2) := by decide +kernel
theorem dL_might_49 : decode cL_might 49 = .ok (.iload 6, 2) := by decide +kernel
theorem dL_might_51 : decode cL_might 51 = .ok (.if_icmp .ne 23, 3) := by decide +kernel
theorem dL_might_54 : decode cL_might 54 = .ok (.aload_n 0, 1) := by decide +kernel
theorem dL_might_55 : decode cL_might 55 = .ok (.aload_n 1, 1) := by decide +kernel
theorem dL_might_56 : decode cL_might 56 = .ok (.aload_n 2, 1) := by decide +kernel
theorem dL_might_57 : decode cL_might 57 = .ok (.iload 4, 2) := by decide +kernel
theorem dL_might_59 : decode cL_might 59 = .ok (.iload 5, 2) := by decide +kernel
theorem dL_might_61 : decode cL_might 61 = .ok (.invokestatic 27, 3) := by decide +kernel
theorem dL_might_64 : decode cL_might 64 = .ok (.aload_n 0, 1) := by decide +kernel
theorem dL_might_65 : decode cL_might 65 = .ok (.iconst 1, 1) := by decide +kernel
theorem dL_might_66 : decode cL_might 66 = .ok (.iaload, 1) := by decide +kernel
theorem dL_might_67 : decode cL_might 67 = .ok (.if_icmp .lt 7, 3) := by decide +kernel
theorem dL_might_70 : decode cL_might 70 = .ok (.iconst 1, 1) := by decide +kernel
theorem dL_might_71 : decode cL_might 71 = .ok (.goto 4, 3) := by decide +kernel
theorem dL_might_74 : decode cL_might 74 = .ok (.iconst 0, 1) := by decide +kernel
theorem dL_might_75 : decode cL_might 75 = .ok (.ireturn, 1) := by decide +kernel
def t_L_might_75 : am_T := tb_zret
def t_L_might_74 : am_T := tb_const 0 <|
  t_L_might_75
def t_L_might_54 : am_T := tb_aload 0 <|
  tb_aload 1 <|
  tb_aload 2 <|
  tb_iload 4 <|
  tb_iload 5 <|
  tb_callS sp_L_score 5 <|
  tb_aload 0 <|
  tb_const 1 <|
  tb_iald <|
  tb_ic (fun x y => x < y) (t_L_might_74) <|
  tb_const 1 <|
  t_L_might_75
def t_L_might_0 : am_T := tb_aload 0 <|
  tb_aload 3 <|
  tb_const 2 <|
  tb_iload 4 <|
  tb_iload 5 <|
  tb_callS sp_L_told 5 <|
  tb_istore 7 <|
  tb_aload 2 <|
  tb_iload 5 <|
  tb_iload 4 <|
  tb_callS sp_L_ahead 3 <|
  tb_if (fun x => x = 0) (t_L_might_74) <|
  tb_aload 2 <|
  tb_const 4 <|
  tb_iload 4 <|
  tb_bin (fun x y => x * y) <|
  tb_iald <|
  tb_aload 2 <|
  tb_const 4 <|
  tb_iload 5 <|
  tb_bin (fun x y => x * y) <|
  tb_iald <|
  tb_bin (fun x y => x - y) <|
  tb_aload 0 <|
  tb_const 0 <|
  tb_iald <|
  tb_ic (fun x y => y < x) (t_L_might_74) <|
  tb_iload 7 <|
  tb_if (fun x => x < 0) (t_L_might_54) <|
  tb_iload 7 <|
  tb_iload 6 <|
  tb_ic (fun x y => x ≠ y) (t_L_might_74) <|
  t_L_might_54
def h_L_might : am_Hd := fun h => if h = 0 then t_L_might_0 else tb_bad
theorem h_L_might_0 : h_L_might 0 = t_L_might_0 := rfl
def rm_L_might : Room := { frames := 3, cells := 0, slots := 0, locals := 76 }
def sp_L_might : am_sp := fun as M Q => as.length ≤ 8 ∧ am_OK h_L_might Q 0 (am_in 8 as) M
theorem s_L_might_75 {G : am_G} {bc bs : Nat} (X : am_Cx G cL_might RL "might" rm_L_might (some .boolean) 8 bc bs true) : am_S G 75 (t_L_might_75) := by
  unfold t_L_might_75
  exact as_zret (pc := 75) X ⟨rfl, rfl⟩ rfl dL_might_75
theorem s_L_might_74 {G : am_G} {bc bs : Nat} (X : am_Cx G cL_might RL "might" rm_L_might (some .boolean) 8 bc bs true) : am_S G 74 (t_L_might_74) := by
  unfold t_L_might_74
  refine as_iconst (pc := 74) X dL_might_74 (by decide) ?_
  exact s_L_might_75 X
theorem s_L_might_54 {G : am_G} {bc bs : Nat} (X : am_Cx G cL_might RL "might" rm_L_might (some .boolean) 8 bc bs true) : am_S G 54 (t_L_might_54) := by
  unfold t_L_might_54
  refine as_aload_n (pc := 54) X dL_might_54 rfl ?_
  refine as_aload_n (pc := 55) X dL_might_55 rfl ?_
  refine as_aload_n (pc := 56) X dL_might_56 rfl ?_
  refine as_iload (pc := 57) X dL_might_57 ?_
  refine as_iload (pc := 59) X dL_might_59 ?_
  refine as_callS (np := 5) (ix := 27) (pc := 61) X ct_L_score ⟨rfl, rfl⟩ aw_550 aw_551 aw_552 aw_16 (by decide +kernel) (by decide) dL_might_61 ?_
  refine as_aload_n (pc := 64) X dL_might_64 rfl ?_
  refine as_iconst (pc := 65) X dL_might_65 (by decide) ?_
  refine as_iald (pc := 66) X dL_might_66 ?_
  refine as_ic_lt (pc := 67) X 74 dL_might_67 (by decide) (s_L_might_74 X) ?_
  refine as_iconst (pc := 70) X dL_might_70 (by decide) ?_
  exact as_goto (pc := 71) X 75 dL_might_71 (by decide) (s_L_might_75 X)
theorem s_L_might_0 {G : am_G} {bc bs : Nat} (X : am_Cx G cL_might RL "might" rm_L_might (some .boolean) 8 bc bs true) : am_S G 0 (t_L_might_0) := by
  unfold t_L_might_0
  refine as_aload_n (pc := 0) X dL_might_0 rfl ?_
  refine as_aload_n (pc := 1) X dL_might_1 rfl ?_
  refine as_iconst (pc := 2) X dL_might_2 (by decide) ?_
  refine as_iload (pc := 3) X dL_might_3 ?_
  refine as_iload (pc := 5) X dL_might_5 ?_
  refine as_callS (np := 5) (ix := 19) (pc := 7) X ct_L_told ⟨rfl, rfl⟩ aw_483 aw_484 aw_485 aw_16 (by decide +kernel) (by decide) dL_might_7 ?_
  refine as_istore (pc := 10) X dL_might_10 ?_ (by decide)
  refine as_aload_n (pc := 12) X dL_might_12 rfl ?_
  refine as_iload (pc := 13) X dL_might_13 ?_
  refine as_iload (pc := 15) X dL_might_15 ?_
  refine as_callS (np := 3) (ix := 23) (pc := 17) X ct_L_ahead ⟨rfl, rfl⟩ aw_480 aw_481 aw_482 aw_16 (by decide +kernel) (by decide) dL_might_17 ?_
  refine as_if_eq (pc := 20) X 74 dL_might_20 (by decide) (s_L_might_74 X) ?_
  refine as_aload_n (pc := 23) X dL_might_23 rfl ?_
  refine as_iconst (pc := 24) X dL_might_24 (by decide) ?_
  refine as_iload (pc := 25) X dL_might_25 ?_
  refine as_imul (pc := 27) X dL_might_27 ?_
  refine as_iald (pc := 28) X dL_might_28 ?_
  refine as_aload_n (pc := 29) X dL_might_29 rfl ?_
  refine as_iconst (pc := 30) X dL_might_30 (by decide) ?_
  refine as_iload (pc := 31) X dL_might_31 ?_
  refine as_imul (pc := 33) X dL_might_33 ?_
  refine as_iald (pc := 34) X dL_might_34 ?_
  refine as_isub (pc := 35) X dL_might_35 ?_
  refine as_aload_n (pc := 36) X dL_might_36 rfl ?_
  refine as_iconst (pc := 37) X dL_might_37 (by decide) ?_
  refine as_iald (pc := 38) X dL_might_38 ?_
  refine as_ic_gt (pc := 39) X 74 dL_might_39 (by decide) (s_L_might_74 X) ?_
  refine as_iload (pc := 42) X dL_might_42 ?_
  refine as_if_lt (pc := 44) X 54 dL_might_44 (by decide) (s_L_might_54 X) ?_
  refine as_iload (pc := 47) X dL_might_47 ?_
  refine as_iload (pc := 49) X dL_might_49 ?_
  refine as_ic_ne (pc := 51) X 74 dL_might_51 (by decide) (s_L_might_74 X) ?_
  exact s_L_might_54 X
theorem s_L_might {G : am_G} {bc bs : Nat} (X : am_Cx G cL_might RL "might" rm_L_might (some .boolean) 8 bc bs true) (h : Nat) : am_S G h (h_L_might h) := by
  unfold h_L_might
  split
  · next e => rw [e]; exact s_L_might_0 X
  exact as_bad
theorem ct_L_might : am_Ct yL_might cL_might 8 (some .boolean) rm_L_might sp_L_might := am_met (own := RL) (nm := "might") (by decide) rfl rfl (Or.inr (Or.inr (Or.inl rfl))) (fun _ _ => h_L_might) (fun _ _ _ X => s_L_might X) (fun _ _ _ _ h => h)
-- L_answer
theorem dL_answer_0 : decode cL_answer 0 = .ok (.aload_n 0, 1) := by decide +kernel
theorem dL_answer_1 : decode cL_answer 1 = .ok (.aload_n 3, 1) := by decide +kernel
theorem dL_answer_2 : decode cL_answer 2 = .ok (.iload 4, 2) := by decide +kernel
theorem dL_answer_4 : decode cL_answer 4 = .ok (.invokestatic 31, 3) := by decide +kernel
theorem dL_answer_7 : decode cL_answer 7 = .ok (.istore 6, 2) := by decide +kernel
theorem dL_answer_9 : decode cL_answer 9 = .ok (.iload 6, 2) := by decide +kernel
theorem dL_answer_11 : decode cL_answer 11 = .ok (.ifCond .lt 26, 3) := by decide +kernel
theorem dL_answer_14 : decode cL_answer 14 = .ok (.aload_n 3, 1) := by decide +kernel
theorem dL_answer_15 : decode cL_answer 15 = .ok (.iconst 3, 1) := by decide +kernel
theorem dL_answer_16 : decode cL_answer 16 = .ok (.iload 6, 2) := by decide +kernel
theorem dL_answer_18 : decode cL_answer 18 = .ok (.imul, 1) := by decide +kernel
theorem dL_answer_19 : decode cL_answer 19 = .ok (.iaload, 1) := by decide +kernel
theorem dL_answer_20 : decode cL_answer 20 = .ok (.ifCond .ne 8, 3) := by decide +kernel
theorem dL_answer_23 : decode cL_answer 23 = .ok (.bipush (-4), 2) := by decide +kernel
theorem dL_answer_25 : decode cL_answer 25 = .ok (.goto 11, 3) := by decide +kernel
theorem dL_answer_28 : decode cL_answer 28 = .ok (.aload_n 3, 1) := by decide +kernel
theorem dL_answer_29 : decode cL_answer 29 = .ok (.iconst 3, 1) := by decide +kernel
theorem dL_answer_30 : decode cL_answer 30 = .ok (.iload 6, 2) := by decide +kernel
theorem dL_answer_32 : decode cL_answer 32 = .ok (.imul, 1) := by decide +kernel
theorem dL_answer_33 : decode cL_answer 33 = .ok (.iconst 2, 1) := by decide +kernel
theorem dL_answer_34 : decode cL_answer 34 = .ok (.iadd, 1) := by decide +kernel
theorem dL_answer_35 : decode cL_answer 35 = .ok (.iaload, 1) := by decide +kernel
theorem dL_answer_36 : decode cL_answer 36 = .ok (.ireturn, 1) := by decide +kernel
theorem dL_answer_37 : decode cL_answer 37 = .ok (.bipush (-4), 2) := by decide +kernel
theorem dL_answer_39 : decode cL_answer 39 = .ok (.istore 7, 2) := by decide +kernel
theorem dL_answer_41 : decode cL_answer 41 = .ok (.iconst 0, 1) := by decide +kernel
theorem dL_answer_42 : decode cL_answer 42 = .ok (.istore 8, 2) := by decide +kernel
theorem dL_answer_44 : decode cL_answer 44 = .ok (.iload 8, 2) := by decide +kernel
theorem dL_answer_46 : decode cL_answer 46 = .ok (.aload_n 0, 1) := by decide +kernel
theorem dL_answer_47 : decode cL_answer 47 = .ok (.bipush 9, 2) := by decide +kernel
theorem dL_answer_49 : decode cL_answer 49 = .ok (.iaload, 1) := by decide +kernel
theorem dL_answer_50 : decode cL_answer 50 = .ok (.if_icmp .ge 87, 3) := by decide +kernel
theorem dL_answer_53 : decode cL_answer 53 = .ok (.aload_n 0, 1) := by decide +kernel
theorem dL_answer_54 : decode cL_answer 54 = .ok (.aload_n 1, 1) := by decide +kernel
theorem dL_answer_55 : decode cL_answer 55 = .ok (.aload_n 2, 1) := by decide +kernel
theorem dL_answer_56 : decode cL_answer 56 = .ok (.aload_n 3, 1) := by decide +kernel
theorem dL_answer_57 : decode cL_answer 57 = .ok (.iload 4, 2) := by decide +kernel
theorem dL_answer_59 : decode cL_answer 59 = .ok (.iload 8, 2) := by decide +kernel
theorem dL_answer_61 : decode cL_answer 61 = .ok (.iload 5, 2) := by decide +kernel
theorem dL_answer_63 : decode cL_answer 63 = .ok (.invokestatic 35, 3) := by decide +kernel
theorem dL_answer_66 : decode cL_answer 66 = .ok (.ifCond .eq 65, 3) := by decide +kernel
theorem dL_answer_69 : decode cL_answer 69 = .ok (.iload 7, 2) := by decide +kernel
theorem dL_answer_71 : decode cL_answer 71 = .ok (.ifCond .ge 7, 3) := by decide +kernel
theorem dL_answer_74 : decode cL_answer 74 = .ok (.iconst 1, 1) := by decide +kernel
theorem dL_answer_75 : decode cL_answer 75 = .ok (.goto 24, 3) := by decide +kernel
theorem dL_answer_78 : decode cL_answer 78 = .ok (.aload_n 0, 1) := by decide +kernel
theorem dL_answer_79 : decode cL_answer 79 = .ok (.aload_n 1, 1) := by decide +kernel
theorem dL_answer_80 : decode cL_answer 80 = .ok (.aload_n 2, 1) := by decide +kernel
theorem dL_answer_81 : decode cL_answer 81 = .ok (.iload 4, 2) := by decide +kernel
theorem dL_answer_83 : decode cL_answer 83 = .ok (.iload 8, 2) := by decide +kernel
theorem dL_answer_85 : decode cL_answer 85 = .ok (.invokestatic 27, 3) := by decide +kernel
theorem dL_answer_88 : decode cL_answer 88 = .ok (.aload_n 0, 1) := by decide +kernel
theorem dL_answer_89 : decode cL_answer 89 = .ok (.aload_n 1, 1) := by decide +kernel
theorem dL_answer_90 : decode cL_answer 90 = .ok (.aload_n 2, 1) := by decide +kernel
theorem dL_answer_91 : decode cL_answer 91 = .ok (.iload 4, 2) := by decide +kernel
theorem dL_answer_93 : decode cL_answer 93 = .ok (.iload 7, 2) := by decide +kernel
theorem dL_answer_95 : decode cL_answer 95 = .ok (.invokestatic 27, 3) := by decide +kernel
theorem dL_answer_98 : decode cL_answer 98 = .ok (.isub, 1) := by decide +kernel
theorem dL_answer_99 : decode cL_answer 99 = .ok (.istore 9, 2) := by decide +kernel
theorem dL_answer_101 : decode cL_answer 101 = .ok (.iload 9, 2) := by decide +kernel
theorem dL_answer_103 : decode cL_answer 103 = .ok (.ifCond .gt 19, 3) := by decide +kernel
theorem dL_answer_106 : decode cL_answer 106 = .ok (.iload 9, 2) := by decide +kernel
theorem dL_answer_108 : decode cL_answer 108 = .ok (.ifCond .ne 19, 3) := by decide +kernel
theorem dL_answer_111 : decode cL_answer 111 = .ok (.aload_n 2, 1) := by decide +kernel
theorem dL_answer_112 : decode cL_answer 112 = .ok (.iload 7, 2) := by decide +kernel
theorem dL_answer_114 : decode cL_answer 114 = .ok (.iload 8, 2) := by decide +kernel
theorem dL_answer_116 : decode cL_answer 116 = .ok (.invokestatic 23, 3) := by decide +kernel
theorem dL_answer_119 : decode cL_answer 119 = .ok (.ifCond .eq 8, 3) := by decide +kernel
theorem dL_answer_122 : decode cL_answer 122 = .ok (.iload 8, 2) := by decide +kernel
theorem dL_answer_124 : decode cL_answer 124 = .ok (.goto 5, 3) := by decide +kernel
theorem dL_answer_127 : decode cL_answer 127 = .ok (.iload 7, 2) := by decide +kernel
theorem dL_answer_129 : decode cL_answer 129 = .ok (.istore 7, 2) := by decide +kernel
theorem dL_answer_131 : decode cL_answer 131 = .ok (.iinc 8 1, 3) := by decide +kernel
theorem dL_answer_134 : decode cL_answer 134 = .ok (.goto (-90), 3) := by decide +kernel
theorem dL_answer_137 : decode cL_answer 137 = .ok (.iload 7, 2) := by decide +kernel
theorem dL_answer_139 : decode cL_answer 139 = .ok (.ireturn, 1) := by decide +kernel
def t_L_answer_137 : am_T := tb_iload 7 <|
  tb_iret
def t_L_answer_131 : am_T := tb_iinc 8 1 <|
  tb_head 44
def t_L_answer_129 : am_T := tb_istore 7 <|
  t_L_answer_131
def t_L_answer_127 : am_T := tb_iload 7 <|
  t_L_answer_129
def t_L_answer_122 : am_T := tb_iload 8 <|
  t_L_answer_129
def t_L_answer_99 : am_T := tb_istore 9 <|
  tb_iload 9 <|
  tb_if (fun x => 0 < x) (t_L_answer_122) <|
  tb_iload 9 <|
  tb_if (fun x => x ≠ 0) (t_L_answer_127) <|
  tb_aload 2 <|
  tb_iload 7 <|
  tb_iload 8 <|
  tb_callS sp_L_ahead 3 <|
  tb_if (fun x => x = 0) (t_L_answer_127) <|
  t_L_answer_122
def t_L_answer_78 : am_T := tb_aload 0 <|
  tb_aload 1 <|
  tb_aload 2 <|
  tb_iload 4 <|
  tb_iload 8 <|
  tb_callS sp_L_score 5 <|
  tb_aload 0 <|
  tb_aload 1 <|
  tb_aload 2 <|
  tb_iload 4 <|
  tb_iload 7 <|
  tb_callS sp_L_score 5 <|
  tb_bin (fun x y => x - y) <|
  t_L_answer_99
def t_L_answer_44 : am_T := tb_iload 8 <|
  tb_aload 0 <|
  tb_const 9 <|
  tb_iald <|
  tb_ic (fun x y => y ≤ x) (t_L_answer_137) <|
  tb_aload 0 <|
  tb_aload 1 <|
  tb_aload 2 <|
  tb_aload 3 <|
  tb_iload 4 <|
  tb_iload 8 <|
  tb_iload 5 <|
  tb_callS sp_L_might 7 <|
  tb_if (fun x => x = 0) (t_L_answer_131) <|
  tb_iload 7 <|
  tb_if (fun x => 0 ≤ x) (t_L_answer_78) <|
  tb_const 1 <|
  t_L_answer_99
def t_L_answer_37 : am_T := tb_const (-4) <|
  tb_istore 7 <|
  tb_const 0 <|
  tb_istore 8 <|
  tb_head 44
def t_L_answer_36 : am_T := tb_iret
def t_L_answer_28 : am_T := tb_aload 3 <|
  tb_const 3 <|
  tb_iload 6 <|
  tb_bin (fun x y => x * y) <|
  tb_const 2 <|
  tb_bin (fun x y => x + y) <|
  tb_iald <|
  t_L_answer_36
def t_L_answer_0 : am_T := tb_aload 0 <|
  tb_aload 3 <|
  tb_iload 4 <|
  tb_callS sp_L_counts 3 <|
  tb_istore 6 <|
  tb_iload 6 <|
  tb_if (fun x => x < 0) (t_L_answer_37) <|
  tb_aload 3 <|
  tb_const 3 <|
  tb_iload 6 <|
  tb_bin (fun x y => x * y) <|
  tb_iald <|
  tb_if (fun x => x ≠ 0) (t_L_answer_28) <|
  tb_const (-4) <|
  t_L_answer_36
def h_L_answer : am_Hd := fun h => if h = 0 then t_L_answer_0 else if h = 44 then t_L_answer_44 else tb_bad
theorem h_L_answer_0 : h_L_answer 0 = t_L_answer_0 := rfl
theorem h_L_answer_44 : h_L_answer 44 = t_L_answer_44 := rfl
def rm_L_answer : Room := { frames := 4, cells := 0, slots := 0, locals := 103 }
def sp_L_answer : am_sp := fun as M Q => as.length ≤ 10 ∧ am_OK h_L_answer Q 0 (am_in 10 as) M
theorem s_L_answer_137 {G : am_G} {bc bs : Nat} (X : am_Cx G cL_answer RL "answer" rm_L_answer (some .int) 10 bc bs true) : am_S G 137 (t_L_answer_137) := by
  unfold t_L_answer_137
  refine as_iload (pc := 137) X dL_answer_137 ?_
  exact as_iret (pc := 139) X ⟨rfl, rfl⟩ rfl dL_answer_139
theorem s_L_answer_131 {G : am_G} {bc bs : Nat} (X : am_Cx G cL_answer RL "answer" rm_L_answer (some .int) 10 bc bs true) : am_S G 131 (t_L_answer_131) := by
  unfold t_L_answer_131
  refine as_iinc (pc := 131) X dL_answer_131 (by decide) (by decide) ?_
  exact as_goto (pc := 134) X 44 dL_answer_134 (by decide) (as_head)
theorem s_L_answer_129 {G : am_G} {bc bs : Nat} (X : am_Cx G cL_answer RL "answer" rm_L_answer (some .int) 10 bc bs true) : am_S G 129 (t_L_answer_129) := by
  unfold t_L_answer_129
  refine as_istore (pc := 129) X dL_answer_129 ?_ (by decide)
  exact s_L_answer_131 X
theorem s_L_answer_127 {G : am_G} {bc bs : Nat} (X : am_Cx G cL_answer RL "answer" rm_L_answer (some .int) 10 bc bs true) : am_S G 127 (t_L_answer_127) := by
  unfold t_L_answer_127
  refine as_iload (pc := 127) X dL_answer_127 ?_
  exact s_L_answer_129 X
theorem s_L_answer_122 {G : am_G} {bc bs : Nat} (X : am_Cx G cL_answer RL "answer" rm_L_answer (some .int) 10 bc bs true) : am_S G 122 (t_L_answer_122) := by
  unfold t_L_answer_122
  refine as_iload (pc := 122) X dL_answer_122 ?_
  exact as_goto (pc := 124) X 129 dL_answer_124 (by decide) (s_L_answer_129 X)
theorem s_L_answer_99 {G : am_G} {bc bs : Nat} (X : am_Cx G cL_answer RL "answer" rm_L_answer (some .int) 10 bc bs true) : am_S G 99 (t_L_answer_99) := by
  unfold t_L_answer_99
  refine as_istore (pc := 99) X dL_answer_99 ?_ (by decide)
  refine as_iload (pc := 101) X dL_answer_101 ?_
  refine as_if_gt (pc := 103) X 122 dL_answer_103 (by decide) (s_L_answer_122 X) ?_
  refine as_iload (pc := 106) X dL_answer_106 ?_
  refine as_if_ne (pc := 108) X 127 dL_answer_108 (by decide) (s_L_answer_127 X) ?_
  refine as_aload_n (pc := 111) X dL_answer_111 rfl ?_
  refine as_iload (pc := 112) X dL_answer_112 ?_
  refine as_iload (pc := 114) X dL_answer_114 ?_
  refine as_callS (np := 3) (ix := 23) (pc := 116) X ct_L_ahead ⟨rfl, rfl⟩ aw_480 aw_481 aw_482 aw_16 (by decide +kernel) (by decide) dL_answer_116 ?_
  refine as_if_eq (pc := 119) X 127 dL_answer_119 (by decide) (s_L_answer_127 X) ?_
  exact s_L_answer_122 X
theorem s_L_answer_78 {G : am_G} {bc bs : Nat} (X : am_Cx G cL_answer RL "answer" rm_L_answer (some .int) 10 bc bs true) : am_S G 78 (t_L_answer_78) := by
  unfold t_L_answer_78
  refine as_aload_n (pc := 78) X dL_answer_78 rfl ?_
  refine as_aload_n (pc := 79) X dL_answer_79 rfl ?_
  refine as_aload_n (pc := 80) X dL_answer_80 rfl ?_
  refine as_iload (pc := 81) X dL_answer_81 ?_
  refine as_iload (pc := 83) X dL_answer_83 ?_
  refine as_callS (np := 5) (ix := 27) (pc := 85) X ct_L_score ⟨rfl, rfl⟩ aw_550 aw_551 aw_552 aw_16 (by decide +kernel) (by decide) dL_answer_85 ?_
  refine as_aload_n (pc := 88) X dL_answer_88 rfl ?_
  refine as_aload_n (pc := 89) X dL_answer_89 rfl ?_
  refine as_aload_n (pc := 90) X dL_answer_90 rfl ?_
  refine as_iload (pc := 91) X dL_answer_91 ?_
  refine as_iload (pc := 93) X dL_answer_93 ?_
  refine as_callS (np := 5) (ix := 27) (pc := 95) X ct_L_score ⟨rfl, rfl⟩ aw_550 aw_551 aw_552 aw_16 (by decide +kernel) (by decide) dL_answer_95 ?_
  refine as_isub (pc := 98) X dL_answer_98 ?_
  exact s_L_answer_99 X
theorem s_L_answer_44 {G : am_G} {bc bs : Nat} (X : am_Cx G cL_answer RL "answer" rm_L_answer (some .int) 10 bc bs true) : am_S G 44 (t_L_answer_44) := by
  unfold t_L_answer_44
  refine as_iload (pc := 44) X dL_answer_44 ?_
  refine as_aload_n (pc := 46) X dL_answer_46 rfl ?_
  refine as_bipush (pc := 47) X dL_answer_47 (by decide) ?_
  refine as_iald (pc := 49) X dL_answer_49 ?_
  refine as_ic_ge (pc := 50) X 137 dL_answer_50 (by decide) (s_L_answer_137 X) ?_
  refine as_aload_n (pc := 53) X dL_answer_53 rfl ?_
  refine as_aload_n (pc := 54) X dL_answer_54 rfl ?_
  refine as_aload_n (pc := 55) X dL_answer_55 rfl ?_
  refine as_aload_n (pc := 56) X dL_answer_56 rfl ?_
  refine as_iload (pc := 57) X dL_answer_57 ?_
  refine as_iload (pc := 59) X dL_answer_59 ?_
  refine as_iload (pc := 61) X dL_answer_61 ?_
  refine as_callS (np := 7) (ix := 35) (pc := 63) X ct_L_might ⟨rfl, rfl⟩ aw_547 aw_548 aw_549 aw_16 (by decide +kernel) (by decide) dL_answer_63 ?_
  refine as_if_eq (pc := 66) X 131 dL_answer_66 (by decide) (s_L_answer_131 X) ?_
  refine as_iload (pc := 69) X dL_answer_69 ?_
  refine as_if_ge (pc := 71) X 78 dL_answer_71 (by decide) (s_L_answer_78 X) ?_
  refine as_iconst (pc := 74) X dL_answer_74 (by decide) ?_
  exact as_goto (pc := 75) X 99 dL_answer_75 (by decide) (s_L_answer_99 X)
theorem s_L_answer_37 {G : am_G} {bc bs : Nat} (X : am_Cx G cL_answer RL "answer" rm_L_answer (some .int) 10 bc bs true) : am_S G 37 (t_L_answer_37) := by
  unfold t_L_answer_37
  refine as_bipush (pc := 37) X dL_answer_37 (by decide) ?_
  refine as_istore (pc := 39) X dL_answer_39 ?_ (by decide)
  refine as_iconst (pc := 41) X dL_answer_41 (by decide) ?_
  refine as_istore (pc := 42) X dL_answer_42 ?_ (by decide)
  exact as_head
theorem s_L_answer_36 {G : am_G} {bc bs : Nat} (X : am_Cx G cL_answer RL "answer" rm_L_answer (some .int) 10 bc bs true) : am_S G 36 (t_L_answer_36) := by
  unfold t_L_answer_36
  exact as_iret (pc := 36) X ⟨rfl, rfl⟩ rfl dL_answer_36
theorem s_L_answer_28 {G : am_G} {bc bs : Nat} (X : am_Cx G cL_answer RL "answer" rm_L_answer (some .int) 10 bc bs true) : am_S G 28 (t_L_answer_28) := by
  unfold t_L_answer_28
  refine as_aload_n (pc := 28) X dL_answer_28 rfl ?_
  refine as_iconst (pc := 29) X dL_answer_29 (by decide) ?_
  refine as_iload (pc := 30) X dL_answer_30 ?_
  refine as_imul (pc := 32) X dL_answer_32 ?_
  refine as_iconst (pc := 33) X dL_answer_33 (by decide) ?_
  refine as_iadd (pc := 34) X dL_answer_34 ?_
  refine as_iald (pc := 35) X dL_answer_35 ?_
  exact s_L_answer_36 X
theorem s_L_answer_0 {G : am_G} {bc bs : Nat} (X : am_Cx G cL_answer RL "answer" rm_L_answer (some .int) 10 bc bs true) : am_S G 0 (t_L_answer_0) := by
  unfold t_L_answer_0
  refine as_aload_n (pc := 0) X dL_answer_0 rfl ?_
  refine as_aload_n (pc := 1) X dL_answer_1 rfl ?_
  refine as_iload (pc := 2) X dL_answer_2 ?_
  refine as_callS (np := 3) (ix := 31) (pc := 4) X ct_L_counts ⟨rfl, rfl⟩ aw_544 aw_545 aw_546 aw_16 (by decide +kernel) (by decide) dL_answer_4 ?_
  refine as_istore (pc := 7) X dL_answer_7 ?_ (by decide)
  refine as_iload (pc := 9) X dL_answer_9 ?_
  refine as_if_lt (pc := 11) X 37 dL_answer_11 (by decide) (s_L_answer_37 X) ?_
  refine as_aload_n (pc := 14) X dL_answer_14 rfl ?_
  refine as_iconst (pc := 15) X dL_answer_15 (by decide) ?_
  refine as_iload (pc := 16) X dL_answer_16 ?_
  refine as_imul (pc := 18) X dL_answer_18 ?_
  refine as_iald (pc := 19) X dL_answer_19 ?_
  refine as_if_ne (pc := 20) X 28 dL_answer_20 (by decide) (s_L_answer_28 X) ?_
  refine as_bipush (pc := 23) X dL_answer_23 (by decide) ?_
  exact as_goto (pc := 25) X 36 dL_answer_25 (by decide) (s_L_answer_36 X)
theorem s_L_answer {G : am_G} {bc bs : Nat} (X : am_Cx G cL_answer RL "answer" rm_L_answer (some .int) 10 bc bs true) (h : Nat) : am_S G h (h_L_answer h) := by
  unfold h_L_answer
  split
  · next e => rw [e]; exact s_L_answer_0 X
  split
  · next e => rw [e]; exact s_L_answer_44 X
  exact as_bad
theorem ct_L_answer : am_Ct yL_answer cL_answer 10 (some .int) rm_L_answer sp_L_answer := am_met (own := RL) (nm := "answer") (by decide) rfl rfl (Or.inr (Or.inl rfl)) (fun _ _ => h_L_answer) (fun _ _ _ X => s_L_answer X) (fun _ _ _ _ h => h)
-- L_lays
theorem dL_lays_0 : decode cL_lays 0 = .ok (.bipush 12, 2) := by decide +kernel
theorem dL_lays_2 : decode cL_lays 2 = .ok (.newarray .int, 2) := by decide +kernel
theorem dL_lays_4 : decode cL_lays 4 = .ok (.astore 7, 2) := by decide +kernel
theorem dL_lays_6 : decode cL_lays 6 = .ok (.bipush 12, 2) := by decide +kernel
theorem dL_lays_8 : decode cL_lays 8 = .ok (.newarray .int, 2) := by decide +kernel
theorem dL_lays_10 : decode cL_lays 10 = .ok (.astore 8, 2) := by decide +kernel
theorem dL_lays_12 : decode cL_lays 12 = .ok (.aload_n 0, 1) := by decide +kernel
theorem dL_lays_13 : decode cL_lays 13 = .ok (.aload_n 2, 1) := by decide +kernel
theorem dL_lays_14 : decode cL_lays 14 = .ok (.aload 7, 2) := by decide +kernel
theorem dL_lays_16 : decode cL_lays 16 = .ok (.invokestatic 39, 3) := by decide +kernel
theorem dL_lays_19 : decode cL_lays 19 = .ok (.iconst 0, 1) := by decide +kernel
theorem dL_lays_20 : decode cL_lays 20 = .ok (.istore 9, 2) := by decide +kernel
theorem dL_lays_22 : decode cL_lays 22 = .ok (.iload 9, 2) := by decide +kernel
theorem dL_lays_24 : decode cL_lays 24 = .ok (.aload_n 0, 1) := by decide +kernel
theorem dL_lays_25 : decode cL_lays 25 = .ok (.bipush 9, 2) := by decide +kernel
theorem dL_lays_27 : decode cL_lays 27 = .ok (.iaload, 1) := by decide +kernel
theorem dL_lays_28 : decode cL_lays 28 = .ok (.if_icmp .ge 310, 3) := by decide +kernel
theorem dL_lays_31 : decode cL_lays 31 = .ok (.aload 7, 2) := by decide +kernel
theorem dL_lays_33 : decode cL_lays 33 = .ok (.iload 9, 2) := by decide +kernel
theorem dL_lays_35 : decode cL_lays 35 = .ok (.iaload, 1) := by decide +kernel
theorem dL_lays_36 : decode cL_lays 36 = .ok (.istore 10, 2) := by decide +kernel
theorem dL_lays_38 : decode cL_lays 38 = .ok (.aload 4, 2) := by decide +kernel
theorem dL_lays_40 : decode cL_lays 40 = .ok (.iload 10, 2) := by decide +kernel
theorem dL_lays_42 : decode cL_lays 42 = .ok (.aload_n 0, 1) := by decide +kernel
theorem dL_lays_43 : decode cL_lays 43 = .ok (.aload_n 1, 1) := by decide +kernel
theorem dL_lays_44 : decode cL_lays 44 = .ok (.aload_n 2, 1) := by decide +kernel
theorem dL_lays_45 : decode cL_lays 45 = .ok (.aload_n 3, 1) := by decide +kernel
theorem dL_lays_46 : decode cL_lays 46 = .ok (.iload 10, 2) := by decide +kernel
theorem dL_lays_48 : decode cL_lays 48 = .ok (.iconst (-1), 1) := by decide +kernel
theorem dL_lays_49 : decode cL_lays 49 = .ok (.invokestatic 43, 3) := by decide +kernel
theorem dL_lays_52 : decode cL_lays 52 = .ok (.iastore, 1) := by decide +kernel
theorem dL_lays_53 : decode cL_lays 53 = .ok (.aload 6, 2) := by decide +kernel
theorem dL_lays_55 : decode cL_lays 55 = .ok (.iload 10, 2) := by decide +kernel
theorem dL_lays_57 : decode cL_lays 57 = .ok (.iconst 0, 1) := by decide +kernel
theorem dL_lays_58 : decode cL_lays 58 = .ok (.iastore, 1) := by decide +kernel
theorem dL_lays_59 : decode cL_lays 59 = .ok (.aload 8, 2) := by decide +kernel
theorem dL_lays_61 : decode cL_lays 61 = .ok (.iload 10, 2) := by decide +kernel
theorem dL_lays_63 : decode cL_lays 63 = .ok (.aload 4, 2) := by decide +kernel
theorem dL_lays_65 : decode cL_lays 65 = .ok (.iload 10, 2) := by decide +kernel
theorem dL_lays_67 : decode cL_lays 67 = .ok (.iaload, 1) := by decide +kernel
theorem dL_lays_68 : decode cL_lays 68 = .ok (.ifCond .ge 8, 3) := by decide +kernel
theorem dL_lays_71 : decode cL_lays 71 = .ok (.iload 10, 2) := by decide +kernel
theorem dL_lays_73 : decode cL_lays 73 = .ok (.goto 11, 3) := by decide +kernel
theorem dL_lays_76 : decode cL_lays 76 = .ok (.aload 8, 2) := by decide +kernel
theorem dL_lays_78 : decode cL_lays 78 = .ok (.aload 4, 2) := by decide +kernel
theorem dL_lays_80 : decode cL_lays 80 = .ok (.iload 10, 2) := by decide +kernel
theorem dL_lays_82 : decode cL_lays 82 = .ok (.iaload, 1) := by decide +kernel
theorem dL_lays_83 : decode cL_lays 83 = .ok (.iaload, 1) := by decide +kernel
theorem dL_lays_84 : decode cL_lays 84 = .ok (.iastore, 1) := by decide +kernel
theorem dL_lays_85 : decode cL_lays 85 = .ok (.iconst 0, 1) := by decide +kernel
theorem dL_lays_86 : decode cL_lays 86 = .ok (.istore 11, 2) := by decide +kernel
theorem dL_lays_88 : decode cL_lays 88 = .ok (.iload 11, 2) := by decide +kernel
theorem dL_lays_90 : decode cL_lays 90 = .ok (.iload 9, 2) := by decide +kernel
theorem dL_lays_92 : decode cL_lays 92 = .ok (.if_icmp .ge 240, 3) := by decide +kernel
theorem dL_lays_95 : decode cL_lays 95 = .ok (.aload 4, 2) := by decide +kernel
theorem dL_lays_97 : decode cL_lays 97 = .ok (.iload 10, 2) := by decide +kernel
theorem dL_lays_99 : decode cL_lays 99 = .ok (.iaload, 1) := by decide +kernel
theorem dL_lays_100 : decode cL_lays 100 = .ok (.ifCond .lt 232, 3) := by decide +kernel
theorem dL_lays_103 : decode cL_lays 103 = .ok (.aload_n 0, 1) := by decide +kernel
theorem dL_lays_104 : decode cL_lays 104 = .ok (.aload_n 3, 1) := by decide +kernel
theorem dL_lays_105 : decode cL_lays 105 = .ok (.iload 10, 2) := by decide +kernel
theorem dL_lays_107 : decode cL_lays 107 = .ok (.invokestatic 31, 3) := by decide +kernel
theorem dL_lays_110 : decode cL_lays 110 = .ok (.ifCond .ge 222, 3) := by decide +kernel
theorem dL_lays_113 : decode cL_lays 113 = .ok (.aload 7, 2) := by decide +kernel
theorem dL_lays_115 : decode cL_lays 115 = .ok (.iload 11, 2) := by decide +kernel
theorem dL_lays_117 : decode cL_lays 117 = .ok (.iaload, 1) := by decide +kernel
theorem dL_lays_118 : decode cL_lays 118 = .ok (.istore 12, 2) := by decide +kernel
theorem dL_lays_120 : decode cL_lays 120 = .ok (.aload_n 2, 1) := by decide +kernel
theorem dL_lays_121 : decode cL_lays 121 = .ok (.iconst 4, 1) := by decide +kernel
theorem dL_lays_122 : decode cL_lays 122 = .ok (.aload 4, 2) := by decide +kernel
theorem dL_lays_124 : decode cL_lays 124 = .ok (.iload 10, 2) := by decide +kernel
theorem dL_lays_126 : decode cL_lays 126 = .ok (.iaload, 1) := by decide +kernel
theorem dL_lays_127 : decode cL_lays 127 = .ok (.imul, 1) := by decide +kernel
theorem dL_lays_128 : decode cL_lays 128 = .ok (.iconst 1, 1) := by decide +kernel
theorem dL_lays_129 : decode cL_lays 129 = .ok (.iadd, 1) := by decide +kernel
theorem dL_lays_130 : decode cL_lays 130 = .ok (.iaload, 1) := by decide +kernel
theorem dL_lays_131 : decode cL_lays 131 = .ok (.istore 13, 2) := by decide +kernel
theorem dL_lays_133 : decode cL_lays 133 = .ok (.aload_n 2, 1) := by decide +kernel
theorem dL_lays_134 : decode cL_lays 134 = .ok (.iconst 4, 1) := by decide +kernel
theorem dL_lays_135 : decode cL_lays 135 = .ok (.iload 12, 2) := by decide +kernel
theorem dL_lays_137 : decode cL_lays 137 = .ok (.imul, 1) := by decide +kernel
theorem dL_lays_138 : decode cL_lays 138 = .ok (.iconst 1, 1) := by decide +kernel
theorem dL_lays_139 : decode cL_lays 139 = .ok (.iadd, 1) := by decide +kernel
theorem dL_lays_140 : decode cL_lays 140 = .ok (.iaload, 1) := by decide +kernel
theorem dL_lays_141 : decode cL_lays 141 = .ok (.istore 14, 2) := by decide +kernel
theorem dL_lays_143 : decode cL_lays 143 = .ok (.iload 12, 2) := by decide +kernel
theorem dL_lays_145 : decode cL_lays 145 = .ok (.aload 4, 2) := by decide +kernel
theorem dL_lays_147 : decode cL_lays 147 = .ok (.iload 10, 2) := by decide +kernel
theorem dL_lays_149 : decode cL_lays 149 = .ok (.iaload, 1) := by decide +kernel
theorem dL_lays_150 : decode cL_lays 150 = .ok (.if_icmp .eq 53, 3) := by decide +kernel
theorem dL_lays_153 : decode cL_lays 153 = .ok (.aload_n 0, 1) := by decide +kernel
theorem dL_lays_154 : decode cL_lays 154 = .ok (.aload_n 1, 1) := by decide +kernel
theorem dL_lays_155 : decode cL_lays 155 = .ok (.aload_n 2, 1) := by decide +kernel
theorem dL_lays_156 : decode cL_lays 156 = .ok (.aload_n 3, 1) := by decide +kernel
theorem dL_lays_157 : decode cL_lays 157 = .ok (.iload 10, 2) := by decide +kernel
theorem dL_lays_159 : decode cL_lays 159 = .ok (.iload 12, 2) := by decide +kernel
theorem dL_lays_161 : decode cL_lays 161 = .ok (.iconst (-1), 1) := by decide +kernel
theorem dL_lays_162 : decode cL_lays 162 = .ok (.invokestatic 35, 3) := by decide +kernel
theorem dL_lays_165 : decode cL_lays 165 = .ok (.ifCond .eq 38, 3) := by decide +kernel
theorem dL_lays_168 : decode cL_lays 168 = .ok (.aload_n 0, 1) := by decide +kernel
theorem dL_lays_169 : decode cL_lays 169 = .ok (.aload_n 1, 1) := by decide +kernel
theorem dL_lays_170 : decode cL_lays 170 = .ok (.aload_n 2, 1) := by decide +kernel
theorem dL_lays_171 : decode cL_lays 171 = .ok (.iload 10, 2) := by decide +kernel
theorem dL_lays_173 : decode cL_lays 173 = .ok (.aload 4, 2) := by decide +kernel
theorem dL_lays_175 : decode cL_lays 175 = .ok (.iload 10, 2) := by decide +kernel
theorem dL_lays_177 : decode cL_lays 177 = .ok (.iaload, 1) := by decide +kernel
theorem dL_lays_178 : decode cL_lays 178 = .ok (.invokestatic 27, 3) := by decide +kernel
theorem dL_lays_181 : decode cL_lays 181 = .ok (.aload_n 0, 1) := by decide +kernel
theorem dL_lays_182 : decode cL_lays 182 = .ok (.aload_n 1, 1) := by decide +kernel
theorem dL_lays_183 : decode cL_lays 183 = .ok (.aload_n 2, 1) := by decide +kernel
theorem dL_lays_184 : decode cL_lays 184 = .ok (.iload 10, 2) := by decide +kernel
theorem dL_lays_186 : decode cL_lays 186 = .ok (.iload 12, 2) := by decide +kernel
theorem dL_lays_188 : decode cL_lays 188 = .ok (.invokestatic 27, 3) := by decide +kernel
theorem dL_lays_191 : decode cL_lays 191 = .ok (.isub, 1) := by decide +kernel
theorem dL_lays_192 : decode cL_lays 192 = .ok (.aload_n 0, 1) := by decide +kernel
theorem dL_lays_193 : decode cL_lays 193 = .ok (.bipush 7, 2) := by decide +kernel
theorem dL_lays_195 : decode cL_lays 195 = .ok (.iaload, 1) := by decide +kernel
theorem dL_lays_196 : decode cL_lays 196 = .ok (.if_icmp .gt 7, 3) := by decide +kernel
theorem dL_lays_199 : decode cL_lays 199 = .ok (.iconst 1, 1) := by decide +kernel
theorem dL_lays_200 : decode cL_lays 200 = .ok (.goto 4, 3) := by decide +kernel
theorem dL_lays_203 : decode cL_lays 203 = .ok (.iconst 0, 1) := by decide +kernel
theorem dL_lays_204 : decode cL_lays 204 = .ok (.istore 15, 2) := by decide +kernel
theorem dL_lays_206 : decode cL_lays 206 = .ok (.iload 15, 2) := by decide +kernel
theorem dL_lays_208 : decode cL_lays 208 = .ok (.ifCond .eq 118, 3) := by decide +kernel
theorem dL_lays_211 : decode cL_lays 211 = .ok (.iload 13, 2) := by decide +kernel
theorem dL_lays_213 : decode cL_lays 213 = .ok (.iload 14, 2) := by decide +kernel
theorem dL_lays_215 : decode cL_lays 215 = .ok (.if_icmp .eq 111, 3) := by decide +kernel
theorem dL_lays_218 : decode cL_lays 218 = .ok (.aload_n 0, 1) := by decide +kernel
theorem dL_lays_219 : decode cL_lays 219 = .ok (.aload_n 1, 1) := by decide +kernel
theorem dL_lays_220 : decode cL_lays 220 = .ok (.aload_n 2, 1) := by decide +kernel
theorem dL_lays_221 : decode cL_lays 221 = .ok (.iload 10, 2) := by decide +kernel
theorem dL_lays_223 : decode cL_lays 223 = .ok (.iload 13, 2) := by decide +kernel
theorem dL_lays_225 : decode cL_lays 225 = .ok (.invokestatic 15, 3) := by decide +kernel
theorem dL_lays_228 : decode cL_lays 228 = .ok (.ifCond .eq 98, 3) := by decide +kernel
theorem dL_lays_231 : decode cL_lays 231 = .ok (.aload_n 0, 1) := by decide +kernel
theorem dL_lays_232 : decode cL_lays 232 = .ok (.aload_n 1, 1) := by decide +kernel
theorem dL_lays_233 : decode cL_lays 233 = .ok (.aload_n 2, 1) := by decide +kernel
theorem dL_lays_234 : decode cL_lays 234 = .ok (.iload 10, 2) := by decide +kernel
theorem dL_lays_236 : decode cL_lays 236 = .ok (.iload 14, 2) := by decide +kernel
theorem dL_lays_238 : decode cL_lays 238 = .ok (.invokestatic 15, 3) := by decide +kernel
theorem dL_lays_241 : decode cL_lays 241 = .ok (.ifCond .eq 85, 3) := by decide +kernel
theorem dL_lays_244 : decode cL_lays 244 = .ok (.aload 8, 2) := by decide +kernel
theorem dL_lays_246 : decode cL_lays 246 = .ok (.iload 12, 2) := by decide +kernel
theorem dL_lays_248 : decode cL_lays 248 = .ok (.iaload, 1) := by decide +kernel
theorem dL_lays_249 : decode cL_lays 249 = .ok (.aload 8, 2) := by decide +kernel
theorem dL_lays_251 : decode cL_lays 251 = .ok (.iload 10, 2) := by decide +kernel
theorem dL_lays_253 : decode cL_lays 253 = .ok (.iaload, 1) := by decide +kernel
theorem dL_lays_254 : decode cL_lays 254 = .ok (.if_icmp .eq 72, 3) := by decide +kernel
theorem dL_lays_257 : decode cL_lays 257 = .ok (.aload 8, 2) := by decide +kernel
theorem dL_lays_259 : decode cL_lays 259 = .ok (.iload 12, 2) := by decide +kernel
theorem dL_lays_261 : decode cL_lays 261 = .ok (.iaload, 1) := by decide +kernel
theorem dL_lays_262 : decode cL_lays 262 = .ok (.istore 16, 2) := by decide +kernel
theorem dL_lays_264 : decode cL_lays 264 = .ok (.iconst 0, 1) := by decide +kernel
theorem dL_lays_265 : decode cL_lays 265 = .ok (.istore 17, 2) := by decide +kernel
theorem dL_lays_267 : decode cL_lays 267 = .ok (.iload 17, 2) := by decide +kernel
theorem dL_lays_269 : decode cL_lays 269 = .ok (.iload 9, 2) := by decide +kernel
theorem dL_lays_271 : decode cL_lays 271 = .ok (.if_icmp .ge 46, 3) := by decide +kernel
theorem dL_lays_274 : decode cL_lays 274 = .ok (.aload 8, 2) := by decide +kernel
theorem dL_lays_276 : decode cL_lays 276 = .ok (.aload 7, 2) := by decide +kernel
theorem dL_lays_278 : decode cL_lays 278 = .ok (.iload 17, 2) := by decide +kernel
theorem dL_lays_280 : decode cL_lays 280 = .ok (.iaload, 1) := by decide +kernel
theorem dL_lays_281 : decode cL_lays 281 = .ok (.aload 8, 2) := by decide +kernel
theorem dL_lays_283 : decode cL_lays 283 = .ok (.aload 7, 2) := by decide +kernel
theorem dL_lays_285 : decode cL_lays 285 = .ok (.iload 17, 2) := by decide +kernel
theorem dL_lays_287 : decode cL_lays 287 = .ok (.iaload, 1) := by decide +kernel
theorem dL_lays_288 : decode cL_lays 288 = .ok (.iaload, 1) := by decide +kernel
theorem dL_lays_289 : decode cL_lays 289 = .ok (.iload 16, 2) := by decide +kernel
theorem dL_lays_291 : decode cL_lays 291 = .ok (.if_icmp .ne 11, 3) := by decide +kernel
theorem dL_lays_294 : decode cL_lays 294 = .ok (.aload 8, 2) := by decide +kernel
theorem dL_lays_296 : decode cL_lays 296 = .ok (.iload 10, 2) := by decide +kernel
theorem dL_lays_298 : decode cL_lays 298 = .ok (.iaload, 1) := by decide +kernel
theorem dL_lays_299 : decode cL_lays 299 = .ok (.goto 11, 3) := by decide +kernel
theorem dL_lays_302 : decode cL_lays 302 = .ok (.aload 8, 2) := by decide +kernel
theorem dL_lays_304 : decode cL_lays 304 = .ok (.aload 7, 2) := by decide +kernel
theorem dL_lays_306 : decode cL_lays 306 = .ok (.iload 17, 2) := by decide +kernel
theorem dL_lays_308 : decode cL_lays 308 = .ok (.iaload, 1) := by decide +kernel
theorem dL_lays_309 : decode cL_lays 309 = .ok (.iaload, 1) := by decide +kernel
theorem dL_lays_310 : decode cL_lays 310 = .ok (.iastore, 1) := by decide +kernel
theorem dL_lays_311 : decode cL_lays 311 = .ok (.iinc 17 1, 3) := by decide +kernel
theorem dL_lays_314 : decode cL_lays 314 = .ok (.goto (-47), 3) := by decide +kernel
theorem dL_lays_317 : decode cL_lays 317 = .ok (.aload 6, 2) := by decide +kernel
theorem dL_lays_319 : decode cL_lays 319 = .ok (.iload 10, 2) := by decide +kernel
theorem dL_lays_321 : decode cL_lays 321 = .ok (.dup2, 1) := by decide +kernel
theorem dL_lays_322 : decode cL_lays 322 = .ok (.iaload, 1) := by decide +kernel
theorem dL_lays_323 : decode cL_lays 323 = .ok (.iconst 1, 1) := by decide +kernel
theorem dL_lays_324 : decode cL_lays 324 = .ok (.iadd, 1) := by decide +kernel
theorem dL_lays_325 : decode cL_lays 325 = .ok (.iastore, 1) := by decide +kernel
theorem dL_lays_326 : decode cL_lays 326 = .ok (.iinc 11 1, 3) := by decide +kernel
theorem dL_lays_329 : decode cL_lays 329 = .ok (.goto (-241), 3) := by decide +kernel
theorem dL_lays_332 : decode cL_lays 332 = .ok (.iinc 9 1, 3) := by decide +kernel
theorem dL_lays_335 : decode cL_lays 335 = .ok (.goto (-313), 3) := by decide +kernel
theorem dL_lays_338 : decode cL_lays 338 = .ok (.iconst 0, 1) := by decide +kernel
theorem dL_lays_339 : decode cL_lays 339 = .ok (.istore 9, 2) := by decide +kernel
theorem dL_lays_341 : decode cL_lays 341 = .ok (.iconst 0, 1) := by decide +kernel
theorem dL_lays_342 : decode cL_lays 342 = .ok (.istore 10, 2) := by decide +kernel
theorem dL_lays_344 : decode cL_lays 344 = .ok (.iload 10, 2) := by decide +kernel
theorem dL_lays_346 : decode cL_lays 346 = .ok (.aload_n 0, 1) := by decide +kernel
theorem dL_lays_347 : decode cL_lays 347 = .ok (.bipush 9, 2) := by decide +kernel
theorem dL_lays_349 : decode cL_lays 349 = .ok (.iaload, 1) := by decide +kernel
theorem dL_lays_350 : decode cL_lays 350 = .ok (.if_icmp .ge 82, 3) := by decide +kernel
theorem dL_lays_353 : decode cL_lays 353 = .ok (.iconst 0, 1) := by decide +kernel
theorem dL_lays_354 : decode cL_lays 354 = .ok (.istore 11, 2) := by decide +kernel
theorem dL_lays_356 : decode cL_lays 356 = .ok (.aload 8, 2) := by decide +kernel
theorem dL_lays_358 : decode cL_lays 358 = .ok (.aload 7, 2) := by decide +kernel
theorem dL_lays_360 : decode cL_lays 360 = .ok (.iload 11, 2) := by decide +kernel
theorem dL_lays_362 : decode cL_lays 362 = .ok (.iaload, 1) := by decide +kernel
theorem dL_lays_363 : decode cL_lays 363 = .ok (.iaload, 1) := by decide +kernel
theorem dL_lays_364 : decode cL_lays 364 = .ok (.aload 8, 2) := by decide +kernel
theorem dL_lays_366 : decode cL_lays 366 = .ok (.aload 7, 2) := by decide +kernel
theorem dL_lays_368 : decode cL_lays 368 = .ok (.iload 10, 2) := by decide +kernel
theorem dL_lays_370 : decode cL_lays 370 = .ok (.iaload, 1) := by decide +kernel
theorem dL_lays_371 : decode cL_lays 371 = .ok (.iaload, 1) := by decide +kernel
theorem dL_lays_372 : decode cL_lays 372 = .ok (.if_icmp .eq 9, 3) := by decide +kernel
theorem dL_lays_375 : decode cL_lays 375 = .ok (.iinc 11 1, 3) := by decide +kernel
theorem dL_lays_378 : decode cL_lays 378 = .ok (.goto (-22), 3) := by decide +kernel
theorem dL_lays_381 : decode cL_lays 381 = .ok (.aload 5, 2) := by decide +kernel
theorem dL_lays_383 : decode cL_lays 383 = .ok (.aload 7, 2) := by decide +kernel
theorem dL_lays_385 : decode cL_lays 385 = .ok (.iload 10, 2) := by decide +kernel
theorem dL_lays_387 : decode cL_lays 387 = .ok (.iaload, 1) := by decide +kernel
theorem dL_lays_388 : decode cL_lays 388 = .ok (.iload 11, 2) := by decide +kernel
theorem dL_lays_390 : decode cL_lays 390 = .ok (.iload 10, 2) := by decide +kernel
theorem dL_lays_392 : decode cL_lays 392 = .ok (.if_icmp .ne 8, 3) := by decide +kernel
theorem dL_lays_395 : decode cL_lays 395 = .ok (.iload 9, 2) := by decide +kernel
theorem dL_lays_397 : decode cL_lays 397 = .ok (.goto 11, 3) := by decide +kernel
theorem dL_lays_400 : decode cL_lays 400 = .ok (.aload 5, 2) := by decide +kernel
theorem dL_lays_402 : decode cL_lays 402 = .ok (.aload 7, 2) := by decide +kernel
theorem dL_lays_404 : decode cL_lays 404 = .ok (.iload 11, 2) := by decide +kernel
theorem dL_lays_406 : decode cL_lays 406 = .ok (.iaload, 1) := by decide +kernel
theorem dL_lays_407 : decode cL_lays 407 = .ok (.iaload, 1) := by decide +kernel
theorem dL_lays_408 : decode cL_lays 408 = .ok (.iastore, 1) := by decide +kernel
theorem dL_lays_409 : decode cL_lays 409 = .ok (.iload 9, 2) := by decide +kernel
theorem dL_lays_411 : decode cL_lays 411 = .ok (.iload 11, 2) := by decide +kernel
theorem dL_lays_413 : decode cL_lays 413 = .ok (.iload 10, 2) := by decide +kernel
theorem dL_lays_415 : decode cL_lays 415 = .ok (.if_icmp .ne 7, 3) := by decide +kernel
theorem dL_lays_418 : decode cL_lays 418 = .ok (.iconst 1, 1) := by decide +kernel
theorem dL_lays_419 : decode cL_lays 419 = .ok (.goto 4, 3) := by decide +kernel
theorem dL_lays_422 : decode cL_lays 422 = .ok (.iconst 0, 1) := by decide +kernel
theorem dL_lays_423 : decode cL_lays 423 = .ok (.iadd, 1) := by decide +kernel
theorem dL_lays_424 : decode cL_lays 424 = .ok (.istore 9, 2) := by decide +kernel
theorem dL_lays_426 : decode cL_lays 426 = .ok (.iinc 10 1, 3) := by decide +kernel
theorem dL_lays_429 : decode cL_lays 429 = .ok (.goto (-85), 3) := by decide +kernel
theorem dL_lays_432 : decode cL_lays 432 = .ok (.iload 9, 2) := by decide +kernel
theorem dL_lays_434 : decode cL_lays 434 = .ok (.ireturn, 1) := by decide +kernel
def t_L_lays_432 (bc bs : Nat) : am_T := tb_iload 9 <|
  tb_iretA bc bs
def t_L_lays_423 (bc bs : Nat) : am_T := tb_bin (fun x y => x + y) <|
  tb_istore 9 <|
  tb_iinc 10 1 <|
  tb_head 344
def t_L_lays_422 (bc bs : Nat) : am_T := tb_const 0 <|
  t_L_lays_423 bc bs
def t_L_lays_408 (bc bs : Nat) : am_T := tb_iast <|
  tb_iload 9 <|
  tb_iload 11 <|
  tb_iload 10 <|
  tb_ic (fun x y => x ≠ y) (t_L_lays_422 bc bs) <|
  tb_const 1 <|
  t_L_lays_423 bc bs
def t_L_lays_400 (bc bs : Nat) : am_T := tb_aload 5 <|
  tb_aload 7 <|
  tb_iload 11 <|
  tb_iald <|
  tb_iald <|
  t_L_lays_408 bc bs
def t_L_lays_381 (bc bs : Nat) : am_T := tb_aload 5 <|
  tb_aload 7 <|
  tb_iload 10 <|
  tb_iald <|
  tb_iload 11 <|
  tb_iload 10 <|
  tb_ic (fun x y => x ≠ y) (t_L_lays_400 bc bs) <|
  tb_iload 9 <|
  t_L_lays_408 bc bs
def t_L_lays_356 (bc bs : Nat) : am_T := tb_aload 8 <|
  tb_aload 7 <|
  tb_iload 11 <|
  tb_iald <|
  tb_iald <|
  tb_aload 8 <|
  tb_aload 7 <|
  tb_iload 10 <|
  tb_iald <|
  tb_iald <|
  tb_ic (fun x y => x = y) (t_L_lays_381 bc bs) <|
  tb_iinc 11 1 <|
  tb_head 356
def t_L_lays_344 (bc bs : Nat) : am_T := tb_iload 10 <|
  tb_aload 0 <|
  tb_const 9 <|
  tb_iald <|
  tb_ic (fun x y => y ≤ x) (t_L_lays_432 bc bs) <|
  tb_const 0 <|
  tb_istore 11 <|
  tb_head 356
def t_L_lays_338 (bc bs : Nat) : am_T := tb_const 0 <|
  tb_istore 9 <|
  tb_const 0 <|
  tb_istore 10 <|
  tb_head 344
def t_L_lays_332 (bc bs : Nat) : am_T := tb_iinc 9 1 <|
  tb_head 22
def t_L_lays_326 (bc bs : Nat) : am_T := tb_iinc 11 1 <|
  tb_head 88
def t_L_lays_317 (bc bs : Nat) : am_T := tb_aload 6 <|
  tb_iload 10 <|
  tb_dup2 <|
  tb_iald <|
  tb_const 1 <|
  tb_bin (fun x y => x + y) <|
  tb_iast <|
  t_L_lays_326 bc bs
def t_L_lays_310 (bc bs : Nat) : am_T := tb_iast <|
  tb_iinc 17 1 <|
  tb_head 267
def t_L_lays_302 (bc bs : Nat) : am_T := tb_aload 8 <|
  tb_aload 7 <|
  tb_iload 17 <|
  tb_iald <|
  tb_iald <|
  t_L_lays_310 bc bs
def t_L_lays_267 (bc bs : Nat) : am_T := tb_iload 17 <|
  tb_iload 9 <|
  tb_ic (fun x y => y ≤ x) (t_L_lays_317 bc bs) <|
  tb_aload 8 <|
  tb_aload 7 <|
  tb_iload 17 <|
  tb_iald <|
  tb_aload 8 <|
  tb_aload 7 <|
  tb_iload 17 <|
  tb_iald <|
  tb_iald <|
  tb_iload 16 <|
  tb_ic (fun x y => x ≠ y) (t_L_lays_302 bc bs) <|
  tb_aload 8 <|
  tb_iload 10 <|
  tb_iald <|
  t_L_lays_310 bc bs
def t_L_lays_204 (bc bs : Nat) : am_T := tb_istore 15 <|
  tb_iload 15 <|
  tb_if (fun x => x = 0) (t_L_lays_326 bc bs) <|
  tb_iload 13 <|
  tb_iload 14 <|
  tb_ic (fun x y => x = y) (t_L_lays_326 bc bs) <|
  tb_aload 0 <|
  tb_aload 1 <|
  tb_aload 2 <|
  tb_iload 10 <|
  tb_iload 13 <|
  tb_callS sp_L_speaks 5 <|
  tb_if (fun x => x = 0) (t_L_lays_326 bc bs) <|
  tb_aload 0 <|
  tb_aload 1 <|
  tb_aload 2 <|
  tb_iload 10 <|
  tb_iload 14 <|
  tb_callS sp_L_speaks 5 <|
  tb_if (fun x => x = 0) (t_L_lays_326 bc bs) <|
  tb_aload 8 <|
  tb_iload 12 <|
  tb_iald <|
  tb_aload 8 <|
  tb_iload 10 <|
  tb_iald <|
  tb_ic (fun x y => x = y) (t_L_lays_326 bc bs) <|
  tb_aload 8 <|
  tb_iload 12 <|
  tb_iald <|
  tb_istore 16 <|
  tb_const 0 <|
  tb_istore 17 <|
  tb_head 267
def t_L_lays_203 (bc bs : Nat) : am_T := tb_const 0 <|
  t_L_lays_204 bc bs
def t_L_lays_88 (bc bs : Nat) : am_T := tb_iload 11 <|
  tb_iload 9 <|
  tb_ic (fun x y => y ≤ x) (t_L_lays_332 bc bs) <|
  tb_aload 4 <|
  tb_iload 10 <|
  tb_iald <|
  tb_if (fun x => x < 0) (t_L_lays_332 bc bs) <|
  tb_aload 0 <|
  tb_aload 3 <|
  tb_iload 10 <|
  tb_callS sp_L_counts 3 <|
  tb_if (fun x => 0 ≤ x) (t_L_lays_332 bc bs) <|
  tb_aload 7 <|
  tb_iload 11 <|
  tb_iald <|
  tb_istore 12 <|
  tb_aload 2 <|
  tb_const 4 <|
  tb_aload 4 <|
  tb_iload 10 <|
  tb_iald <|
  tb_bin (fun x y => x * y) <|
  tb_const 1 <|
  tb_bin (fun x y => x + y) <|
  tb_iald <|
  tb_istore 13 <|
  tb_aload 2 <|
  tb_const 4 <|
  tb_iload 12 <|
  tb_bin (fun x y => x * y) <|
  tb_const 1 <|
  tb_bin (fun x y => x + y) <|
  tb_iald <|
  tb_istore 14 <|
  tb_iload 12 <|
  tb_aload 4 <|
  tb_iload 10 <|
  tb_iald <|
  tb_ic (fun x y => x = y) (t_L_lays_203 bc bs) <|
  tb_aload 0 <|
  tb_aload 1 <|
  tb_aload 2 <|
  tb_aload 3 <|
  tb_iload 10 <|
  tb_iload 12 <|
  tb_const (-1) <|
  tb_callS sp_L_might 7 <|
  tb_if (fun x => x = 0) (t_L_lays_203 bc bs) <|
  tb_aload 0 <|
  tb_aload 1 <|
  tb_aload 2 <|
  tb_iload 10 <|
  tb_aload 4 <|
  tb_iload 10 <|
  tb_iald <|
  tb_callS sp_L_score 5 <|
  tb_aload 0 <|
  tb_aload 1 <|
  tb_aload 2 <|
  tb_iload 10 <|
  tb_iload 12 <|
  tb_callS sp_L_score 5 <|
  tb_bin (fun x y => x - y) <|
  tb_aload 0 <|
  tb_const 7 <|
  tb_iald <|
  tb_ic (fun x y => y < x) (t_L_lays_203 bc bs) <|
  tb_const 1 <|
  t_L_lays_204 bc bs
def t_L_lays_84 (bc bs : Nat) : am_T := tb_iast <|
  tb_const 0 <|
  tb_istore 11 <|
  tb_head 88
def t_L_lays_76 (bc bs : Nat) : am_T := tb_aload 8 <|
  tb_aload 4 <|
  tb_iload 10 <|
  tb_iald <|
  tb_iald <|
  t_L_lays_84 bc bs
def t_L_lays_22 (bc bs : Nat) : am_T := tb_iload 9 <|
  tb_aload 0 <|
  tb_const 9 <|
  tb_iald <|
  tb_ic (fun x y => y ≤ x) (t_L_lays_338 bc bs) <|
  tb_aload 7 <|
  tb_iload 9 <|
  tb_iald <|
  tb_istore 10 <|
  tb_aload 4 <|
  tb_iload 10 <|
  tb_aload 0 <|
  tb_aload 1 <|
  tb_aload 2 <|
  tb_aload 3 <|
  tb_iload 10 <|
  tb_const (-1) <|
  tb_callS sp_L_answer 6 <|
  tb_iast <|
  tb_aload 6 <|
  tb_iload 10 <|
  tb_const 0 <|
  tb_iast <|
  tb_aload 8 <|
  tb_iload 10 <|
  tb_aload 4 <|
  tb_iload 10 <|
  tb_iald <|
  tb_if (fun x => 0 ≤ x) (t_L_lays_76 bc bs) <|
  tb_iload 10 <|
  t_L_lays_84 bc bs
def t_L_lays_0 (bc bs : Nat) : am_T := tb_const 12 <|
  tb_newa bc bs 1 <|
  tb_astore 7 <|
  tb_const 12 <|
  tb_newa bc bs 1 <|
  tb_astore 8 <|
  tb_aload 0 <|
  tb_aload 2 <|
  tb_aload 7 <|
  tb_callS sp_L_orders 3 <|
  tb_const 0 <|
  tb_istore 9 <|
  tb_head 22
def h_L_lays (bc bs : Nat) : am_Hd := fun h => if h = 0 then t_L_lays_0 bc bs else if h = 22 then t_L_lays_22 bc bs else if h = 88 then t_L_lays_88 bc bs else if h = 267 then t_L_lays_267 bc bs else if h = 344 then t_L_lays_344 bc bs else if h = 356 then t_L_lays_356 bc bs else tb_bad
theorem h_L_lays_0 {bc bs : Nat} : h_L_lays bc bs 0 = t_L_lays_0 bc bs := rfl
theorem h_L_lays_22 {bc bs : Nat} : h_L_lays bc bs 22 = t_L_lays_22 bc bs := rfl
theorem h_L_lays_88 {bc bs : Nat} : h_L_lays bc bs 88 = t_L_lays_88 bc bs := rfl
theorem h_L_lays_267 {bc bs : Nat} : h_L_lays bc bs 267 = t_L_lays_267 bc bs := rfl
theorem h_L_lays_344 {bc bs : Nat} : h_L_lays bc bs 344 = t_L_lays_344 bc bs := rfl
theorem h_L_lays_356 {bc bs : Nat} : h_L_lays bc bs 356 = t_L_lays_356 bc bs := rfl
def rm_L_lays : Room := { frames := 5, cells := 2, slots := 24, locals := 132 }
def sp_L_lays : am_sp := fun as M Q => as.length ≤ 18 ∧ am_OK (h_L_lays (M.1.length + 2) (am_sz M.1 + 24)) Q 0 (am_in 18 as) M
theorem s_L_lays_432 {G : am_G} {bc bs : Nat} (X : am_Cx G cL_lays RL "lays" rm_L_lays (some .int) 18 bc bs true) : am_S G 432 (t_L_lays_432 bc bs) := by
  unfold t_L_lays_432
  refine as_iload (pc := 432) X dL_lays_432 ?_
  exact as_iretA (pc := 434) X rfl dL_lays_434
theorem s_L_lays_423 {G : am_G} {bc bs : Nat} (X : am_Cx G cL_lays RL "lays" rm_L_lays (some .int) 18 bc bs true) : am_S G 423 (t_L_lays_423 bc bs) := by
  unfold t_L_lays_423
  refine as_iadd (pc := 423) X dL_lays_423 ?_
  refine as_istore (pc := 424) X dL_lays_424 ?_ (by decide)
  refine as_iinc (pc := 426) X dL_lays_426 (by decide) (by decide) ?_
  exact as_goto (pc := 429) X 344 dL_lays_429 (by decide) (as_head)
theorem s_L_lays_422 {G : am_G} {bc bs : Nat} (X : am_Cx G cL_lays RL "lays" rm_L_lays (some .int) 18 bc bs true) : am_S G 422 (t_L_lays_422 bc bs) := by
  unfold t_L_lays_422
  refine as_iconst (pc := 422) X dL_lays_422 (by decide) ?_
  exact s_L_lays_423 X
theorem s_L_lays_408 {G : am_G} {bc bs : Nat} (X : am_Cx G cL_lays RL "lays" rm_L_lays (some .int) 18 bc bs true) : am_S G 408 (t_L_lays_408 bc bs) := by
  unfold t_L_lays_408
  refine as_iast (pc := 408) X dL_lays_408 ?_
  refine as_iload (pc := 409) X dL_lays_409 ?_
  refine as_iload (pc := 411) X dL_lays_411 ?_
  refine as_iload (pc := 413) X dL_lays_413 ?_
  refine as_ic_ne (pc := 415) X 422 dL_lays_415 (by decide) (s_L_lays_422 X) ?_
  refine as_iconst (pc := 418) X dL_lays_418 (by decide) ?_
  exact as_goto (pc := 419) X 423 dL_lays_419 (by decide) (s_L_lays_423 X)
theorem s_L_lays_400 {G : am_G} {bc bs : Nat} (X : am_Cx G cL_lays RL "lays" rm_L_lays (some .int) 18 bc bs true) : am_S G 400 (t_L_lays_400 bc bs) := by
  unfold t_L_lays_400
  refine as_aload (pc := 400) X dL_lays_400 ?_
  refine as_aload (pc := 402) X dL_lays_402 ?_
  refine as_iload (pc := 404) X dL_lays_404 ?_
  refine as_iald (pc := 406) X dL_lays_406 ?_
  refine as_iald (pc := 407) X dL_lays_407 ?_
  exact s_L_lays_408 X
theorem s_L_lays_381 {G : am_G} {bc bs : Nat} (X : am_Cx G cL_lays RL "lays" rm_L_lays (some .int) 18 bc bs true) : am_S G 381 (t_L_lays_381 bc bs) := by
  unfold t_L_lays_381
  refine as_aload (pc := 381) X dL_lays_381 ?_
  refine as_aload (pc := 383) X dL_lays_383 ?_
  refine as_iload (pc := 385) X dL_lays_385 ?_
  refine as_iald (pc := 387) X dL_lays_387 ?_
  refine as_iload (pc := 388) X dL_lays_388 ?_
  refine as_iload (pc := 390) X dL_lays_390 ?_
  refine as_ic_ne (pc := 392) X 400 dL_lays_392 (by decide) (s_L_lays_400 X) ?_
  refine as_iload (pc := 395) X dL_lays_395 ?_
  exact as_goto (pc := 397) X 408 dL_lays_397 (by decide) (s_L_lays_408 X)
theorem s_L_lays_356 {G : am_G} {bc bs : Nat} (X : am_Cx G cL_lays RL "lays" rm_L_lays (some .int) 18 bc bs true) : am_S G 356 (t_L_lays_356 bc bs) := by
  unfold t_L_lays_356
  refine as_aload (pc := 356) X dL_lays_356 ?_
  refine as_aload (pc := 358) X dL_lays_358 ?_
  refine as_iload (pc := 360) X dL_lays_360 ?_
  refine as_iald (pc := 362) X dL_lays_362 ?_
  refine as_iald (pc := 363) X dL_lays_363 ?_
  refine as_aload (pc := 364) X dL_lays_364 ?_
  refine as_aload (pc := 366) X dL_lays_366 ?_
  refine as_iload (pc := 368) X dL_lays_368 ?_
  refine as_iald (pc := 370) X dL_lays_370 ?_
  refine as_iald (pc := 371) X dL_lays_371 ?_
  refine as_ic_eq (pc := 372) X 381 dL_lays_372 (by decide) (s_L_lays_381 X) ?_
  refine as_iinc (pc := 375) X dL_lays_375 (by decide) (by decide) ?_
  exact as_goto (pc := 378) X 356 dL_lays_378 (by decide) (as_head)
theorem s_L_lays_344 {G : am_G} {bc bs : Nat} (X : am_Cx G cL_lays RL "lays" rm_L_lays (some .int) 18 bc bs true) : am_S G 344 (t_L_lays_344 bc bs) := by
  unfold t_L_lays_344
  refine as_iload (pc := 344) X dL_lays_344 ?_
  refine as_aload_n (pc := 346) X dL_lays_346 rfl ?_
  refine as_bipush (pc := 347) X dL_lays_347 (by decide) ?_
  refine as_iald (pc := 349) X dL_lays_349 ?_
  refine as_ic_ge (pc := 350) X 432 dL_lays_350 (by decide) (s_L_lays_432 X) ?_
  refine as_iconst (pc := 353) X dL_lays_353 (by decide) ?_
  refine as_istore (pc := 354) X dL_lays_354 ?_ (by decide)
  exact as_head
theorem s_L_lays_338 {G : am_G} {bc bs : Nat} (X : am_Cx G cL_lays RL "lays" rm_L_lays (some .int) 18 bc bs true) : am_S G 338 (t_L_lays_338 bc bs) := by
  unfold t_L_lays_338
  refine as_iconst (pc := 338) X dL_lays_338 (by decide) ?_
  refine as_istore (pc := 339) X dL_lays_339 ?_ (by decide)
  refine as_iconst (pc := 341) X dL_lays_341 (by decide) ?_
  refine as_istore (pc := 342) X dL_lays_342 ?_ (by decide)
  exact as_head
theorem s_L_lays_332 {G : am_G} {bc bs : Nat} (X : am_Cx G cL_lays RL "lays" rm_L_lays (some .int) 18 bc bs true) : am_S G 332 (t_L_lays_332 bc bs) := by
  unfold t_L_lays_332
  refine as_iinc (pc := 332) X dL_lays_332 (by decide) (by decide) ?_
  exact as_goto (pc := 335) X 22 dL_lays_335 (by decide) (as_head)
theorem s_L_lays_326 {G : am_G} {bc bs : Nat} (X : am_Cx G cL_lays RL "lays" rm_L_lays (some .int) 18 bc bs true) : am_S G 326 (t_L_lays_326 bc bs) := by
  unfold t_L_lays_326
  refine as_iinc (pc := 326) X dL_lays_326 (by decide) (by decide) ?_
  exact as_goto (pc := 329) X 88 dL_lays_329 (by decide) (as_head)
theorem s_L_lays_317 {G : am_G} {bc bs : Nat} (X : am_Cx G cL_lays RL "lays" rm_L_lays (some .int) 18 bc bs true) : am_S G 317 (t_L_lays_317 bc bs) := by
  unfold t_L_lays_317
  refine as_aload (pc := 317) X dL_lays_317 ?_
  refine as_iload (pc := 319) X dL_lays_319 ?_
  refine as_dup2 (pc := 321) X dL_lays_321 ?_
  refine as_iald (pc := 322) X dL_lays_322 ?_
  refine as_iconst (pc := 323) X dL_lays_323 (by decide) ?_
  refine as_iadd (pc := 324) X dL_lays_324 ?_
  refine as_iast (pc := 325) X dL_lays_325 ?_
  exact s_L_lays_326 X
theorem s_L_lays_310 {G : am_G} {bc bs : Nat} (X : am_Cx G cL_lays RL "lays" rm_L_lays (some .int) 18 bc bs true) : am_S G 310 (t_L_lays_310 bc bs) := by
  unfold t_L_lays_310
  refine as_iast (pc := 310) X dL_lays_310 ?_
  refine as_iinc (pc := 311) X dL_lays_311 (by decide) (by decide) ?_
  exact as_goto (pc := 314) X 267 dL_lays_314 (by decide) (as_head)
theorem s_L_lays_302 {G : am_G} {bc bs : Nat} (X : am_Cx G cL_lays RL "lays" rm_L_lays (some .int) 18 bc bs true) : am_S G 302 (t_L_lays_302 bc bs) := by
  unfold t_L_lays_302
  refine as_aload (pc := 302) X dL_lays_302 ?_
  refine as_aload (pc := 304) X dL_lays_304 ?_
  refine as_iload (pc := 306) X dL_lays_306 ?_
  refine as_iald (pc := 308) X dL_lays_308 ?_
  refine as_iald (pc := 309) X dL_lays_309 ?_
  exact s_L_lays_310 X
theorem s_L_lays_267 {G : am_G} {bc bs : Nat} (X : am_Cx G cL_lays RL "lays" rm_L_lays (some .int) 18 bc bs true) : am_S G 267 (t_L_lays_267 bc bs) := by
  unfold t_L_lays_267
  refine as_iload (pc := 267) X dL_lays_267 ?_
  refine as_iload (pc := 269) X dL_lays_269 ?_
  refine as_ic_ge (pc := 271) X 317 dL_lays_271 (by decide) (s_L_lays_317 X) ?_
  refine as_aload (pc := 274) X dL_lays_274 ?_
  refine as_aload (pc := 276) X dL_lays_276 ?_
  refine as_iload (pc := 278) X dL_lays_278 ?_
  refine as_iald (pc := 280) X dL_lays_280 ?_
  refine as_aload (pc := 281) X dL_lays_281 ?_
  refine as_aload (pc := 283) X dL_lays_283 ?_
  refine as_iload (pc := 285) X dL_lays_285 ?_
  refine as_iald (pc := 287) X dL_lays_287 ?_
  refine as_iald (pc := 288) X dL_lays_288 ?_
  refine as_iload (pc := 289) X dL_lays_289 ?_
  refine as_ic_ne (pc := 291) X 302 dL_lays_291 (by decide) (s_L_lays_302 X) ?_
  refine as_aload (pc := 294) X dL_lays_294 ?_
  refine as_iload (pc := 296) X dL_lays_296 ?_
  refine as_iald (pc := 298) X dL_lays_298 ?_
  exact as_goto (pc := 299) X 310 dL_lays_299 (by decide) (s_L_lays_310 X)
theorem s_L_lays_204 {G : am_G} {bc bs : Nat} (X : am_Cx G cL_lays RL "lays" rm_L_lays (some .int) 18 bc bs true) : am_S G 204 (t_L_lays_204 bc bs) := by
  unfold t_L_lays_204
  refine as_istore (pc := 204) X dL_lays_204 ?_ (by decide)
  refine as_iload (pc := 206) X dL_lays_206 ?_
  refine as_if_eq (pc := 208) X 326 dL_lays_208 (by decide) (s_L_lays_326 X) ?_
  refine as_iload (pc := 211) X dL_lays_211 ?_
  refine as_iload (pc := 213) X dL_lays_213 ?_
  refine as_ic_eq (pc := 215) X 326 dL_lays_215 (by decide) (s_L_lays_326 X) ?_
  refine as_aload_n (pc := 218) X dL_lays_218 rfl ?_
  refine as_aload_n (pc := 219) X dL_lays_219 rfl ?_
  refine as_aload_n (pc := 220) X dL_lays_220 rfl ?_
  refine as_iload (pc := 221) X dL_lays_221 ?_
  refine as_iload (pc := 223) X dL_lays_223 ?_
  refine as_callS (np := 5) (ix := 15) (pc := 225) X ct_L_speaks ⟨rfl, rfl⟩ aw_553 aw_554 aw_555 aw_16 (by decide +kernel) (by decide) dL_lays_225 ?_
  refine as_if_eq (pc := 228) X 326 dL_lays_228 (by decide) (s_L_lays_326 X) ?_
  refine as_aload_n (pc := 231) X dL_lays_231 rfl ?_
  refine as_aload_n (pc := 232) X dL_lays_232 rfl ?_
  refine as_aload_n (pc := 233) X dL_lays_233 rfl ?_
  refine as_iload (pc := 234) X dL_lays_234 ?_
  refine as_iload (pc := 236) X dL_lays_236 ?_
  refine as_callS (np := 5) (ix := 15) (pc := 238) X ct_L_speaks ⟨rfl, rfl⟩ aw_553 aw_554 aw_555 aw_16 (by decide +kernel) (by decide) dL_lays_238 ?_
  refine as_if_eq (pc := 241) X 326 dL_lays_241 (by decide) (s_L_lays_326 X) ?_
  refine as_aload (pc := 244) X dL_lays_244 ?_
  refine as_iload (pc := 246) X dL_lays_246 ?_
  refine as_iald (pc := 248) X dL_lays_248 ?_
  refine as_aload (pc := 249) X dL_lays_249 ?_
  refine as_iload (pc := 251) X dL_lays_251 ?_
  refine as_iald (pc := 253) X dL_lays_253 ?_
  refine as_ic_eq (pc := 254) X 326 dL_lays_254 (by decide) (s_L_lays_326 X) ?_
  refine as_aload (pc := 257) X dL_lays_257 ?_
  refine as_iload (pc := 259) X dL_lays_259 ?_
  refine as_iald (pc := 261) X dL_lays_261 ?_
  refine as_istore (pc := 262) X dL_lays_262 ?_ (by decide)
  refine as_iconst (pc := 264) X dL_lays_264 (by decide) ?_
  refine as_istore (pc := 265) X dL_lays_265 ?_ (by decide)
  exact as_head
theorem s_L_lays_203 {G : am_G} {bc bs : Nat} (X : am_Cx G cL_lays RL "lays" rm_L_lays (some .int) 18 bc bs true) : am_S G 203 (t_L_lays_203 bc bs) := by
  unfold t_L_lays_203
  refine as_iconst (pc := 203) X dL_lays_203 (by decide) ?_
  exact s_L_lays_204 X
theorem s_L_lays_88 {G : am_G} {bc bs : Nat} (X : am_Cx G cL_lays RL "lays" rm_L_lays (some .int) 18 bc bs true) : am_S G 88 (t_L_lays_88 bc bs) := by
  unfold t_L_lays_88
  refine as_iload (pc := 88) X dL_lays_88 ?_
  refine as_iload (pc := 90) X dL_lays_90 ?_
  refine as_ic_ge (pc := 92) X 332 dL_lays_92 (by decide) (s_L_lays_332 X) ?_
  refine as_aload (pc := 95) X dL_lays_95 ?_
  refine as_iload (pc := 97) X dL_lays_97 ?_
  refine as_iald (pc := 99) X dL_lays_99 ?_
  refine as_if_lt (pc := 100) X 332 dL_lays_100 (by decide) (s_L_lays_332 X) ?_
  refine as_aload_n (pc := 103) X dL_lays_103 rfl ?_
  refine as_aload_n (pc := 104) X dL_lays_104 rfl ?_
  refine as_iload (pc := 105) X dL_lays_105 ?_
  refine as_callS (np := 3) (ix := 31) (pc := 107) X ct_L_counts ⟨rfl, rfl⟩ aw_544 aw_545 aw_546 aw_16 (by decide +kernel) (by decide) dL_lays_107 ?_
  refine as_if_ge (pc := 110) X 332 dL_lays_110 (by decide) (s_L_lays_332 X) ?_
  refine as_aload (pc := 113) X dL_lays_113 ?_
  refine as_iload (pc := 115) X dL_lays_115 ?_
  refine as_iald (pc := 117) X dL_lays_117 ?_
  refine as_istore (pc := 118) X dL_lays_118 ?_ (by decide)
  refine as_aload_n (pc := 120) X dL_lays_120 rfl ?_
  refine as_iconst (pc := 121) X dL_lays_121 (by decide) ?_
  refine as_aload (pc := 122) X dL_lays_122 ?_
  refine as_iload (pc := 124) X dL_lays_124 ?_
  refine as_iald (pc := 126) X dL_lays_126 ?_
  refine as_imul (pc := 127) X dL_lays_127 ?_
  refine as_iconst (pc := 128) X dL_lays_128 (by decide) ?_
  refine as_iadd (pc := 129) X dL_lays_129 ?_
  refine as_iald (pc := 130) X dL_lays_130 ?_
  refine as_istore (pc := 131) X dL_lays_131 ?_ (by decide)
  refine as_aload_n (pc := 133) X dL_lays_133 rfl ?_
  refine as_iconst (pc := 134) X dL_lays_134 (by decide) ?_
  refine as_iload (pc := 135) X dL_lays_135 ?_
  refine as_imul (pc := 137) X dL_lays_137 ?_
  refine as_iconst (pc := 138) X dL_lays_138 (by decide) ?_
  refine as_iadd (pc := 139) X dL_lays_139 ?_
  refine as_iald (pc := 140) X dL_lays_140 ?_
  refine as_istore (pc := 141) X dL_lays_141 ?_ (by decide)
  refine as_iload (pc := 143) X dL_lays_143 ?_
  refine as_aload (pc := 145) X dL_lays_145 ?_
  refine as_iload (pc := 147) X dL_lays_147 ?_
  refine as_iald (pc := 149) X dL_lays_149 ?_
  refine as_ic_eq (pc := 150) X 203 dL_lays_150 (by decide) (s_L_lays_203 X) ?_
  refine as_aload_n (pc := 153) X dL_lays_153 rfl ?_
  refine as_aload_n (pc := 154) X dL_lays_154 rfl ?_
  refine as_aload_n (pc := 155) X dL_lays_155 rfl ?_
  refine as_aload_n (pc := 156) X dL_lays_156 rfl ?_
  refine as_iload (pc := 157) X dL_lays_157 ?_
  refine as_iload (pc := 159) X dL_lays_159 ?_
  refine as_iconst (pc := 161) X dL_lays_161 (by decide) ?_
  refine as_callS (np := 7) (ix := 35) (pc := 162) X ct_L_might ⟨rfl, rfl⟩ aw_547 aw_548 aw_549 aw_16 (by decide +kernel) (by decide) dL_lays_162 ?_
  refine as_if_eq (pc := 165) X 203 dL_lays_165 (by decide) (s_L_lays_203 X) ?_
  refine as_aload_n (pc := 168) X dL_lays_168 rfl ?_
  refine as_aload_n (pc := 169) X dL_lays_169 rfl ?_
  refine as_aload_n (pc := 170) X dL_lays_170 rfl ?_
  refine as_iload (pc := 171) X dL_lays_171 ?_
  refine as_aload (pc := 173) X dL_lays_173 ?_
  refine as_iload (pc := 175) X dL_lays_175 ?_
  refine as_iald (pc := 177) X dL_lays_177 ?_
  refine as_callS (np := 5) (ix := 27) (pc := 178) X ct_L_score ⟨rfl, rfl⟩ aw_550 aw_551 aw_552 aw_16 (by decide +kernel) (by decide) dL_lays_178 ?_
  refine as_aload_n (pc := 181) X dL_lays_181 rfl ?_
  refine as_aload_n (pc := 182) X dL_lays_182 rfl ?_
  refine as_aload_n (pc := 183) X dL_lays_183 rfl ?_
  refine as_iload (pc := 184) X dL_lays_184 ?_
  refine as_iload (pc := 186) X dL_lays_186 ?_
  refine as_callS (np := 5) (ix := 27) (pc := 188) X ct_L_score ⟨rfl, rfl⟩ aw_550 aw_551 aw_552 aw_16 (by decide +kernel) (by decide) dL_lays_188 ?_
  refine as_isub (pc := 191) X dL_lays_191 ?_
  refine as_aload_n (pc := 192) X dL_lays_192 rfl ?_
  refine as_bipush (pc := 193) X dL_lays_193 (by decide) ?_
  refine as_iald (pc := 195) X dL_lays_195 ?_
  refine as_ic_gt (pc := 196) X 203 dL_lays_196 (by decide) (s_L_lays_203 X) ?_
  refine as_iconst (pc := 199) X dL_lays_199 (by decide) ?_
  exact as_goto (pc := 200) X 204 dL_lays_200 (by decide) (s_L_lays_204 X)
theorem s_L_lays_84 {G : am_G} {bc bs : Nat} (X : am_Cx G cL_lays RL "lays" rm_L_lays (some .int) 18 bc bs true) : am_S G 84 (t_L_lays_84 bc bs) := by
  unfold t_L_lays_84
  refine as_iast (pc := 84) X dL_lays_84 ?_
  refine as_iconst (pc := 85) X dL_lays_85 (by decide) ?_
  refine as_istore (pc := 86) X dL_lays_86 ?_ (by decide)
  exact as_head
theorem s_L_lays_76 {G : am_G} {bc bs : Nat} (X : am_Cx G cL_lays RL "lays" rm_L_lays (some .int) 18 bc bs true) : am_S G 76 (t_L_lays_76 bc bs) := by
  unfold t_L_lays_76
  refine as_aload (pc := 76) X dL_lays_76 ?_
  refine as_aload (pc := 78) X dL_lays_78 ?_
  refine as_iload (pc := 80) X dL_lays_80 ?_
  refine as_iald (pc := 82) X dL_lays_82 ?_
  refine as_iald (pc := 83) X dL_lays_83 ?_
  exact s_L_lays_84 X
theorem s_L_lays_22 {G : am_G} {bc bs : Nat} (X : am_Cx G cL_lays RL "lays" rm_L_lays (some .int) 18 bc bs true) : am_S G 22 (t_L_lays_22 bc bs) := by
  unfold t_L_lays_22
  refine as_iload (pc := 22) X dL_lays_22 ?_
  refine as_aload_n (pc := 24) X dL_lays_24 rfl ?_
  refine as_bipush (pc := 25) X dL_lays_25 (by decide) ?_
  refine as_iald (pc := 27) X dL_lays_27 ?_
  refine as_ic_ge (pc := 28) X 338 dL_lays_28 (by decide) (s_L_lays_338 X) ?_
  refine as_aload (pc := 31) X dL_lays_31 ?_
  refine as_iload (pc := 33) X dL_lays_33 ?_
  refine as_iald (pc := 35) X dL_lays_35 ?_
  refine as_istore (pc := 36) X dL_lays_36 ?_ (by decide)
  refine as_aload (pc := 38) X dL_lays_38 ?_
  refine as_iload (pc := 40) X dL_lays_40 ?_
  refine as_aload_n (pc := 42) X dL_lays_42 rfl ?_
  refine as_aload_n (pc := 43) X dL_lays_43 rfl ?_
  refine as_aload_n (pc := 44) X dL_lays_44 rfl ?_
  refine as_aload_n (pc := 45) X dL_lays_45 rfl ?_
  refine as_iload (pc := 46) X dL_lays_46 ?_
  refine as_iconst (pc := 48) X dL_lays_48 (by decide) ?_
  refine as_callS (np := 6) (ix := 43) (pc := 49) X ct_L_answer ⟨rfl, rfl⟩ aw_541 aw_542 aw_543 aw_16 (by decide +kernel) (by decide) dL_lays_49 ?_
  refine as_iast (pc := 52) X dL_lays_52 ?_
  refine as_aload (pc := 53) X dL_lays_53 ?_
  refine as_iload (pc := 55) X dL_lays_55 ?_
  refine as_iconst (pc := 57) X dL_lays_57 (by decide) ?_
  refine as_iast (pc := 58) X dL_lays_58 ?_
  refine as_aload (pc := 59) X dL_lays_59 ?_
  refine as_iload (pc := 61) X dL_lays_61 ?_
  refine as_aload (pc := 63) X dL_lays_63 ?_
  refine as_iload (pc := 65) X dL_lays_65 ?_
  refine as_iald (pc := 67) X dL_lays_67 ?_
  refine as_if_ge (pc := 68) X 76 dL_lays_68 (by decide) (s_L_lays_76 X) ?_
  refine as_iload (pc := 71) X dL_lays_71 ?_
  exact as_goto (pc := 73) X 84 dL_lays_73 (by decide) (s_L_lays_84 X)
theorem s_L_lays_0 {G : am_G} {bc bs : Nat} (X : am_Cx G cL_lays RL "lays" rm_L_lays (some .int) 18 bc bs true) : am_S G 0 (t_L_lays_0 bc bs) := by
  unfold t_L_lays_0
  refine as_bipush (pc := 0) X dL_lays_0 (by decide) ?_
  refine as_newa1 (pc := 2) X aw_113 dL_lays_2 ?_
  refine as_astore (pc := 4) X dL_lays_4 ?_ (by decide)
  refine as_bipush (pc := 6) X dL_lays_6 (by decide) ?_
  refine as_newa1 (pc := 8) X aw_113 dL_lays_8 ?_
  refine as_astore (pc := 10) X dL_lays_10 ?_ (by decide)
  refine as_aload_n (pc := 12) X dL_lays_12 rfl ?_
  refine as_aload_n (pc := 13) X dL_lays_13 rfl ?_
  refine as_aload (pc := 14) X dL_lays_14 ?_
  refine as_callS (np := 3) (ix := 39) (pc := 16) X ct_L_orders ⟨rfl, rfl⟩ aw_538 aw_539 aw_540 aw_16 (by decide +kernel) (by decide) dL_lays_16 ?_
  refine as_iconst (pc := 19) X dL_lays_19 (by decide) ?_
  refine as_istore (pc := 20) X dL_lays_20 ?_ (by decide)
  exact as_head
theorem s_L_lays {G : am_G} {bc bs : Nat} (X : am_Cx G cL_lays RL "lays" rm_L_lays (some .int) 18 bc bs true) (h : Nat) : am_S G h (h_L_lays bc bs h) := by
  unfold h_L_lays
  split
  · next e => rw [e]; exact s_L_lays_0 X
  split
  · next e => rw [e]; exact s_L_lays_22 X
  split
  · next e => rw [e]; exact s_L_lays_88 X
  split
  · next e => rw [e]; exact s_L_lays_267 X
  split
  · next e => rw [e]; exact s_L_lays_344 X
  split
  · next e => rw [e]; exact s_L_lays_356 X
  exact as_bad
theorem ct_L_lays : am_Ct yL_lays cL_lays 18 (some .int) rm_L_lays sp_L_lays := am_met (own := RL) (nm := "lays") (by decide) rfl rfl (Or.inr (Or.inl rfl)) (fun bc bs => h_L_lays bc bs) (fun _ _ _ X => s_L_lays X) (fun _ _ _ _ h => h)
-- X3_putInOrder
theorem dX3_putInOrder_0 : decode cX3_putInOrder 0 = .ok (.iconst 0, 1) := by decide +kernel
theorem dX3_putInOrder_1 : decode cX3_putInOrder 1 = .ok (.istore_n 1, 1) := by decide +kernel
theorem dX3_putInOrder_2 : decode cX3_putInOrder 2 = .ok (.iload_n 1, 1) := by decide +kernel
theorem dX3_putInOrder_3 : decode cX3_putInOrder 3 = .ok (.aload_n 0, 1) := by decide +kernel
theorem dX3_putInOrder_4 : decode cX3_putInOrder 4 = .ok (.getfield 12, 3) := by decide +kernel
theorem dX3_putInOrder_7 : decode cX3_putInOrder 7 = .ok (.getfield 71, 3) := by decide +kernel
theorem dX3_putInOrder_10 : decode cX3_putInOrder 10 = .ok (.if_icmp .ge 70, 3) := by decide +kernel
theorem dX3_putInOrder_13 : decode cX3_putInOrder 13 = .ok (.iload_n 1, 1) := by decide +kernel
theorem dX3_putInOrder_14 : decode cX3_putInOrder 14 = .ok (.istore_n 2, 1) := by decide +kernel
theorem dX3_putInOrder_15 : decode cX3_putInOrder 15 = .ok (.iload_n 2, 1) := by decide +kernel
theorem dX3_putInOrder_16 : decode cX3_putInOrder 16 = .ok (.ifCond .le 51, 3) := by decide +kernel
theorem dX3_putInOrder_19 : decode cX3_putInOrder 19 = .ok (.aload_n 0, 1) := by decide +kernel
theorem dX3_putInOrder_20 : decode cX3_putInOrder 20 = .ok (.getfield 12, 3) := by decide +kernel
theorem dX3_putInOrder_23 : decode cX3_putInOrder 23 = .ok (.getfield 95, 3) := by decide +kernel
theorem dX3_putInOrder_26 : decode cX3_putInOrder 26 = .ok (.aload_n 0, 1) := by decide +kernel
theorem dX3_putInOrder_27 : decode cX3_putInOrder 27 = .ok (.getfield 18, 3) := by decide +kernel
theorem dX3_putInOrder_30 : decode cX3_putInOrder 30 = .ok (.iload_n 2, 1) := by decide +kernel
theorem dX3_putInOrder_31 : decode cX3_putInOrder 31 = .ok (.iconst 1, 1) := by decide +kernel
theorem dX3_putInOrder_32 : decode cX3_putInOrder 32 = .ok (.isub, 1) := by decide +kernel
theorem dX3_putInOrder_33 : decode cX3_putInOrder 33 = .ok (.iaload, 1) := by decide +kernel
theorem dX3_putInOrder_34 : decode cX3_putInOrder 34 = .ok (.iaload, 1) := by decide +kernel
theorem dX3_putInOrder_35 : decode cX3_putInOrder 35 = .ok (.aload_n 0, 1) := by decide +kernel
theorem dX3_putInOrder_36 : decode cX3_putInOrder 36 = .ok (.getfield 12, 3) := by decide +kernel
theorem dX3_putInOrder_39 : decode cX3_putInOrder 39 = .ok (.getfield 95, 3) := by decide +kernel
theorem dX3_putInOrder_42 : decode cX3_putInOrder 42 = .ok (.iload_n 1, 1) := by decide +kernel
theorem dX3_putInOrder_43 : decode cX3_putInOrder 43 = .ok (.iaload, 1) := by decide +kernel
theorem dX3_putInOrder_44 : decode cX3_putInOrder 44 = .ok (.if_icmp .le 23, 3) := by decide +kernel
theorem dX3_putInOrder_47 : decode cX3_putInOrder 47 = .ok (.aload_n 0, 1) := by decide +kernel
theorem dX3_putInOrder_48 : decode cX3_putInOrder 48 = .ok (.getfield 18, 3) := by decide +kernel
theorem dX3_putInOrder_51 : decode cX3_putInOrder 51 = .ok (.iload_n 2, 1) := by decide +kernel
theorem dX3_putInOrder_52 : decode cX3_putInOrder 52 = .ok (.aload_n 0, 1) := by decide +kernel
theorem dX3_putInOrder_53 : decode cX3_putInOrder 53 = .ok (.getfield 18, 3) := by decide +kernel
theorem dX3_putInOrder_56 : decode cX3_putInOrder 56 = .ok (.iload_n 2, 1) := by decide +kernel
theorem dX3_putInOrder_57 : decode cX3_putInOrder 57 = .ok (.iconst 1, 1) := by decide +kernel
theorem dX3_putInOrder_58 : decode cX3_putInOrder 58 = .ok (.isub, 1) := by decide +kernel
theorem dX3_putInOrder_59 : decode cX3_putInOrder 59 = .ok (.iaload, 1) := by decide +kernel
theorem dX3_putInOrder_60 : decode cX3_putInOrder 60 = .ok (.iastore, 1) := by decide +kernel
theorem dX3_putInOrder_61 : decode cX3_putInOrder 61 = .ok (.iinc 2 (-1), 3) := by decide +kernel
theorem dX3_putInOrder_64 : decode cX3_putInOrder 64 = .ok (.goto (-49), 3) := by decide +kernel
theorem dX3_putInOrder_67 : decode cX3_putInOrder 67 = .ok (.aload_n 0, 1) := by decide +kernel
theorem dX3_putInOrder_68 : decode cX3_putInOrder 68 = .ok (.getfield 18, 3) := by decide +kernel
theorem dX3_putInOrder_71 : decode cX3_putInOrder 71 = .ok (.iload_n 2, 1) := by decide +kernel
theorem dX3_putInOrder_72 : decode cX3_putInOrder 72 = .ok (.iload_n 1, 1) := by decide +kernel
theorem dX3_putInOrder_73 : decode cX3_putInOrder 73 = .ok (.iastore, 1) := by decide +kernel
theorem dX3_putInOrder_74 : decode cX3_putInOrder 74 = .ok (.iinc 1 1, 3) := by decide +kernel
theorem dX3_putInOrder_77 : decode cX3_putInOrder 77 = .ok (.goto (-75), 3) := by decide +kernel
theorem dX3_putInOrder_80 : decode cX3_putInOrder 80 = .ok (.iconst 0, 1) := by decide +kernel
theorem dX3_putInOrder_81 : decode cX3_putInOrder 81 = .ok (.istore_n 1, 1) := by decide +kernel
theorem dX3_putInOrder_82 : decode cX3_putInOrder 82 = .ok (.iload_n 1, 1) := by decide +kernel
theorem dX3_putInOrder_83 : decode cX3_putInOrder 83 = .ok (.aload_n 0, 1) := by decide +kernel
theorem dX3_putInOrder_84 : decode cX3_putInOrder 84 = .ok (.getfield 12, 3) := by decide +kernel
theorem dX3_putInOrder_87 : decode cX3_putInOrder 87 = .ok (.getfield 71, 3) := by decide +kernel
theorem dX3_putInOrder_90 : decode cX3_putInOrder 90 = .ok (.if_icmp .ge 21, 3) := by decide +kernel
theorem dX3_putInOrder_93 : decode cX3_putInOrder 93 = .ok (.aload_n 0, 1) := by decide +kernel
theorem dX3_putInOrder_94 : decode cX3_putInOrder 94 = .ok (.getfield 22, 3) := by decide +kernel
theorem dX3_putInOrder_97 : decode cX3_putInOrder 97 = .ok (.aload_n 0, 1) := by decide +kernel
theorem dX3_putInOrder_98 : decode cX3_putInOrder 98 = .ok (.getfield 18, 3) := by decide +kernel
theorem dX3_putInOrder_101 : decode cX3_putInOrder 101 = .ok (.iload_n 1, 1) := by decide +kernel
theorem dX3_putInOrder_102 : decode cX3_putInOrder 102 = .ok (.iaload, 1) := by decide +kernel
theorem dX3_putInOrder_103 : decode cX3_putInOrder 103 = .ok (.iload_n 1, 1) := by decide +kernel
theorem dX3_putInOrder_104 : decode cX3_putInOrder 104 = .ok (.iastore, 1) := by decide +kernel
theorem dX3_putInOrder_105 : decode cX3_putInOrder 105 = .ok (.iinc 1 1, 3) := by decide +kernel
theorem dX3_putInOrder_108 : decode cX3_putInOrder 108 = .ok (.goto (-26), 3) := by decide +kernel
theorem dX3_putInOrder_111 : decode cX3_putInOrder 111 = .ok (.return_, 1) := by decide +kernel
def t_X3_putInOrder_111 : am_T := tb_ret
def t_X3_putInOrder_82 : am_T := tb_iload 1 <|
  tb_aload 0 <|
  tb_getR 3 0 <|
  tb_getI 1 4 <|
  tb_ic (fun x y => y ≤ x) (t_X3_putInOrder_111) <|
  tb_aload 0 <|
  tb_getR 3 2 <|
  tb_aload 0 <|
  tb_getR 3 1 <|
  tb_iload 1 <|
  tb_iald <|
  tb_iload 1 <|
  tb_iast <|
  tb_iinc 1 1 <|
  tb_head 82
def t_X3_putInOrder_80 : am_T := tb_const 0 <|
  tb_istore 1 <|
  tb_head 82
def t_X3_putInOrder_67 : am_T := tb_aload 0 <|
  tb_getR 3 1 <|
  tb_iload 2 <|
  tb_iload 1 <|
  tb_iast <|
  tb_iinc 1 1 <|
  tb_head 2
def t_X3_putInOrder_15 : am_T := tb_iload 2 <|
  tb_if (fun x => x ≤ 0) (t_X3_putInOrder_67) <|
  tb_aload 0 <|
  tb_getR 3 0 <|
  tb_getR 1 5 <|
  tb_aload 0 <|
  tb_getR 3 1 <|
  tb_iload 2 <|
  tb_const 1 <|
  tb_bin (fun x y => x - y) <|
  tb_iald <|
  tb_iald <|
  tb_aload 0 <|
  tb_getR 3 0 <|
  tb_getR 1 5 <|
  tb_iload 1 <|
  tb_iald <|
  tb_ic (fun x y => x ≤ y) (t_X3_putInOrder_67) <|
  tb_aload 0 <|
  tb_getR 3 1 <|
  tb_iload 2 <|
  tb_aload 0 <|
  tb_getR 3 1 <|
  tb_iload 2 <|
  tb_const 1 <|
  tb_bin (fun x y => x - y) <|
  tb_iald <|
  tb_iast <|
  tb_iinc 2 (-1) <|
  tb_head 15
def t_X3_putInOrder_2 : am_T := tb_iload 1 <|
  tb_aload 0 <|
  tb_getR 3 0 <|
  tb_getI 1 4 <|
  tb_ic (fun x y => y ≤ x) (t_X3_putInOrder_80) <|
  tb_iload 1 <|
  tb_istore 2 <|
  tb_head 15
def t_X3_putInOrder_0 : am_T := tb_const 0 <|
  tb_istore 1 <|
  tb_head 2
def h_X3_putInOrder : am_Hd := fun h => if h = 0 then t_X3_putInOrder_0 else if h = 2 then t_X3_putInOrder_2 else if h = 15 then t_X3_putInOrder_15 else if h = 82 then t_X3_putInOrder_82 else tb_bad
theorem h_X3_putInOrder_0 : h_X3_putInOrder 0 = t_X3_putInOrder_0 := rfl
theorem h_X3_putInOrder_2 : h_X3_putInOrder 2 = t_X3_putInOrder_2 := rfl
theorem h_X3_putInOrder_15 : h_X3_putInOrder 15 = t_X3_putInOrder_15 := rfl
theorem h_X3_putInOrder_82 : h_X3_putInOrder 82 = t_X3_putInOrder_82 := rfl
def rm_X3_putInOrder : Room := { frames := 0, cells := 0, slots := 0, locals := 0 }
def sp_X3_putInOrder : am_sp := fun as M Q => as.length ≤ 3 ∧ am_OK h_X3_putInOrder Q 0 (am_in 3 as) M
theorem s_X3_putInOrder_111 {G : am_G} {bc bs : Nat} (X : am_Cx G cX3_putInOrder RX3 "putInOrder" rm_X3_putInOrder none 3 bc bs true) : am_S G 111 (t_X3_putInOrder_111) := by
  unfold t_X3_putInOrder_111
  exact as_ret (pc := 111) X ⟨rfl, rfl⟩ rfl dX3_putInOrder_111
theorem s_X3_putInOrder_82 {G : am_G} {bc bs : Nat} (X : am_Cx G cX3_putInOrder RX3 "putInOrder" rm_X3_putInOrder none 3 bc bs true) : am_S G 82 (t_X3_putInOrder_82) := by
  unfold t_X3_putInOrder_82
  refine as_iload_n (pc := 82) X dX3_putInOrder_82 rfl ?_
  refine as_aload_n (pc := 83) X dX3_putInOrder_83 rfl ?_
  refine as_getR (ci := 3) (j := 0) (pc := 84) X (Cn := RX3) (Tf := TX3) (N := 17) rfl rfl (by decide) iw_X3 aw_114 rfl dX3_putInOrder_84 ?_
  refine as_getI (ci := 1) (j := 4) (pc := 87) X (Cn := RX1) (Tf := TX1) (N := 14) rfl rfl (by decide) iw_X1 aw_56 rfl dX3_putInOrder_87 ?_
  refine as_ic_ge (pc := 90) X 111 dX3_putInOrder_90 (by decide) (s_X3_putInOrder_111 X) ?_
  refine as_aload_n (pc := 93) X dX3_putInOrder_93 rfl ?_
  refine as_getR (ci := 3) (j := 2) (pc := 94) X (Cn := RX3) (Tf := TX3) (N := 17) rfl rfl (by decide) iw_X3 aw_118 rfl dX3_putInOrder_94 ?_
  refine as_aload_n (pc := 97) X dX3_putInOrder_97 rfl ?_
  refine as_getR (ci := 3) (j := 1) (pc := 98) X (Cn := RX3) (Tf := TX3) (N := 17) rfl rfl (by decide) iw_X3 aw_116 rfl dX3_putInOrder_98 ?_
  refine as_iload_n (pc := 101) X dX3_putInOrder_101 rfl ?_
  refine as_iald (pc := 102) X dX3_putInOrder_102 ?_
  refine as_iload_n (pc := 103) X dX3_putInOrder_103 rfl ?_
  refine as_iast (pc := 104) X dX3_putInOrder_104 ?_
  refine as_iinc (pc := 105) X dX3_putInOrder_105 (by decide) (by decide) ?_
  exact as_goto (pc := 108) X 82 dX3_putInOrder_108 (by decide) (as_head)
theorem s_X3_putInOrder_80 {G : am_G} {bc bs : Nat} (X : am_Cx G cX3_putInOrder RX3 "putInOrder" rm_X3_putInOrder none 3 bc bs true) : am_S G 80 (t_X3_putInOrder_80) := by
  unfold t_X3_putInOrder_80
  refine as_iconst (pc := 80) X dX3_putInOrder_80 (by decide) ?_
  refine as_istore_n (pc := 81) X dX3_putInOrder_81 rfl ?_ (by decide)
  exact as_head
theorem s_X3_putInOrder_67 {G : am_G} {bc bs : Nat} (X : am_Cx G cX3_putInOrder RX3 "putInOrder" rm_X3_putInOrder none 3 bc bs true) : am_S G 67 (t_X3_putInOrder_67) := by
  unfold t_X3_putInOrder_67
  refine as_aload_n (pc := 67) X dX3_putInOrder_67 rfl ?_
  refine as_getR (ci := 3) (j := 1) (pc := 68) X (Cn := RX3) (Tf := TX3) (N := 17) rfl rfl (by decide) iw_X3 aw_116 rfl dX3_putInOrder_68 ?_
  refine as_iload_n (pc := 71) X dX3_putInOrder_71 rfl ?_
  refine as_iload_n (pc := 72) X dX3_putInOrder_72 rfl ?_
  refine as_iast (pc := 73) X dX3_putInOrder_73 ?_
  refine as_iinc (pc := 74) X dX3_putInOrder_74 (by decide) (by decide) ?_
  exact as_goto (pc := 77) X 2 dX3_putInOrder_77 (by decide) (as_head)
theorem s_X3_putInOrder_15 {G : am_G} {bc bs : Nat} (X : am_Cx G cX3_putInOrder RX3 "putInOrder" rm_X3_putInOrder none 3 bc bs true) : am_S G 15 (t_X3_putInOrder_15) := by
  unfold t_X3_putInOrder_15
  refine as_iload_n (pc := 15) X dX3_putInOrder_15 rfl ?_
  refine as_if_le (pc := 16) X 67 dX3_putInOrder_16 (by decide) (s_X3_putInOrder_67 X) ?_
  refine as_aload_n (pc := 19) X dX3_putInOrder_19 rfl ?_
  refine as_getR (ci := 3) (j := 0) (pc := 20) X (Cn := RX3) (Tf := TX3) (N := 17) rfl rfl (by decide) iw_X3 aw_114 rfl dX3_putInOrder_20 ?_
  refine as_getR (ci := 1) (j := 5) (pc := 23) X (Cn := RX1) (Tf := TX1) (N := 14) rfl rfl (by decide) iw_X1 aw_59 rfl dX3_putInOrder_23 ?_
  refine as_aload_n (pc := 26) X dX3_putInOrder_26 rfl ?_
  refine as_getR (ci := 3) (j := 1) (pc := 27) X (Cn := RX3) (Tf := TX3) (N := 17) rfl rfl (by decide) iw_X3 aw_116 rfl dX3_putInOrder_27 ?_
  refine as_iload_n (pc := 30) X dX3_putInOrder_30 rfl ?_
  refine as_iconst (pc := 31) X dX3_putInOrder_31 (by decide) ?_
  refine as_isub (pc := 32) X dX3_putInOrder_32 ?_
  refine as_iald (pc := 33) X dX3_putInOrder_33 ?_
  refine as_iald (pc := 34) X dX3_putInOrder_34 ?_
  refine as_aload_n (pc := 35) X dX3_putInOrder_35 rfl ?_
  refine as_getR (ci := 3) (j := 0) (pc := 36) X (Cn := RX3) (Tf := TX3) (N := 17) rfl rfl (by decide) iw_X3 aw_114 rfl dX3_putInOrder_36 ?_
  refine as_getR (ci := 1) (j := 5) (pc := 39) X (Cn := RX1) (Tf := TX1) (N := 14) rfl rfl (by decide) iw_X1 aw_59 rfl dX3_putInOrder_39 ?_
  refine as_iload_n (pc := 42) X dX3_putInOrder_42 rfl ?_
  refine as_iald (pc := 43) X dX3_putInOrder_43 ?_
  refine as_ic_le (pc := 44) X 67 dX3_putInOrder_44 (by decide) (s_X3_putInOrder_67 X) ?_
  refine as_aload_n (pc := 47) X dX3_putInOrder_47 rfl ?_
  refine as_getR (ci := 3) (j := 1) (pc := 48) X (Cn := RX3) (Tf := TX3) (N := 17) rfl rfl (by decide) iw_X3 aw_116 rfl dX3_putInOrder_48 ?_
  refine as_iload_n (pc := 51) X dX3_putInOrder_51 rfl ?_
  refine as_aload_n (pc := 52) X dX3_putInOrder_52 rfl ?_
  refine as_getR (ci := 3) (j := 1) (pc := 53) X (Cn := RX3) (Tf := TX3) (N := 17) rfl rfl (by decide) iw_X3 aw_116 rfl dX3_putInOrder_53 ?_
  refine as_iload_n (pc := 56) X dX3_putInOrder_56 rfl ?_
  refine as_iconst (pc := 57) X dX3_putInOrder_57 (by decide) ?_
  refine as_isub (pc := 58) X dX3_putInOrder_58 ?_
  refine as_iald (pc := 59) X dX3_putInOrder_59 ?_
  refine as_iast (pc := 60) X dX3_putInOrder_60 ?_
  refine as_iinc (pc := 61) X dX3_putInOrder_61 (by decide) (by decide) ?_
  exact as_goto (pc := 64) X 15 dX3_putInOrder_64 (by decide) (as_head)
theorem s_X3_putInOrder_2 {G : am_G} {bc bs : Nat} (X : am_Cx G cX3_putInOrder RX3 "putInOrder" rm_X3_putInOrder none 3 bc bs true) : am_S G 2 (t_X3_putInOrder_2) := by
  unfold t_X3_putInOrder_2
  refine as_iload_n (pc := 2) X dX3_putInOrder_2 rfl ?_
  refine as_aload_n (pc := 3) X dX3_putInOrder_3 rfl ?_
  refine as_getR (ci := 3) (j := 0) (pc := 4) X (Cn := RX3) (Tf := TX3) (N := 17) rfl rfl (by decide) iw_X3 aw_114 rfl dX3_putInOrder_4 ?_
  refine as_getI (ci := 1) (j := 4) (pc := 7) X (Cn := RX1) (Tf := TX1) (N := 14) rfl rfl (by decide) iw_X1 aw_56 rfl dX3_putInOrder_7 ?_
  refine as_ic_ge (pc := 10) X 80 dX3_putInOrder_10 (by decide) (s_X3_putInOrder_80 X) ?_
  refine as_iload_n (pc := 13) X dX3_putInOrder_13 rfl ?_
  refine as_istore_n (pc := 14) X dX3_putInOrder_14 rfl ?_ (by decide)
  exact as_head
theorem s_X3_putInOrder_0 {G : am_G} {bc bs : Nat} (X : am_Cx G cX3_putInOrder RX3 "putInOrder" rm_X3_putInOrder none 3 bc bs true) : am_S G 0 (t_X3_putInOrder_0) := by
  unfold t_X3_putInOrder_0
  refine as_iconst (pc := 0) X dX3_putInOrder_0 (by decide) ?_
  refine as_istore_n (pc := 1) X dX3_putInOrder_1 rfl ?_ (by decide)
  exact as_head
theorem s_X3_putInOrder {G : am_G} {bc bs : Nat} (X : am_Cx G cX3_putInOrder RX3 "putInOrder" rm_X3_putInOrder none 3 bc bs true) (h : Nat) : am_S G h (h_X3_putInOrder h) := by
  unfold h_X3_putInOrder
  split
  · next e => rw [e]; exact s_X3_putInOrder_0 X
  split
  · next e => rw [e]; exact s_X3_putInOrder_2 X
  split
  · next e => rw [e]; exact s_X3_putInOrder_15 X
  split
  · next e => rw [e]; exact s_X3_putInOrder_82 X
  exact as_bad
theorem ct_X3_putInOrder : am_Ct yX3_putInOrder cX3_putInOrder 3 none rm_X3_putInOrder sp_X3_putInOrder := am_met (own := RX3) (nm := "putInOrder") (by decide) rfl rfl (Or.inl rfl) (fun _ _ => h_X3_putInOrder) (fun _ _ _ X => s_X3_putInOrder X) (fun _ _ _ _ h => h)
-- X4_isIn
theorem dX4_isIn_0 : decode cX4_isIn 0 = .ok (.iload_n 0, 1) := by decide +kernel
theorem dX4_isIn_1 : decode cX4_isIn 1 = .ok (.iload_n 1, 1) := by decide +kernel
theorem dX4_isIn_2 : decode cX4_isIn 2 = .ok (.ishr, 1) := by decide +kernel
theorem dX4_isIn_3 : decode cX4_isIn 3 = .ok (.iconst 1, 1) := by decide +kernel
theorem dX4_isIn_4 : decode cX4_isIn 4 = .ok (.iand, 1) := by decide +kernel
theorem dX4_isIn_5 : decode cX4_isIn 5 = .ok (.iconst 1, 1) := by decide +kernel
theorem dX4_isIn_6 : decode cX4_isIn 6 = .ok (.if_icmp .ne 7, 3) := by decide +kernel
theorem dX4_isIn_9 : decode cX4_isIn 9 = .ok (.iconst 1, 1) := by decide +kernel
theorem dX4_isIn_10 : decode cX4_isIn 10 = .ok (.goto 4, 3) := by decide +kernel
theorem dX4_isIn_13 : decode cX4_isIn 13 = .ok (.iconst 0, 1) := by decide +kernel
theorem dX4_isIn_14 : decode cX4_isIn 14 = .ok (.ireturn, 1) := by decide +kernel
def t_X4_isIn_14 : am_T := tb_zret
def t_X4_isIn_13 : am_T := tb_const 0 <|
  t_X4_isIn_14
def t_X4_isIn_0 : am_T := tb_iload 0 <|
  tb_iload 1 <|
  tb_bin (fun x y => x >>> (y &&& 31)) <|
  tb_const 1 <|
  tb_bin (fun x y => x &&& y) <|
  tb_const 1 <|
  tb_ic (fun x y => x ≠ y) (t_X4_isIn_13) <|
  tb_const 1 <|
  t_X4_isIn_14
def h_X4_isIn : am_Hd := fun h => if h = 0 then t_X4_isIn_0 else tb_bad
theorem h_X4_isIn_0 : h_X4_isIn 0 = t_X4_isIn_0 := rfl
def rm_X4_isIn : Room := { frames := 0, cells := 0, slots := 0, locals := 0 }
def sp_X4_isIn : am_sp := fun as M Q => as.length ≤ 2 ∧ am_OK h_X4_isIn Q 0 (am_in 2 as) M
theorem s_X4_isIn_14 {G : am_G} {bc bs : Nat} (X : am_Cx G cX4_isIn RX4 "isIn" rm_X4_isIn (some .boolean) 2 bc bs true) : am_S G 14 (t_X4_isIn_14) := by
  unfold t_X4_isIn_14
  exact as_zret (pc := 14) X ⟨rfl, rfl⟩ rfl dX4_isIn_14
theorem s_X4_isIn_13 {G : am_G} {bc bs : Nat} (X : am_Cx G cX4_isIn RX4 "isIn" rm_X4_isIn (some .boolean) 2 bc bs true) : am_S G 13 (t_X4_isIn_13) := by
  unfold t_X4_isIn_13
  refine as_iconst (pc := 13) X dX4_isIn_13 (by decide) ?_
  exact s_X4_isIn_14 X
theorem s_X4_isIn_0 {G : am_G} {bc bs : Nat} (X : am_Cx G cX4_isIn RX4 "isIn" rm_X4_isIn (some .boolean) 2 bc bs true) : am_S G 0 (t_X4_isIn_0) := by
  unfold t_X4_isIn_0
  refine as_iload_n (pc := 0) X dX4_isIn_0 rfl ?_
  refine as_iload_n (pc := 1) X dX4_isIn_1 rfl ?_
  refine as_ishr (pc := 2) X dX4_isIn_2 ?_
  refine as_iconst (pc := 3) X dX4_isIn_3 (by decide) ?_
  refine as_iand (pc := 4) X dX4_isIn_4 ?_
  refine as_iconst (pc := 5) X dX4_isIn_5 (by decide) ?_
  refine as_ic_ne (pc := 6) X 13 dX4_isIn_6 (by decide) (s_X4_isIn_13 X) ?_
  refine as_iconst (pc := 9) X dX4_isIn_9 (by decide) ?_
  exact as_goto (pc := 10) X 14 dX4_isIn_10 (by decide) (s_X4_isIn_14 X)
theorem s_X4_isIn {G : am_G} {bc bs : Nat} (X : am_Cx G cX4_isIn RX4 "isIn" rm_X4_isIn (some .boolean) 2 bc bs true) (h : Nat) : am_S G h (h_X4_isIn h) := by
  unfold h_X4_isIn
  split
  · next e => rw [e]; exact s_X4_isIn_0 X
  exact as_bad
theorem ct_X4_isIn : am_Ct yX4_isIn cX4_isIn 2 (some .boolean) rm_X4_isIn sp_X4_isIn := am_met (own := RX4) (nm := "isIn") (by decide) rfl rfl (Or.inr (Or.inr (Or.inl rfl))) (fun _ _ => h_X4_isIn) (fun _ _ _ X => s_X4_isIn X) (fun _ _ _ _ h => h)
-- X1_personsNamedIn
theorem dX1_personsNamedIn_0 : decode cX1_personsNamedIn 0 = .ok (.iconst 0, 1) := by decide +kernel
theorem dX1_personsNamedIn_1 : decode cX1_personsNamedIn 1 = .ok (.istore_n 2, 1) := by decide +kernel
theorem dX1_personsNamedIn_2 : decode cX1_personsNamedIn 2 = .ok (.iconst 0, 1) := by decide +kernel
theorem dX1_personsNamedIn_3 : decode cX1_personsNamedIn 3 = .ok (.istore_n 3, 1) := by decide +kernel
theorem dX1_personsNamedIn_4 : decode cX1_personsNamedIn 4 = .ok (.aload_n 0, 1) := by decide +kernel
theorem dX1_personsNamedIn_5 : decode cX1_personsNamedIn 5 = .ok (.getfield 9, 3) := by decide +kernel
theorem dX1_personsNamedIn_8 : decode cX1_personsNamedIn 8 = .ok (.iconst 1, 1) := by decide +kernel
theorem dX1_personsNamedIn_9 : decode cX1_personsNamedIn 9 = .ok (.isub, 1) := by decide +kernel
theorem dX1_personsNamedIn_10 : decode cX1_personsNamedIn 10 = .ok (.istore 4, 2) := by decide +kernel
theorem dX1_personsNamedIn_12 : decode cX1_personsNamedIn 12 = .ok (.iload 4, 2) := by decide +kernel
theorem dX1_personsNamedIn_14 : decode cX1_personsNamedIn 14 = .ok (.ifCond .lt 72, 3) := by decide +kernel
theorem dX1_personsNamedIn_17 : decode cX1_personsNamedIn 17 = .ok (.iconst 1, 1) := by decide +kernel
theorem dX1_personsNamedIn_18 : decode cX1_personsNamedIn 18 = .ok (.aload_n 0, 1) := by decide +kernel
theorem dX1_personsNamedIn_19 : decode cX1_personsNamedIn 19 = .ok (.getfield 15, 3) := by decide +kernel
theorem dX1_personsNamedIn_22 : decode cX1_personsNamedIn 22 = .ok (.iload 4, 2) := by decide +kernel
theorem dX1_personsNamedIn_24 : decode cX1_personsNamedIn 24 = .ok (.iaload, 1) := by decide +kernel
theorem dX1_personsNamedIn_25 : decode cX1_personsNamedIn 25 = .ok (.ishl, 1) := by decide +kernel
theorem dX1_personsNamedIn_26 : decode cX1_personsNamedIn 26 = .ok (.istore 5, 2) := by decide +kernel
theorem dX1_personsNamedIn_28 : decode cX1_personsNamedIn 28 = .ok (.aload_n 0, 1) := by decide +kernel
theorem dX1_personsNamedIn_29 : decode cX1_personsNamedIn 29 = .ok (.getfield 22, 3) := by decide +kernel
theorem dX1_personsNamedIn_32 : decode cX1_personsNamedIn 32 = .ok (.iload 4, 2) := by decide +kernel
theorem dX1_personsNamedIn_34 : decode cX1_personsNamedIn 34 = .ok (.iaload, 1) := by decide +kernel
theorem dX1_personsNamedIn_35 : decode cX1_personsNamedIn 35 = .ok (.aload_n 0, 1) := by decide +kernel
theorem dX1_personsNamedIn_36 : decode cX1_personsNamedIn 36 = .ok (.getfield 28, 3) := by decide +kernel
theorem dX1_personsNamedIn_39 : decode cX1_personsNamedIn 39 = .ok (.iload_n 1, 1) := by decide +kernel
theorem dX1_personsNamedIn_40 : decode cX1_personsNamedIn 40 = .ok (.iaload, 1) := by decide +kernel
theorem dX1_personsNamedIn_41 : decode cX1_personsNamedIn 41 = .ok (.if_icmp .gt 39, 3) := by decide +kernel
theorem dX1_personsNamedIn_44 : decode cX1_personsNamedIn 44 = .ok (.iload_n 3, 1) := by decide +kernel
theorem dX1_personsNamedIn_45 : decode cX1_personsNamedIn 45 = .ok (.iload 5, 2) := by decide +kernel
theorem dX1_personsNamedIn_47 : decode cX1_personsNamedIn 47 = .ok (.iand, 1) := by decide +kernel
theorem dX1_personsNamedIn_48 : decode cX1_personsNamedIn 48 = .ok (.ifCond .ne 32, 3) := by decide +kernel
theorem dX1_personsNamedIn_51 : decode cX1_personsNamedIn 51 = .ok (.iload_n 3, 1) := by decide +kernel
theorem dX1_personsNamedIn_52 : decode cX1_personsNamedIn 52 = .ok (.iload 5, 2) := by decide +kernel
theorem dX1_personsNamedIn_54 : decode cX1_personsNamedIn 54 = .ok (.ior, 1) := by decide +kernel
theorem dX1_personsNamedIn_55 : decode cX1_personsNamedIn 55 = .ok (.istore_n 3, 1) := by decide +kernel
theorem dX1_personsNamedIn_56 : decode cX1_personsNamedIn 56 = .ok (.aload_n 0, 1) := by decide +kernel
theorem dX1_personsNamedIn_57 : decode cX1_personsNamedIn 57 = .ok (.getfield 34, 3) := by decide +kernel
theorem dX1_personsNamedIn_60 : decode cX1_personsNamedIn 60 = .ok (.iload_n 1, 1) := by decide +kernel
theorem dX1_personsNamedIn_61 : decode cX1_personsNamedIn 61 = .ok (.iaload, 1) := by decide +kernel
theorem dX1_personsNamedIn_62 : decode cX1_personsNamedIn 62 = .ok (.aload_n 0, 1) := by decide +kernel
theorem dX1_personsNamedIn_63 : decode cX1_personsNamedIn 63 = .ok (.getfield 19, 3) := by decide +kernel
theorem dX1_personsNamedIn_66 : decode cX1_personsNamedIn 66 = .ok (.iload 4, 2) := by decide +kernel
theorem dX1_personsNamedIn_68 : decode cX1_personsNamedIn 68 = .ok (.iaload, 1) := by decide +kernel
theorem dX1_personsNamedIn_69 : decode cX1_personsNamedIn 69 = .ok (.invokestatic 68, 3) := by decide +kernel
theorem dX1_personsNamedIn_72 : decode cX1_personsNamedIn 72 = .ok (.ifCond .eq 8, 3) := by decide +kernel
theorem dX1_personsNamedIn_75 : decode cX1_personsNamedIn 75 = .ok (.iload_n 2, 1) := by decide +kernel
theorem dX1_personsNamedIn_76 : decode cX1_personsNamedIn 76 = .ok (.iload 5, 2) := by decide +kernel
theorem dX1_personsNamedIn_78 : decode cX1_personsNamedIn 78 = .ok (.ior, 1) := by decide +kernel
theorem dX1_personsNamedIn_79 : decode cX1_personsNamedIn 79 = .ok (.istore_n 2, 1) := by decide +kernel
theorem dX1_personsNamedIn_80 : decode cX1_personsNamedIn 80 = .ok (.iinc 4 (-1), 3) := by decide +kernel
theorem dX1_personsNamedIn_83 : decode cX1_personsNamedIn 83 = .ok (.goto (-71), 3) := by decide +kernel
theorem dX1_personsNamedIn_86 : decode cX1_personsNamedIn 86 = .ok (.iload_n 2, 1) := by decide +kernel
theorem dX1_personsNamedIn_87 : decode cX1_personsNamedIn 87 = .ok (.ireturn, 1) := by decide +kernel
def t_X1_personsNamedIn_86 : am_T := tb_iload 2 <|
  tb_iret
def t_X1_personsNamedIn_80 : am_T := tb_iinc 4 (-1) <|
  tb_head 12
def t_X1_personsNamedIn_12 : am_T := tb_iload 4 <|
  tb_if (fun x => x < 0) (t_X1_personsNamedIn_86) <|
  tb_const 1 <|
  tb_aload 0 <|
  tb_getR 1 1 <|
  tb_iload 4 <|
  tb_iald <|
  tb_bin (fun x y => x <<< (y &&& 31)) <|
  tb_istore 5 <|
  tb_aload 0 <|
  tb_getR 1 3 <|
  tb_iload 4 <|
  tb_iald <|
  tb_aload 0 <|
  tb_getR 1 5 <|
  tb_iload 1 <|
  tb_iald <|
  tb_ic (fun x y => y < x) (t_X1_personsNamedIn_80) <|
  tb_iload 3 <|
  tb_iload 5 <|
  tb_bin (fun x y => x &&& y) <|
  tb_if (fun x => x ≠ 0) (t_X1_personsNamedIn_80) <|
  tb_iload 3 <|
  tb_iload 5 <|
  tb_bin (fun x y => x ||| y) <|
  tb_istore 3 <|
  tb_aload 0 <|
  tb_getR 1 7 <|
  tb_iload 1 <|
  tb_iald <|
  tb_aload 0 <|
  tb_getR 1 2 <|
  tb_iload 4 <|
  tb_iald <|
  tb_callS sp_X4_isIn 2 <|
  tb_if (fun x => x = 0) (t_X1_personsNamedIn_80) <|
  tb_iload 2 <|
  tb_iload 5 <|
  tb_bin (fun x y => x ||| y) <|
  tb_istore 2 <|
  t_X1_personsNamedIn_80
def t_X1_personsNamedIn_0 : am_T := tb_const 0 <|
  tb_istore 2 <|
  tb_const 0 <|
  tb_istore 3 <|
  tb_aload 0 <|
  tb_getI 1 0 <|
  tb_const 1 <|
  tb_bin (fun x y => x - y) <|
  tb_istore 4 <|
  tb_head 12
def h_X1_personsNamedIn : am_Hd := fun h => if h = 0 then t_X1_personsNamedIn_0 else if h = 12 then t_X1_personsNamedIn_12 else tb_bad
theorem h_X1_personsNamedIn_0 : h_X1_personsNamedIn 0 = t_X1_personsNamedIn_0 := rfl
theorem h_X1_personsNamedIn_12 : h_X1_personsNamedIn 12 = t_X1_personsNamedIn_12 := rfl
def rm_X1_personsNamedIn : Room := { frames := 1, cells := 0, slots := 0, locals := 21 }
def sp_X1_personsNamedIn : am_sp := fun as M Q => as.length ≤ 6 ∧ am_OK h_X1_personsNamedIn Q 0 (am_in 6 as) M
theorem s_X1_personsNamedIn_86 {G : am_G} {bc bs : Nat} (X : am_Cx G cX1_personsNamedIn RX1 "personsNamedIn" rm_X1_personsNamedIn (some .int) 6 bc bs true) : am_S G 86 (t_X1_personsNamedIn_86) := by
  unfold t_X1_personsNamedIn_86
  refine as_iload_n (pc := 86) X dX1_personsNamedIn_86 rfl ?_
  exact as_iret (pc := 87) X ⟨rfl, rfl⟩ rfl dX1_personsNamedIn_87
theorem s_X1_personsNamedIn_80 {G : am_G} {bc bs : Nat} (X : am_Cx G cX1_personsNamedIn RX1 "personsNamedIn" rm_X1_personsNamedIn (some .int) 6 bc bs true) : am_S G 80 (t_X1_personsNamedIn_80) := by
  unfold t_X1_personsNamedIn_80
  refine as_iinc (pc := 80) X dX1_personsNamedIn_80 (by decide) (by decide) ?_
  exact as_goto (pc := 83) X 12 dX1_personsNamedIn_83 (by decide) (as_head)
theorem s_X1_personsNamedIn_12 {G : am_G} {bc bs : Nat} (X : am_Cx G cX1_personsNamedIn RX1 "personsNamedIn" rm_X1_personsNamedIn (some .int) 6 bc bs true) : am_S G 12 (t_X1_personsNamedIn_12) := by
  unfold t_X1_personsNamedIn_12
  refine as_iload (pc := 12) X dX1_personsNamedIn_12 ?_
  refine as_if_lt (pc := 14) X 86 dX1_personsNamedIn_14 (by decide) (s_X1_personsNamedIn_86 X) ?_
  refine as_iconst (pc := 17) X dX1_personsNamedIn_17 (by decide) ?_
  refine as_aload_n (pc := 18) X dX1_personsNamedIn_18 rfl ?_
  refine as_getR (ci := 1) (j := 1) (pc := 19) X (Cn := RX1) (Tf := TX1) (N := 14) rfl rfl (by decide) iw_X1 aw_52 rfl dX1_personsNamedIn_19 ?_
  refine as_iload (pc := 22) X dX1_personsNamedIn_22 ?_
  refine as_iald (pc := 24) X dX1_personsNamedIn_24 ?_
  refine as_ishl (pc := 25) X dX1_personsNamedIn_25 ?_
  refine as_istore (pc := 26) X dX1_personsNamedIn_26 ?_ (by decide)
  refine as_aload_n (pc := 28) X dX1_personsNamedIn_28 rfl ?_
  refine as_getR (ci := 1) (j := 3) (pc := 29) X (Cn := RX1) (Tf := TX1) (N := 14) rfl rfl (by decide) iw_X1 aw_54 rfl dX1_personsNamedIn_29 ?_
  refine as_iload (pc := 32) X dX1_personsNamedIn_32 ?_
  refine as_iald (pc := 34) X dX1_personsNamedIn_34 ?_
  refine as_aload_n (pc := 35) X dX1_personsNamedIn_35 rfl ?_
  refine as_getR (ci := 1) (j := 5) (pc := 36) X (Cn := RX1) (Tf := TX1) (N := 14) rfl rfl (by decide) iw_X1 aw_58 rfl dX1_personsNamedIn_36 ?_
  refine as_iload_n (pc := 39) X dX1_personsNamedIn_39 rfl ?_
  refine as_iald (pc := 40) X dX1_personsNamedIn_40 ?_
  refine as_ic_gt (pc := 41) X 80 dX1_personsNamedIn_41 (by decide) (s_X1_personsNamedIn_80 X) ?_
  refine as_iload_n (pc := 44) X dX1_personsNamedIn_44 rfl ?_
  refine as_iload (pc := 45) X dX1_personsNamedIn_45 ?_
  refine as_iand (pc := 47) X dX1_personsNamedIn_47 ?_
  refine as_if_ne (pc := 48) X 80 dX1_personsNamedIn_48 (by decide) (s_X1_personsNamedIn_80 X) ?_
  refine as_iload_n (pc := 51) X dX1_personsNamedIn_51 rfl ?_
  refine as_iload (pc := 52) X dX1_personsNamedIn_52 ?_
  refine as_ior (pc := 54) X dX1_personsNamedIn_54 ?_
  refine as_istore_n (pc := 55) X dX1_personsNamedIn_55 rfl ?_ (by decide)
  refine as_aload_n (pc := 56) X dX1_personsNamedIn_56 rfl ?_
  refine as_getR (ci := 1) (j := 7) (pc := 57) X (Cn := RX1) (Tf := TX1) (N := 14) rfl rfl (by decide) iw_X1 aw_64 rfl dX1_personsNamedIn_57 ?_
  refine as_iload_n (pc := 60) X dX1_personsNamedIn_60 rfl ?_
  refine as_iald (pc := 61) X dX1_personsNamedIn_61 ?_
  refine as_aload_n (pc := 62) X dX1_personsNamedIn_62 rfl ?_
  refine as_getR (ci := 1) (j := 2) (pc := 63) X (Cn := RX1) (Tf := TX1) (N := 14) rfl rfl (by decide) iw_X1 aw_53 rfl dX1_personsNamedIn_63 ?_
  refine as_iload (pc := 66) X dX1_personsNamedIn_66 ?_
  refine as_iald (pc := 68) X dX1_personsNamedIn_68 ?_
  refine as_callSN (np := 2) (ix := 68) (pc := 69) X ct_X4_isIn ⟨rfl, rfl⟩ (host := RX4) (by simp [am_NW]) aw_297 aw_298 aw_17 (by decide +kernel) (by decide) dX1_personsNamedIn_69 ?_
  refine as_if_eq (pc := 72) X 80 dX1_personsNamedIn_72 (by decide) (s_X1_personsNamedIn_80 X) ?_
  refine as_iload_n (pc := 75) X dX1_personsNamedIn_75 rfl ?_
  refine as_iload (pc := 76) X dX1_personsNamedIn_76 ?_
  refine as_ior (pc := 78) X dX1_personsNamedIn_78 ?_
  refine as_istore_n (pc := 79) X dX1_personsNamedIn_79 rfl ?_ (by decide)
  exact s_X1_personsNamedIn_80 X
theorem s_X1_personsNamedIn_0 {G : am_G} {bc bs : Nat} (X : am_Cx G cX1_personsNamedIn RX1 "personsNamedIn" rm_X1_personsNamedIn (some .int) 6 bc bs true) : am_S G 0 (t_X1_personsNamedIn_0) := by
  unfold t_X1_personsNamedIn_0
  refine as_iconst (pc := 0) X dX1_personsNamedIn_0 (by decide) ?_
  refine as_istore_n (pc := 1) X dX1_personsNamedIn_1 rfl ?_ (by decide)
  refine as_iconst (pc := 2) X dX1_personsNamedIn_2 (by decide) ?_
  refine as_istore_n (pc := 3) X dX1_personsNamedIn_3 rfl ?_ (by decide)
  refine as_aload_n (pc := 4) X dX1_personsNamedIn_4 rfl ?_
  refine as_getI (ci := 1) (j := 0) (pc := 5) X (Cn := RX1) (Tf := TX1) (N := 14) rfl rfl (by decide) iw_X1 aw_50 rfl dX1_personsNamedIn_5 ?_
  refine as_iconst (pc := 8) X dX1_personsNamedIn_8 (by decide) ?_
  refine as_isub (pc := 9) X dX1_personsNamedIn_9 ?_
  refine as_istore (pc := 10) X dX1_personsNamedIn_10 ?_ (by decide)
  exact as_head
theorem s_X1_personsNamedIn {G : am_G} {bc bs : Nat} (X : am_Cx G cX1_personsNamedIn RX1 "personsNamedIn" rm_X1_personsNamedIn (some .int) 6 bc bs true) (h : Nat) : am_S G h (h_X1_personsNamedIn h) := by
  unfold h_X1_personsNamedIn
  split
  · next e => rw [e]; exact s_X1_personsNamedIn_0 X
  split
  · next e => rw [e]; exact s_X1_personsNamedIn_12 X
  exact as_bad
theorem ct_X1_personsNamedIn : am_Ct yX1_personsNamedIn cX1_personsNamedIn 6 (some .int) rm_X1_personsNamedIn sp_X1_personsNamedIn := am_met (own := RX1) (nm := "personsNamedIn") (by decide) rfl rfl (Or.inr (Or.inl rfl)) (fun _ _ => h_X1_personsNamedIn) (fun _ _ _ X => s_X1_personsNamedIn X) (fun _ _ _ _ h => h)
-- X3_speaksTo
theorem dX3_speaksTo_0 : decode cX3_speaksTo 0 = .ok (.aload_n 0, 1) := by decide +kernel
theorem dX3_speaksTo_1 : decode cX3_speaksTo 1 = .ok (.getfield 25, 3) := by decide +kernel
theorem dX3_speaksTo_4 : decode cX3_speaksTo 4 = .ok (.iload_n 1, 1) := by decide +kernel
theorem dX3_speaksTo_5 : decode cX3_speaksTo 5 = .ok (.iaload, 1) := by decide +kernel
theorem dX3_speaksTo_6 : decode cX3_speaksTo 6 = .ok (.iload_n 2, 1) := by decide +kernel
theorem dX3_speaksTo_7 : decode cX3_speaksTo 7 = .ok (.invokestatic 119, 3) := by decide +kernel
theorem dX3_speaksTo_10 : decode cX3_speaksTo 10 = .ok (.ireturn, 1) := by decide +kernel
def t_X3_speaksTo_0 : am_T := tb_aload 0 <|
  tb_getR 3 3 <|
  tb_iload 1 <|
  tb_iald <|
  tb_iload 2 <|
  tb_callS sp_X4_isIn 2 <|
  tb_zret
def h_X3_speaksTo : am_Hd := fun h => if h = 0 then t_X3_speaksTo_0 else tb_bad
theorem h_X3_speaksTo_0 : h_X3_speaksTo 0 = t_X3_speaksTo_0 := rfl
def rm_X3_speaksTo : Room := { frames := 1, cells := 0, slots := 0, locals := 21 }
def sp_X3_speaksTo : am_sp := fun as M Q => as.length ≤ 3 ∧ am_OK h_X3_speaksTo Q 0 (am_in 3 as) M
theorem s_X3_speaksTo_0 {G : am_G} {bc bs : Nat} (X : am_Cx G cX3_speaksTo RX3 "speaksTo" rm_X3_speaksTo (some .boolean) 3 bc bs true) : am_S G 0 (t_X3_speaksTo_0) := by
  unfold t_X3_speaksTo_0
  refine as_aload_n (pc := 0) X dX3_speaksTo_0 rfl ?_
  refine as_getR (ci := 3) (j := 3) (pc := 1) X (Cn := RX3) (Tf := TX3) (N := 17) rfl rfl (by decide) iw_X3 aw_120 rfl dX3_speaksTo_1 ?_
  refine as_iload_n (pc := 4) X dX3_speaksTo_4 rfl ?_
  refine as_iald (pc := 5) X dX3_speaksTo_5 ?_
  refine as_iload_n (pc := 6) X dX3_speaksTo_6 rfl ?_
  refine as_callSN (np := 2) (ix := 119) (pc := 7) X ct_X4_isIn ⟨rfl, rfl⟩ (host := RX4) (by simp [am_NW]) aw_297 aw_298 aw_17 (by decide +kernel) (by decide) dX3_speaksTo_7 ?_
  exact as_zret (pc := 10) X ⟨rfl, rfl⟩ rfl dX3_speaksTo_10
theorem s_X3_speaksTo {G : am_G} {bc bs : Nat} (X : am_Cx G cX3_speaksTo RX3 "speaksTo" rm_X3_speaksTo (some .boolean) 3 bc bs true) (h : Nat) : am_S G h (h_X3_speaksTo h) := by
  unfold h_X3_speaksTo
  split
  · next e => rw [e]; exact s_X3_speaksTo_0 X
  exact as_bad
theorem ct_X3_speaksTo : am_Ct yX3_speaksTo cX3_speaksTo 3 (some .boolean) rm_X3_speaksTo sp_X3_speaksTo := am_met (own := RX3) (nm := "speaksTo") (by decide) rfl rfl (Or.inr (Or.inr (Or.inl rfl))) (fun _ _ => h_X3_speaksTo) (fun _ _ _ X => s_X3_speaksTo X) (fun _ _ _ _ h => h)
-- J6_bitCount_0f7a4
theorem dJ6_bitCount_0f7a4_0 : decode cJ6_bitCount_0f7a4 0 = .ok (.iload_n 0, 1) := by decide +kernel
theorem dJ6_bitCount_0f7a4_1 : decode cJ6_bitCount_0f7a4 1 = .ok (.iload_n 0, 1) := by decide +kernel
theorem dJ6_bitCount_0f7a4_2 : decode cJ6_bitCount_0f7a4 2 = .ok (.iconst 1, 1) := by decide +kernel
theorem dJ6_bitCount_0f7a4_3 : decode cJ6_bitCount_0f7a4 3 = .ok (.iushr, 1) := by decide +kernel
theorem dJ6_bitCount_0f7a4_4 : decode cJ6_bitCount_0f7a4 4 = .ok (.ldc_w 265, 3) := by decide +kernel
theorem dJ6_bitCount_0f7a4_7 : decode cJ6_bitCount_0f7a4 7 = .ok (.iand, 1) := by decide +kernel
theorem dJ6_bitCount_0f7a4_8 : decode cJ6_bitCount_0f7a4 8 = .ok (.isub, 1) := by decide +kernel
theorem dJ6_bitCount_0f7a4_9 : decode cJ6_bitCount_0f7a4 9 = .ok (.istore_n 0, 1) := by decide +kernel
theorem dJ6_bitCount_0f7a4_10 : decode cJ6_bitCount_0f7a4 10 = .ok (.iload_n 0, 1) := by decide +kernel
theorem dJ6_bitCount_0f7a4_11 : decode cJ6_bitCount_0f7a4 11 = .ok (.ldc_w 266, 3) := by decide +kernel
theorem dJ6_bitCount_0f7a4_14 : decode cJ6_bitCount_0f7a4 14 = .ok (.iand, 1) := by decide +kernel
theorem dJ6_bitCount_0f7a4_15 : decode cJ6_bitCount_0f7a4 15 = .ok (.iload_n 0, 1) := by decide +kernel
theorem dJ6_bitCount_0f7a4_16 : decode cJ6_bitCount_0f7a4 16 = .ok (.iconst 2, 1) := by decide +kernel
theorem dJ6_bitCount_0f7a4_17 : decode cJ6_bitCount_0f7a4 17 = .ok (.iushr, 1) := by decide +kernel
theorem dJ6_bitCount_0f7a4_18 : decode cJ6_bitCount_0f7a4 18 = .ok (.ldc_w 266, 3) := by decide +kernel
theorem dJ6_bitCount_0f7a4_21 : decode cJ6_bitCount_0f7a4 21 = .ok (.iand, 1) := by decide +kernel
theorem dJ6_bitCount_0f7a4_22 : decode cJ6_bitCount_0f7a4 22 = .ok (.iadd, 1) := by decide +kernel
theorem dJ6_bitCount_0f7a4_23 : decode cJ6_bitCount_0f7a4 23 = .ok (.istore_n 0, 1) := by decide +kernel
theorem dJ6_bitCount_0f7a4_24 : decode cJ6_bitCount_0f7a4 24 = .ok (.iload_n 0, 1) := by decide +kernel
theorem dJ6_bitCount_0f7a4_25 : decode cJ6_bitCount_0f7a4 25 = .ok (.iload_n 0, 1) := by decide +kernel
theorem dJ6_bitCount_0f7a4_26 : decode cJ6_bitCount_0f7a4 26 = .ok (.iconst 4, 1) := by decide +kernel
theorem dJ6_bitCount_0f7a4_27 : decode cJ6_bitCount_0f7a4 27 = .ok (.iushr, 1) := by decide +kernel
theorem dJ6_bitCount_0f7a4_28 : decode cJ6_bitCount_0f7a4 28 = .ok (.iadd, 1) := by decide +kernel
theorem dJ6_bitCount_0f7a4_29 : decode cJ6_bitCount_0f7a4 29 = .ok (.ldc_w 267, 3) := by decide +kernel
theorem dJ6_bitCount_0f7a4_32 : decode cJ6_bitCount_0f7a4 32 = .ok (.iand, 1) := by decide +kernel
theorem dJ6_bitCount_0f7a4_33 : decode cJ6_bitCount_0f7a4 33 = .ok (.istore_n 0, 1) := by decide +kernel
theorem dJ6_bitCount_0f7a4_34 : decode cJ6_bitCount_0f7a4 34 = .ok (.iload_n 0, 1) := by decide +kernel
theorem dJ6_bitCount_0f7a4_35 : decode cJ6_bitCount_0f7a4 35 = .ok (.iload_n 0, 1) := by decide +kernel
theorem dJ6_bitCount_0f7a4_36 : decode cJ6_bitCount_0f7a4 36 = .ok (.bipush 8, 2) := by decide +kernel
theorem dJ6_bitCount_0f7a4_38 : decode cJ6_bitCount_0f7a4 38 = .ok (.iushr, 1) := by decide +kernel
theorem dJ6_bitCount_0f7a4_39 : decode cJ6_bitCount_0f7a4 39 = .ok (.iadd, 1) := by decide +kernel
theorem dJ6_bitCount_0f7a4_40 : decode cJ6_bitCount_0f7a4 40 = .ok (.istore_n 0, 1) := by decide +kernel
theorem dJ6_bitCount_0f7a4_41 : decode cJ6_bitCount_0f7a4 41 = .ok (.iload_n 0, 1) := by decide +kernel
theorem dJ6_bitCount_0f7a4_42 : decode cJ6_bitCount_0f7a4 42 = .ok (.iload_n 0, 1) := by decide +kernel
theorem dJ6_bitCount_0f7a4_43 : decode cJ6_bitCount_0f7a4 43 = .ok (.bipush 16, 2) := by decide +kernel
theorem dJ6_bitCount_0f7a4_45 : decode cJ6_bitCount_0f7a4 45 = .ok (.iushr, 1) := by decide +kernel
theorem dJ6_bitCount_0f7a4_46 : decode cJ6_bitCount_0f7a4 46 = .ok (.iadd, 1) := by decide +kernel
theorem dJ6_bitCount_0f7a4_47 : decode cJ6_bitCount_0f7a4 47 = .ok (.istore_n 0, 1) := by decide +kernel
theorem dJ6_bitCount_0f7a4_48 : decode cJ6_bitCount_0f7a4 48 = .ok (.iload_n 0, 1) := by decide +kernel
theorem dJ6_bitCount_0f7a4_49 : decode cJ6_bitCount_0f7a4 49 = .ok (.bipush 63, 2) := by decide +kernel
theorem dJ6_bitCount_0f7a4_51 : decode cJ6_bitCount_0f7a4 51 = .ok (.iand, 1) := by decide +kernel
theorem dJ6_bitCount_0f7a4_52 : decode cJ6_bitCount_0f7a4 52 = .ok (.ireturn, 1) := by decide +kernel
def t_J6_bitCount_0f7a4_0 : am_T := tb_iload 0 <|
  tb_iload 0 <|
  tb_const 1 <|
  tb_bin (fun x y => (x.toUInt32 >>> (y.toUInt32 &&& Int32.toUInt32 31)).toInt32) <|
  tb_const (1431655765) <|
  tb_bin (fun x y => x &&& y) <|
  tb_bin (fun x y => x - y) <|
  tb_istore 0 <|
  tb_iload 0 <|
  tb_const (858993459) <|
  tb_bin (fun x y => x &&& y) <|
  tb_iload 0 <|
  tb_const 2 <|
  tb_bin (fun x y => (x.toUInt32 >>> (y.toUInt32 &&& Int32.toUInt32 31)).toInt32) <|
  tb_const (858993459) <|
  tb_bin (fun x y => x &&& y) <|
  tb_bin (fun x y => x + y) <|
  tb_istore 0 <|
  tb_iload 0 <|
  tb_iload 0 <|
  tb_const 4 <|
  tb_bin (fun x y => (x.toUInt32 >>> (y.toUInt32 &&& Int32.toUInt32 31)).toInt32) <|
  tb_bin (fun x y => x + y) <|
  tb_const (252645135) <|
  tb_bin (fun x y => x &&& y) <|
  tb_istore 0 <|
  tb_iload 0 <|
  tb_iload 0 <|
  tb_const 8 <|
  tb_bin (fun x y => (x.toUInt32 >>> (y.toUInt32 &&& Int32.toUInt32 31)).toInt32) <|
  tb_bin (fun x y => x + y) <|
  tb_istore 0 <|
  tb_iload 0 <|
  tb_iload 0 <|
  tb_const 16 <|
  tb_bin (fun x y => (x.toUInt32 >>> (y.toUInt32 &&& Int32.toUInt32 31)).toInt32) <|
  tb_bin (fun x y => x + y) <|
  tb_istore 0 <|
  tb_iload 0 <|
  tb_const 63 <|
  tb_bin (fun x y => x &&& y) <|
  tb_iret
def h_J6_bitCount_0f7a4 : am_Hd := fun h => if h = 0 then t_J6_bitCount_0f7a4_0 else tb_bad
theorem h_J6_bitCount_0f7a4_0 : h_J6_bitCount_0f7a4 0 = t_J6_bitCount_0f7a4_0 := rfl
def rm_J6_bitCount_0f7a4 : Room := { frames := 0, cells := 0, slots := 0, locals := 0 }
def sp_J6_bitCount_0f7a4 : am_sp := fun as M Q => as.length ≤ 1 ∧ am_OK h_J6_bitCount_0f7a4 Q 0 (am_in 1 as) M
theorem s_J6_bitCount_0f7a4_0 {G : am_G} {bc bs : Nat} (X : am_Cx G cJ6_bitCount_0f7a4 RJ6 "bitCount" rm_J6_bitCount_0f7a4 (some .int) 1 bc bs true) : am_S G 0 (t_J6_bitCount_0f7a4_0) := by
  unfold t_J6_bitCount_0f7a4_0
  refine as_iload_n (pc := 0) X dJ6_bitCount_0f7a4_0 rfl ?_
  refine as_iload_n (pc := 1) X dJ6_bitCount_0f7a4_1 rfl ?_
  refine as_iconst (pc := 2) X dJ6_bitCount_0f7a4_2 (by decide) ?_
  refine as_iushr (pc := 3) X dJ6_bitCount_0f7a4_3 ?_
  refine as_ldcw (pc := 4) X dJ6_bitCount_0f7a4_4 aw_311 ?_
  refine as_iand (pc := 7) X dJ6_bitCount_0f7a4_7 ?_
  refine as_isub (pc := 8) X dJ6_bitCount_0f7a4_8 ?_
  refine as_istore_n (pc := 9) X dJ6_bitCount_0f7a4_9 rfl ?_ (by decide)
  refine as_iload_n (pc := 10) X dJ6_bitCount_0f7a4_10 rfl ?_
  refine as_ldcw (pc := 11) X dJ6_bitCount_0f7a4_11 aw_312 ?_
  refine as_iand (pc := 14) X dJ6_bitCount_0f7a4_14 ?_
  refine as_iload_n (pc := 15) X dJ6_bitCount_0f7a4_15 rfl ?_
  refine as_iconst (pc := 16) X dJ6_bitCount_0f7a4_16 (by decide) ?_
  refine as_iushr (pc := 17) X dJ6_bitCount_0f7a4_17 ?_
  refine as_ldcw (pc := 18) X dJ6_bitCount_0f7a4_18 aw_312 ?_
  refine as_iand (pc := 21) X dJ6_bitCount_0f7a4_21 ?_
  refine as_iadd (pc := 22) X dJ6_bitCount_0f7a4_22 ?_
  refine as_istore_n (pc := 23) X dJ6_bitCount_0f7a4_23 rfl ?_ (by decide)
  refine as_iload_n (pc := 24) X dJ6_bitCount_0f7a4_24 rfl ?_
  refine as_iload_n (pc := 25) X dJ6_bitCount_0f7a4_25 rfl ?_
  refine as_iconst (pc := 26) X dJ6_bitCount_0f7a4_26 (by decide) ?_
  refine as_iushr (pc := 27) X dJ6_bitCount_0f7a4_27 ?_
  refine as_iadd (pc := 28) X dJ6_bitCount_0f7a4_28 ?_
  refine as_ldcw (pc := 29) X dJ6_bitCount_0f7a4_29 aw_313 ?_
  refine as_iand (pc := 32) X dJ6_bitCount_0f7a4_32 ?_
  refine as_istore_n (pc := 33) X dJ6_bitCount_0f7a4_33 rfl ?_ (by decide)
  refine as_iload_n (pc := 34) X dJ6_bitCount_0f7a4_34 rfl ?_
  refine as_iload_n (pc := 35) X dJ6_bitCount_0f7a4_35 rfl ?_
  refine as_bipush (pc := 36) X dJ6_bitCount_0f7a4_36 (by decide) ?_
  refine as_iushr (pc := 38) X dJ6_bitCount_0f7a4_38 ?_
  refine as_iadd (pc := 39) X dJ6_bitCount_0f7a4_39 ?_
  refine as_istore_n (pc := 40) X dJ6_bitCount_0f7a4_40 rfl ?_ (by decide)
  refine as_iload_n (pc := 41) X dJ6_bitCount_0f7a4_41 rfl ?_
  refine as_iload_n (pc := 42) X dJ6_bitCount_0f7a4_42 rfl ?_
  refine as_bipush (pc := 43) X dJ6_bitCount_0f7a4_43 (by decide) ?_
  refine as_iushr (pc := 45) X dJ6_bitCount_0f7a4_45 ?_
  refine as_iadd (pc := 46) X dJ6_bitCount_0f7a4_46 ?_
  refine as_istore_n (pc := 47) X dJ6_bitCount_0f7a4_47 rfl ?_ (by decide)
  refine as_iload_n (pc := 48) X dJ6_bitCount_0f7a4_48 rfl ?_
  refine as_bipush (pc := 49) X dJ6_bitCount_0f7a4_49 (by decide) ?_
  refine as_iand (pc := 51) X dJ6_bitCount_0f7a4_51 ?_
  exact as_iret (pc := 52) X ⟨rfl, rfl⟩ rfl dJ6_bitCount_0f7a4_52
theorem s_J6_bitCount_0f7a4 {G : am_G} {bc bs : Nat} (X : am_Cx G cJ6_bitCount_0f7a4 RJ6 "bitCount" rm_J6_bitCount_0f7a4 (some .int) 1 bc bs true) (h : Nat) : am_S G h (h_J6_bitCount_0f7a4 h) := by
  unfold h_J6_bitCount_0f7a4
  split
  · next e => rw [e]; exact s_J6_bitCount_0f7a4_0 X
  exact as_bad
theorem ct_J6_bitCount_0f7a4 : am_Ct yJ6_bitCount_0f7a4 cJ6_bitCount_0f7a4 1 (some .int) rm_J6_bitCount_0f7a4 sp_J6_bitCount_0f7a4 := am_met (own := RJ6) (nm := "bitCount") (by decide) rfl rfl (Or.inr (Or.inl rfl)) (fun _ _ => h_J6_bitCount_0f7a4) (fun _ _ _ X => s_J6_bitCount_0f7a4 X) (fun _ _ _ _ h => h)
-- X3_gapOf
theorem dX3_gapOf_0 : decode cX3_gapOf 0 = .ok (.aload_n 0, 1) := by decide +kernel
theorem dX3_gapOf_1 : decode cX3_gapOf 1 = .ok (.getfield 12, 3) := by decide +kernel
theorem dX3_gapOf_4 : decode cX3_gapOf 4 = .ok (.getfield 95, 3) := by decide +kernel
theorem dX3_gapOf_7 : decode cX3_gapOf 7 = .ok (.iload_n 1, 1) := by decide +kernel
theorem dX3_gapOf_8 : decode cX3_gapOf 8 = .ok (.iaload, 1) := by decide +kernel
theorem dX3_gapOf_9 : decode cX3_gapOf 9 = .ok (.aload_n 0, 1) := by decide +kernel
theorem dX3_gapOf_10 : decode cX3_gapOf 10 = .ok (.getfield 12, 3) := by decide +kernel
theorem dX3_gapOf_13 : decode cX3_gapOf 13 = .ok (.getfield 95, 3) := by decide +kernel
theorem dX3_gapOf_16 : decode cX3_gapOf 16 = .ok (.iload_n 2, 1) := by decide +kernel
theorem dX3_gapOf_17 : decode cX3_gapOf 17 = .ok (.iaload, 1) := by decide +kernel
theorem dX3_gapOf_18 : decode cX3_gapOf 18 = .ok (.isub, 1) := by decide +kernel
theorem dX3_gapOf_19 : decode cX3_gapOf 19 = .ok (.ireturn, 1) := by decide +kernel
def t_X3_gapOf_0 : am_T := tb_aload 0 <|
  tb_getR 3 0 <|
  tb_getR 1 5 <|
  tb_iload 1 <|
  tb_iald <|
  tb_aload 0 <|
  tb_getR 3 0 <|
  tb_getR 1 5 <|
  tb_iload 2 <|
  tb_iald <|
  tb_bin (fun x y => x - y) <|
  tb_iret
def h_X3_gapOf : am_Hd := fun h => if h = 0 then t_X3_gapOf_0 else tb_bad
theorem h_X3_gapOf_0 : h_X3_gapOf 0 = t_X3_gapOf_0 := rfl
def rm_X3_gapOf : Room := { frames := 0, cells := 0, slots := 0, locals := 0 }
def sp_X3_gapOf : am_sp := fun as M Q => as.length ≤ 3 ∧ am_OK h_X3_gapOf Q 0 (am_in 3 as) M
theorem s_X3_gapOf_0 {G : am_G} {bc bs : Nat} (X : am_Cx G cX3_gapOf RX3 "gapOf" rm_X3_gapOf (some .int) 3 bc bs true) : am_S G 0 (t_X3_gapOf_0) := by
  unfold t_X3_gapOf_0
  refine as_aload_n (pc := 0) X dX3_gapOf_0 rfl ?_
  refine as_getR (ci := 3) (j := 0) (pc := 1) X (Cn := RX3) (Tf := TX3) (N := 17) rfl rfl (by decide) iw_X3 aw_114 rfl dX3_gapOf_1 ?_
  refine as_getR (ci := 1) (j := 5) (pc := 4) X (Cn := RX1) (Tf := TX1) (N := 14) rfl rfl (by decide) iw_X1 aw_59 rfl dX3_gapOf_4 ?_
  refine as_iload_n (pc := 7) X dX3_gapOf_7 rfl ?_
  refine as_iald (pc := 8) X dX3_gapOf_8 ?_
  refine as_aload_n (pc := 9) X dX3_gapOf_9 rfl ?_
  refine as_getR (ci := 3) (j := 0) (pc := 10) X (Cn := RX3) (Tf := TX3) (N := 17) rfl rfl (by decide) iw_X3 aw_114 rfl dX3_gapOf_10 ?_
  refine as_getR (ci := 1) (j := 5) (pc := 13) X (Cn := RX1) (Tf := TX1) (N := 14) rfl rfl (by decide) iw_X1 aw_59 rfl dX3_gapOf_13 ?_
  refine as_iload_n (pc := 16) X dX3_gapOf_16 rfl ?_
  refine as_iald (pc := 17) X dX3_gapOf_17 ?_
  refine as_isub (pc := 18) X dX3_gapOf_18 ?_
  exact as_iret (pc := 19) X ⟨rfl, rfl⟩ rfl dX3_gapOf_19
theorem s_X3_gapOf {G : am_G} {bc bs : Nat} (X : am_Cx G cX3_gapOf RX3 "gapOf" rm_X3_gapOf (some .int) 3 bc bs true) (h : Nat) : am_S G h (h_X3_gapOf h) := by
  unfold h_X3_gapOf
  split
  · next e => rw [e]; exact s_X3_gapOf_0 X
  exact as_bad
theorem ct_X3_gapOf : am_Ct yX3_gapOf cX3_gapOf 3 (some .int) rm_X3_gapOf sp_X3_gapOf := am_met (own := RX3) (nm := "gapOf") (by decide) rfl rfl (Or.inr (Or.inl rfl)) (fun _ _ => h_X3_gapOf) (fun _ _ _ X => s_X3_gapOf X) (fun _ _ _ _ h => h)
