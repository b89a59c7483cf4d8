-- X5_might
theorem dX5_might_0 : decode cX5_might 0 = .ok (.aload_n 0, 1) := by decide +kernel
theorem dX5_might_1 : decode cX5_might 1 = .ok (.getfield 25, 3) := by decide +kernel
theorem dX5_might_4 : decode cX5_might 4 = .ok (.iload_n 3, 1) := by decide +kernel
theorem dX5_might_5 : decode cX5_might 5 = .ok (.iaload, 1) := by decide +kernel
theorem dX5_might_6 : decode cX5_might 6 = .ok (.aload_n 0, 1) := by decide +kernel
theorem dX5_might_7 : decode cX5_might 7 = .ok (.getfield 25, 3) := by decide +kernel
theorem dX5_might_10 : decode cX5_might 10 = .ok (.iload_n 2, 1) := by decide +kernel
theorem dX5_might_11 : decode cX5_might 11 = .ok (.iaload, 1) := by decide +kernel
theorem dX5_might_12 : decode cX5_might 12 = .ok (.if_icmp .ge 22, 3) := by decide +kernel
theorem dX5_might_15 : decode cX5_might 15 = .ok (.aload_n 1, 1) := by decide +kernel
theorem dX5_might_16 : decode cX5_might 16 = .ok (.iload_n 2, 1) := by decide +kernel
theorem dX5_might_17 : decode cX5_might 17 = .ok (.iconst 0, 1) := by decide +kernel
theorem dX5_might_18 : decode cX5_might 18 = .ok (.invokestatic 71, 3) := by decide +kernel
theorem dX5_might_21 : decode cX5_might 21 = .ok (.aload_n 1, 1) := by decide +kernel
theorem dX5_might_22 : decode cX5_might 22 = .ok (.iload_n 3, 1) := by decide +kernel
theorem dX5_might_23 : decode cX5_might 23 = .ok (.iconst 0, 1) := by decide +kernel
theorem dX5_might_24 : decode cX5_might 24 = .ok (.invokestatic 71, 3) := by decide +kernel
theorem dX5_might_27 : decode cX5_might 27 = .ok (.isub, 1) := by decide +kernel
theorem dX5_might_28 : decode cX5_might 28 = .ok (.aload_n 1, 1) := by decide +kernel
theorem dX5_might_29 : decode cX5_might 29 = .ok (.iconst 0, 1) := by decide +kernel
theorem dX5_might_30 : decode cX5_might 30 = .ok (.iaload, 1) := by decide +kernel
theorem dX5_might_31 : decode cX5_might 31 = .ok (.if_icmp .le 5, 3) := by decide +kernel
theorem dX5_might_34 : decode cX5_might 34 = .ok (.iconst 0, 1) := by decide +kernel
theorem dX5_might_35 : decode cX5_might 35 = .ok (.ireturn, 1) := by decide +kernel
theorem dX5_might_36 : decode cX5_might 36 = .ok (.aload_n 1, 1) := by decide +kernel
theorem dX5_might_37 : decode cX5_might 37 = .ok (.iconst 2, 1) := by decide +kernel
theorem dX5_might_38 : decode cX5_might 38 = .ok (.iload_n 2, 1) := by decide +kernel
theorem dX5_might_39 : decode cX5_might 39 = .ok (.iload_n 3, 1) := by decide +kernel
theorem dX5_might_40 : decode cX5_might 40 = .ok (.invokestatic 92, 3) := by decide +kernel
theorem dX5_might_43 : decode cX5_might 43 = .ok (.istore 5, 2) := by decide +kernel
theorem dX5_might_45 : decode cX5_might 45 = .ok (.iload 5, 2) := by decide +kernel
theorem dX5_might_47 : decode cX5_might 47 = .ok (.bipush (-4), 2) := by decide +kernel
theorem dX5_might_49 : decode cX5_might 49 = .ok (.if_icmp .eq 10, 3) := by decide +kernel
theorem dX5_might_52 : decode cX5_might 52 = .ok (.iload 5, 2) := by decide +kernel
theorem dX5_might_54 : decode cX5_might 54 = .ok (.iload 4, 2) := by decide +kernel
theorem dX5_might_56 : decode cX5_might 56 = .ok (.if_icmp .ne 24, 3) := by decide +kernel
theorem dX5_might_59 : decode cX5_might 59 = .ok (.aload_n 0, 1) := by decide +kernel
theorem dX5_might_60 : decode cX5_might 60 = .ok (.getfield 31, 3) := by decide +kernel
theorem dX5_might_63 : decode cX5_might 63 = .ok (.bipush 30, 2) := by decide +kernel
theorem dX5_might_65 : decode cX5_might 65 = .ok (.iload_n 2, 1) := by decide +kernel
theorem dX5_might_66 : decode cX5_might 66 = .ok (.imul, 1) := by decide +kernel
theorem dX5_might_67 : decode cX5_might 67 = .ok (.iload_n 3, 1) := by decide +kernel
theorem dX5_might_68 : decode cX5_might 68 = .ok (.iadd, 1) := by decide +kernel
theorem dX5_might_69 : decode cX5_might 69 = .ok (.iaload, 1) := by decide +kernel
theorem dX5_might_70 : decode cX5_might 70 = .ok (.aload_n 1, 1) := by decide +kernel
theorem dX5_might_71 : decode cX5_might 71 = .ok (.iconst 1, 1) := by decide +kernel
theorem dX5_might_72 : decode cX5_might 72 = .ok (.iaload, 1) := by decide +kernel
theorem dX5_might_73 : decode cX5_might 73 = .ok (.if_icmp .lt 7, 3) := by decide +kernel
theorem dX5_might_76 : decode cX5_might 76 = .ok (.iconst 1, 1) := by decide +kernel
theorem dX5_might_77 : decode cX5_might 77 = .ok (.goto 4, 3) := by decide +kernel
theorem dX5_might_80 : decode cX5_might 80 = .ok (.iconst 0, 1) := by decide +kernel
theorem dX5_might_81 : decode cX5_might 81 = .ok (.ireturn, 1) := by decide +kernel
def t_X5_might_81 : am_T := tb_zret
def t_X5_might_80 : am_T := tb_const 0 <|
  t_X5_might_81
def t_X5_might_59 : am_T := tb_aload 0 <|
  tb_getR 5 9 <|
  tb_const 30 <|
  tb_iload 2 <|
  tb_bin (fun x y => x * y) <|
  tb_iload 3 <|
  tb_bin (fun x y => x + y) <|
  tb_iald <|
  tb_aload 1 <|
  tb_const 1 <|
  tb_iald <|
  tb_ic (fun x y => x < y) (t_X5_might_80) <|
  tb_const 1 <|
  t_X5_might_81
def t_X5_might_36 : am_T := tb_aload 1 <|
  tb_const 2 <|
  tb_iload 2 <|
  tb_iload 3 <|
  tb_callS sp_X5_find 4 <|
  tb_istore 5 <|
  tb_iload 5 <|
  tb_const (-4) <|
  tb_ic (fun x y => x = y) (t_X5_might_59) <|
  tb_iload 5 <|
  tb_iload 4 <|
  tb_ic (fun x y => x ≠ y) (t_X5_might_80) <|
  t_X5_might_59
def t_X5_might_34 : am_T := tb_const 0 <|
  tb_zret
def t_X5_might_0 : am_T := tb_aload 0 <|
  tb_getR 5 7 <|
  tb_iload 3 <|
  tb_iald <|
  tb_aload 0 <|
  tb_getR 5 7 <|
  tb_iload 2 <|
  tb_iald <|
  tb_ic (fun x y => y ≤ x) (t_X5_might_34) <|
  tb_aload 1 <|
  tb_iload 2 <|
  tb_const 0 <|
  tb_callS sp_X5_of 3 <|
  tb_aload 1 <|
  tb_iload 3 <|
  tb_const 0 <|
  tb_callS sp_X5_of 3 <|
  tb_bin (fun x y => x - y) <|
  tb_aload 1 <|
  tb_const 0 <|
  tb_iald <|
  tb_ic (fun x y => x ≤ y) (t_X5_might_36) <|
  t_X5_might_34
def h_X5_might : am_Hd := fun h => if h = 0 then t_X5_might_0 else tb_bad
theorem h_X5_might_0 : h_X5_might 0 = t_X5_might_0 := rfl
def rm_X5_might : Room := { frames := 2, cells := 0, slots := 0, locals := 48 }
def sp_X5_might : am_sp := fun as M Q => as.length ≤ 6 ∧ am_OK h_X5_might Q 0 (am_in 6 as) M
theorem s_X5_might_81 {G : am_G} {bc bs : Nat} (X : am_Cx G cX5_might RX5 "might" rm_X5_might (some .boolean) 6 bc bs true) : am_S G 81 (t_X5_might_81) := by
  unfold t_X5_might_81
  exact as_zret (pc := 81) X ⟨rfl, rfl⟩ rfl dX5_might_81
theorem s_X5_might_80 {G : am_G} {bc bs : Nat} (X : am_Cx G cX5_might RX5 "might" rm_X5_might (some .boolean) 6 bc bs true) : am_S G 80 (t_X5_might_80) := by
  unfold t_X5_might_80
  refine as_iconst (pc := 80) X dX5_might_80 (by decide) ?_
  exact s_X5_might_81 X
theorem s_X5_might_59 {G : am_G} {bc bs : Nat} (X : am_Cx G cX5_might RX5 "might" rm_X5_might (some .boolean) 6 bc bs true) : am_S G 59 (t_X5_might_59) := by
  unfold t_X5_might_59
  refine as_aload_n (pc := 59) X dX5_might_59 rfl ?_
  refine as_getR (ci := 5) (j := 9) (pc := 60) X (Cn := RX5) (Tf := TX5) (N := 21) rfl rfl (by decide) iw_X5 aw_747 rfl dX5_might_60 ?_
  refine as_bipush (pc := 63) X dX5_might_63 (by decide) ?_
  refine as_iload_n (pc := 65) X dX5_might_65 rfl ?_
  refine as_imul (pc := 66) X dX5_might_66 ?_
  refine as_iload_n (pc := 67) X dX5_might_67 rfl ?_
  refine as_iadd (pc := 68) X dX5_might_68 ?_
  refine as_iald (pc := 69) X dX5_might_69 ?_
  refine as_aload_n (pc := 70) X dX5_might_70 rfl ?_
  refine as_iconst (pc := 71) X dX5_might_71 (by decide) ?_
  refine as_iald (pc := 72) X dX5_might_72 ?_
  refine as_ic_lt (pc := 73) X 80 dX5_might_73 (by decide) (s_X5_might_80 X) ?_
  refine as_iconst (pc := 76) X dX5_might_76 (by decide) ?_
  exact as_goto (pc := 77) X 81 dX5_might_77 (by decide) (s_X5_might_81 X)
theorem s_X5_might_36 {G : am_G} {bc bs : Nat} (X : am_Cx G cX5_might RX5 "might" rm_X5_might (some .boolean) 6 bc bs true) : am_S G 36 (t_X5_might_36) := by
  unfold t_X5_might_36
  refine as_aload_n (pc := 36) X dX5_might_36 rfl ?_
  refine as_iconst (pc := 37) X dX5_might_37 (by decide) ?_
  refine as_iload_n (pc := 38) X dX5_might_38 rfl ?_
  refine as_iload_n (pc := 39) X dX5_might_39 rfl ?_
  refine as_callS (np := 4) (ix := 92) (pc := 40) X ct_X5_find ⟨rfl, rfl⟩ aw_901 aw_902 aw_903 aw_65 (by decide +kernel) (by decide) dX5_might_40 ?_
  refine as_istore (pc := 43) X dX5_might_43 ?_ (by decide)
  refine as_iload (pc := 45) X dX5_might_45 ?_
  refine as_bipush (pc := 47) X dX5_might_47 (by decide) ?_
  refine as_ic_eq (pc := 49) X 59 dX5_might_49 (by decide) (s_X5_might_59 X) ?_
  refine as_iload (pc := 52) X dX5_might_52 ?_
  refine as_iload (pc := 54) X dX5_might_54 ?_
  refine as_ic_ne (pc := 56) X 80 dX5_might_56 (by decide) (s_X5_might_80 X) ?_
  exact s_X5_might_59 X
theorem s_X5_might_34 {G : am_G} {bc bs : Nat} (X : am_Cx G cX5_might RX5 "might" rm_X5_might (some .boolean) 6 bc bs true) : am_S G 34 (t_X5_might_34) := by
  unfold t_X5_might_34
  refine as_iconst (pc := 34) X dX5_might_34 (by decide) ?_
  exact as_zret (pc := 35) X ⟨rfl, rfl⟩ rfl dX5_might_35
theorem s_X5_might_0 {G : am_G} {bc bs : Nat} (X : am_Cx G cX5_might RX5 "might" rm_X5_might (some .boolean) 6 bc bs true) : am_S G 0 (t_X5_might_0) := by
  unfold t_X5_might_0
  refine as_aload_n (pc := 0) X dX5_might_0 rfl ?_
  refine as_getR (ci := 5) (j := 7) (pc := 1) X (Cn := RX5) (Tf := TX5) (N := 21) rfl rfl (by decide) iw_X5 aw_745 rfl dX5_might_1 ?_
  refine as_iload_n (pc := 4) X dX5_might_4 rfl ?_
  refine as_iald (pc := 5) X dX5_might_5 ?_
  refine as_aload_n (pc := 6) X dX5_might_6 rfl ?_
  refine as_getR (ci := 5) (j := 7) (pc := 7) X (Cn := RX5) (Tf := TX5) (N := 21) rfl rfl (by decide) iw_X5 aw_745 rfl dX5_might_7 ?_
  refine as_iload_n (pc := 10) X dX5_might_10 rfl ?_
  refine as_iald (pc := 11) X dX5_might_11 ?_
  refine as_ic_ge (pc := 12) X 34 dX5_might_12 (by decide) (s_X5_might_34 X) ?_
  refine as_aload_n (pc := 15) X dX5_might_15 rfl ?_
  refine as_iload_n (pc := 16) X dX5_might_16 rfl ?_
  refine as_iconst (pc := 17) X dX5_might_17 (by decide) ?_
  refine as_callS (np := 3) (ix := 71) (pc := 18) X ct_X5_of ⟨rfl, rfl⟩ aw_873 aw_874 aw_875 aw_65 (by decide +kernel) (by decide) dX5_might_18 ?_
  refine as_aload_n (pc := 21) X dX5_might_21 rfl ?_
  refine as_iload_n (pc := 22) X dX5_might_22 rfl ?_
  refine as_iconst (pc := 23) X dX5_might_23 (by decide) ?_
  refine as_callS (np := 3) (ix := 71) (pc := 24) X ct_X5_of ⟨rfl, rfl⟩ aw_873 aw_874 aw_875 aw_65 (by decide +kernel) (by decide) dX5_might_24 ?_
  refine as_isub (pc := 27) X dX5_might_27 ?_
  refine as_aload_n (pc := 28) X dX5_might_28 rfl ?_
  refine as_iconst (pc := 29) X dX5_might_29 (by decide) ?_
  refine as_iald (pc := 30) X dX5_might_30 ?_
  refine as_ic_le (pc := 31) X 36 dX5_might_31 (by decide) (s_X5_might_36 X) ?_
  exact s_X5_might_34 X
theorem s_X5_might {G : am_G} {bc bs : Nat} (X : am_Cx G cX5_might RX5 "might" rm_X5_might (some .boolean) 6 bc bs true) (h : Nat) : am_S G h (h_X5_might h) := by
  unfold h_X5_might
  split
  · next e => rw [e]; exact s_X5_might_0 X
  exact as_bad
theorem ct_X5_might : am_Ct yX5_might cX5_might 6 (some .boolean) rm_X5_might sp_X5_might := am_met (own := RX5) (nm := "might") (by decide) rfl rfl (Or.inr (Or.inr (Or.inl rfl))) (fun _ _ => h_X5_might) (fun _ _ _ X => s_X5_might X) (fun _ _ _ _ h => h)
-- X5_answerOf
theorem dX5_answerOf_0 : decode cX5_answerOf 0 = .ok (.aload_n 1, 1) := by decide +kernel
theorem dX5_answerOf_1 : decode cX5_answerOf 1 = .ok (.iload_n 2, 1) := by decide +kernel
theorem dX5_answerOf_2 : decode cX5_answerOf 2 = .ok (.invokestatic 96, 3) := by decide +kernel
theorem dX5_answerOf_5 : decode cX5_answerOf 5 = .ok (.istore 4, 2) := by decide +kernel
theorem dX5_answerOf_7 : decode cX5_answerOf 7 = .ok (.iload 4, 2) := by decide +kernel
theorem dX5_answerOf_9 : decode cX5_answerOf 9 = .ok (.bipush (-4), 2) := by decide +kernel
theorem dX5_answerOf_11 : decode cX5_answerOf 11 = .ok (.if_icmp .eq 26, 3) := by decide +kernel
theorem dX5_answerOf_14 : decode cX5_answerOf 14 = .ok (.aload_n 1, 1) := by decide +kernel
theorem dX5_answerOf_15 : decode cX5_answerOf 15 = .ok (.iload 4, 2) := by decide +kernel
theorem dX5_answerOf_17 : decode cX5_answerOf 17 = .ok (.iconst 0, 1) := by decide +kernel
theorem dX5_answerOf_18 : decode cX5_answerOf 18 = .ok (.invokestatic 89, 3) := by decide +kernel
theorem dX5_answerOf_21 : decode cX5_answerOf 21 = .ok (.ifCond .ne 8, 3) := by decide +kernel
theorem dX5_answerOf_24 : decode cX5_answerOf 24 = .ok (.bipush (-4), 2) := by decide +kernel
theorem dX5_answerOf_26 : decode cX5_answerOf 26 = .ok (.goto 10, 3) := by decide +kernel
theorem dX5_answerOf_29 : decode cX5_answerOf 29 = .ok (.aload_n 1, 1) := by decide +kernel
theorem dX5_answerOf_30 : decode cX5_answerOf 30 = .ok (.iload 4, 2) := by decide +kernel
theorem dX5_answerOf_32 : decode cX5_answerOf 32 = .ok (.iconst 2, 1) := by decide +kernel
theorem dX5_answerOf_33 : decode cX5_answerOf 33 = .ok (.invokestatic 89, 3) := by decide +kernel
theorem dX5_answerOf_36 : decode cX5_answerOf 36 = .ok (.ireturn, 1) := by decide +kernel
theorem dX5_answerOf_37 : decode cX5_answerOf 37 = .ok (.bipush (-4), 2) := by decide +kernel
theorem dX5_answerOf_39 : decode cX5_answerOf 39 = .ok (.istore 5, 2) := by decide +kernel
theorem dX5_answerOf_41 : decode cX5_answerOf 41 = .ok (.iconst 0, 1) := by decide +kernel
theorem dX5_answerOf_42 : decode cX5_answerOf 42 = .ok (.istore 6, 2) := by decide +kernel
theorem dX5_answerOf_44 : decode cX5_answerOf 44 = .ok (.iload 6, 2) := by decide +kernel
theorem dX5_answerOf_46 : decode cX5_answerOf 46 = .ok (.aload_n 0, 1) := by decide +kernel
theorem dX5_answerOf_47 : decode cX5_answerOf 47 = .ok (.getfield 25, 3) := by decide +kernel
theorem dX5_answerOf_50 : decode cX5_answerOf 50 = .ok (.iload_n 2, 1) := by decide +kernel
theorem dX5_answerOf_51 : decode cX5_answerOf 51 = .ok (.iaload, 1) := by decide +kernel
theorem dX5_answerOf_52 : decode cX5_answerOf 52 = .ok (.if_icmp .ge 77, 3) := by decide +kernel
theorem dX5_answerOf_55 : decode cX5_answerOf 55 = .ok (.aload_n 0, 1) := by decide +kernel
theorem dX5_answerOf_56 : decode cX5_answerOf 56 = .ok (.getfield 22, 3) := by decide +kernel
theorem dX5_answerOf_59 : decode cX5_answerOf 59 = .ok (.iload 6, 2) := by decide +kernel
theorem dX5_answerOf_61 : decode cX5_answerOf 61 = .ok (.iaload, 1) := by decide +kernel
theorem dX5_answerOf_62 : decode cX5_answerOf 62 = .ok (.istore 7, 2) := by decide +kernel
theorem dX5_answerOf_64 : decode cX5_answerOf 64 = .ok (.aload_n 0, 1) := by decide +kernel
theorem dX5_answerOf_65 : decode cX5_answerOf 65 = .ok (.aload_n 1, 1) := by decide +kernel
theorem dX5_answerOf_66 : decode cX5_answerOf 66 = .ok (.iload_n 2, 1) := by decide +kernel
theorem dX5_answerOf_67 : decode cX5_answerOf 67 = .ok (.iload 7, 2) := by decide +kernel
theorem dX5_answerOf_69 : decode cX5_answerOf 69 = .ok (.iload_n 3, 1) := by decide +kernel
theorem dX5_answerOf_70 : decode cX5_answerOf 70 = .ok (.invokevirtual 99, 3) := by decide +kernel
theorem dX5_answerOf_73 : decode cX5_answerOf 73 = .ok (.istore 8, 2) := by decide +kernel
theorem dX5_answerOf_75 : decode cX5_answerOf 75 = .ok (.iload 8, 2) := by decide +kernel
theorem dX5_answerOf_77 : decode cX5_answerOf 77 = .ok (.ifCond .eq 42, 3) := by decide +kernel
theorem dX5_answerOf_80 : decode cX5_answerOf 80 = .ok (.iload 5, 2) := by decide +kernel
theorem dX5_answerOf_82 : decode cX5_answerOf 82 = .ok (.bipush (-4), 2) := by decide +kernel
theorem dX5_answerOf_84 : decode cX5_answerOf 84 = .ok (.if_icmp .eq 30, 3) := by decide +kernel
theorem dX5_answerOf_87 : decode cX5_answerOf 87 = .ok (.aload_n 0, 1) := by decide +kernel
theorem dX5_answerOf_88 : decode cX5_answerOf 88 = .ok (.getfield 31, 3) := by decide +kernel
theorem dX5_answerOf_91 : decode cX5_answerOf 91 = .ok (.bipush 30, 2) := by decide +kernel
theorem dX5_answerOf_93 : decode cX5_answerOf 93 = .ok (.iload_n 2, 1) := by decide +kernel
theorem dX5_answerOf_94 : decode cX5_answerOf 94 = .ok (.imul, 1) := by decide +kernel
theorem dX5_answerOf_95 : decode cX5_answerOf 95 = .ok (.iload 7, 2) := by decide +kernel
theorem dX5_answerOf_97 : decode cX5_answerOf 97 = .ok (.iadd, 1) := by decide +kernel
theorem dX5_answerOf_98 : decode cX5_answerOf 98 = .ok (.iaload, 1) := by decide +kernel
theorem dX5_answerOf_99 : decode cX5_answerOf 99 = .ok (.aload_n 0, 1) := by decide +kernel
theorem dX5_answerOf_100 : decode cX5_answerOf 100 = .ok (.getfield 31, 3) := by decide +kernel
theorem dX5_answerOf_103 : decode cX5_answerOf 103 = .ok (.bipush 30, 2) := by decide +kernel
theorem dX5_answerOf_105 : decode cX5_answerOf 105 = .ok (.iload_n 2, 1) := by decide +kernel
theorem dX5_answerOf_106 : decode cX5_answerOf 106 = .ok (.imul, 1) := by decide +kernel
theorem dX5_answerOf_107 : decode cX5_answerOf 107 = .ok (.iload 5, 2) := by decide +kernel
theorem dX5_answerOf_109 : decode cX5_answerOf 109 = .ok (.iadd, 1) := by decide +kernel
theorem dX5_answerOf_110 : decode cX5_answerOf 110 = .ok (.iaload, 1) := by decide +kernel
theorem dX5_answerOf_111 : decode cX5_answerOf 111 = .ok (.if_icmp .lt 8, 3) := by decide +kernel
theorem dX5_answerOf_114 : decode cX5_answerOf 114 = .ok (.iload 7, 2) := by decide +kernel
theorem dX5_answerOf_116 : decode cX5_answerOf 116 = .ok (.goto 5, 3) := by decide +kernel
theorem dX5_answerOf_119 : decode cX5_answerOf 119 = .ok (.iload 5, 2) := by decide +kernel
theorem dX5_answerOf_121 : decode cX5_answerOf 121 = .ok (.istore 5, 2) := by decide +kernel
theorem dX5_answerOf_123 : decode cX5_answerOf 123 = .ok (.iinc 6 1, 3) := by decide +kernel
theorem dX5_answerOf_126 : decode cX5_answerOf 126 = .ok (.goto (-82), 3) := by decide +kernel
theorem dX5_answerOf_129 : decode cX5_answerOf 129 = .ok (.iload 5, 2) := by decide +kernel
theorem dX5_answerOf_131 : decode cX5_answerOf 131 = .ok (.ireturn, 1) := by decide +kernel
def t_X5_answerOf_129 : am_T := tb_iload 5 <|
  tb_iret
def t_X5_answerOf_121 : am_T := tb_istore 5 <|
  tb_iinc 6 1 <|
  tb_head 44
def t_X5_answerOf_119 : am_T := tb_iload 5 <|
  t_X5_answerOf_121
def t_X5_answerOf_114 : am_T := tb_iload 7 <|
  t_X5_answerOf_121
def t_X5_answerOf_44 : am_T := tb_iload 6 <|
  tb_aload 0 <|
  tb_getR 5 7 <|
  tb_iload 2 <|
  tb_iald <|
  tb_ic (fun x y => y ≤ x) (t_X5_answerOf_129) <|
  tb_aload 0 <|
  tb_getR 5 6 <|
  tb_iload 6 <|
  tb_iald <|
  tb_istore 7 <|
  tb_aload 0 <|
  tb_aload 1 <|
  tb_iload 2 <|
  tb_iload 7 <|
  tb_iload 3 <|
  tb_callV 5 sp_X5_might 5 <|
  tb_istore 8 <|
  tb_iload 8 <|
  tb_if (fun x => x = 0) (t_X5_answerOf_119) <|
  tb_iload 5 <|
  tb_const (-4) <|
  tb_ic (fun x y => x = y) (t_X5_answerOf_114) <|
  tb_aload 0 <|
  tb_getR 5 9 <|
  tb_const 30 <|
  tb_iload 2 <|
  tb_bin (fun x y => x * y) <|
  tb_iload 7 <|
  tb_bin (fun x y => x + y) <|
  tb_iald <|
  tb_aload 0 <|
  tb_getR 5 9 <|
  tb_const 30 <|
  tb_iload 2 <|
  tb_bin (fun x y => x * y) <|
  tb_iload 5 <|
  tb_bin (fun x y => x + y) <|
  tb_iald <|
  tb_ic (fun x y => x < y) (t_X5_answerOf_119) <|
  t_X5_answerOf_114
def t_X5_answerOf_37 : am_T := tb_const (-4) <|
  tb_istore 5 <|
  tb_const 0 <|
  tb_istore 6 <|
  tb_head 44
def t_X5_answerOf_36 : am_T := tb_iret
def t_X5_answerOf_29 : am_T := tb_aload 1 <|
  tb_iload 4 <|
  tb_const 2 <|
  tb_callS sp_X5_told 3 <|
  t_X5_answerOf_36
def t_X5_answerOf_0 : am_T := tb_aload 1 <|
  tb_iload 2 <|
  tb_callS sp_X5_counting 2 <|
  tb_istore 4 <|
  tb_iload 4 <|
  tb_const (-4) <|
  tb_ic (fun x y => x = y) (t_X5_answerOf_37) <|
  tb_aload 1 <|
  tb_iload 4 <|
  tb_const 0 <|
  tb_callS sp_X5_told 3 <|
  tb_if (fun x => x ≠ 0) (t_X5_answerOf_29) <|
  tb_const (-4) <|
  t_X5_answerOf_36
def h_X5_answerOf : am_Hd := fun h => if h = 0 then t_X5_answerOf_0 else if h = 44 then t_X5_answerOf_44 else tb_bad
theorem h_X5_answerOf_0 : h_X5_answerOf 0 = t_X5_answerOf_0 := rfl
theorem h_X5_answerOf_44 : h_X5_answerOf 44 = t_X5_answerOf_44 := rfl
def rm_X5_answerOf : Room := { frames := 3, cells := 0, slots := 0, locals := 73 }
def sp_X5_answerOf : am_sp := fun as M Q => as.length ≤ 9 ∧ am_OK h_X5_answerOf Q 0 (am_in 9 as) M
theorem s_X5_answerOf_129 {G : am_G} {bc bs : Nat} (X : am_Cx G cX5_answerOf RX5 "answerOf" rm_X5_answerOf (some .int) 9 bc bs true) : am_S G 129 (t_X5_answerOf_129) := by
  unfold t_X5_answerOf_129
  refine as_iload (pc := 129) X dX5_answerOf_129 ?_
  exact as_iret (pc := 131) X ⟨rfl, rfl⟩ rfl dX5_answerOf_131
theorem s_X5_answerOf_121 {G : am_G} {bc bs : Nat} (X : am_Cx G cX5_answerOf RX5 "answerOf" rm_X5_answerOf (some .int) 9 bc bs true) : am_S G 121 (t_X5_answerOf_121) := by
  unfold t_X5_answerOf_121
  refine as_istore (pc := 121) X dX5_answerOf_121 ?_ (by decide)
  refine as_iinc (pc := 123) X dX5_answerOf_123 (by decide) (by decide) ?_
  exact as_goto (pc := 126) X 44 dX5_answerOf_126 (by decide) (as_head)
theorem s_X5_answerOf_119 {G : am_G} {bc bs : Nat} (X : am_Cx G cX5_answerOf RX5 "answerOf" rm_X5_answerOf (some .int) 9 bc bs true) : am_S G 119 (t_X5_answerOf_119) := by
  unfold t_X5_answerOf_119
  refine as_iload (pc := 119) X dX5_answerOf_119 ?_
  exact s_X5_answerOf_121 X
theorem s_X5_answerOf_114 {G : am_G} {bc bs : Nat} (X : am_Cx G cX5_answerOf RX5 "answerOf" rm_X5_answerOf (some .int) 9 bc bs true) : am_S G 114 (t_X5_answerOf_114) := by
  unfold t_X5_answerOf_114
  refine as_iload (pc := 114) X dX5_answerOf_114 ?_
  exact as_goto (pc := 116) X 121 dX5_answerOf_116 (by decide) (s_X5_answerOf_121 X)
theorem s_X5_answerOf_44 {G : am_G} {bc bs : Nat} (X : am_Cx G cX5_answerOf RX5 "answerOf" rm_X5_answerOf (some .int) 9 bc bs true) : am_S G 44 (t_X5_answerOf_44) := by
  unfold t_X5_answerOf_44
  refine as_iload (pc := 44) X dX5_answerOf_44 ?_
  refine as_aload_n (pc := 46) X dX5_answerOf_46 rfl ?_
  refine as_getR (ci := 5) (j := 7) (pc := 47) X (Cn := RX5) (Tf := TX5) (N := 21) rfl rfl (by decide) iw_X5 aw_745 rfl dX5_answerOf_47 ?_
  refine as_iload_n (pc := 50) X dX5_answerOf_50 rfl ?_
  refine as_iald (pc := 51) X dX5_answerOf_51 ?_
  refine as_ic_ge (pc := 52) X 129 dX5_answerOf_52 (by decide) (s_X5_answerOf_129 X) ?_
  refine as_aload_n (pc := 55) X dX5_answerOf_55 rfl ?_
  refine as_getR (ci := 5) (j := 6) (pc := 56) X (Cn := RX5) (Tf := TX5) (N := 21) rfl rfl (by decide) iw_X5 aw_744 rfl dX5_answerOf_56 ?_
  refine as_iload (pc := 59) X dX5_answerOf_59 ?_
  refine as_iald (pc := 61) X dX5_answerOf_61 ?_
  refine as_istore (pc := 62) X dX5_answerOf_62 ?_ (by decide)
  refine as_aload_n (pc := 64) X dX5_answerOf_64 rfl ?_
  refine as_aload_n (pc := 65) X dX5_answerOf_65 rfl ?_
  refine as_iload_n (pc := 66) X dX5_answerOf_66 rfl ?_
  refine as_iload (pc := 67) X dX5_answerOf_67 ?_
  refine as_iload_n (pc := 69) X dX5_answerOf_69 rfl ?_
  refine as_callV (ci := 5) (np := 4) (ix := 99) (pc := 70) X ct_X5_might (Cn := (RX5, TX5, 21)) rfl ⟨rfl, rfl⟩ aw_897 aw_899 aw_35 aw_900 aw_65 (by decide +kernel) (by decide) dX5_answerOf_70 ?_
  refine as_istore (pc := 73) X dX5_answerOf_73 ?_ (by decide)
  refine as_iload (pc := 75) X dX5_answerOf_75 ?_
  refine as_if_eq (pc := 77) X 119 dX5_answerOf_77 (by decide) (s_X5_answerOf_119 X) ?_
  refine as_iload (pc := 80) X dX5_answerOf_80 ?_
  refine as_bipush (pc := 82) X dX5_answerOf_82 (by decide) ?_
  refine as_ic_eq (pc := 84) X 114 dX5_answerOf_84 (by decide) (s_X5_answerOf_114 X) ?_
  refine as_aload_n (pc := 87) X dX5_answerOf_87 rfl ?_
  refine as_getR (ci := 5) (j := 9) (pc := 88) X (Cn := RX5) (Tf := TX5) (N := 21) rfl rfl (by decide) iw_X5 aw_747 rfl dX5_answerOf_88 ?_
  refine as_bipush (pc := 91) X dX5_answerOf_91 (by decide) ?_
  refine as_iload_n (pc := 93) X dX5_answerOf_93 rfl ?_
  refine as_imul (pc := 94) X dX5_answerOf_94 ?_
  refine as_iload (pc := 95) X dX5_answerOf_95 ?_
  refine as_iadd (pc := 97) X dX5_answerOf_97 ?_
  refine as_iald (pc := 98) X dX5_answerOf_98 ?_
  refine as_aload_n (pc := 99) X dX5_answerOf_99 rfl ?_
  refine as_getR (ci := 5) (j := 9) (pc := 100) X (Cn := RX5) (Tf := TX5) (N := 21) rfl rfl (by decide) iw_X5 aw_747 rfl dX5_answerOf_100 ?_
  refine as_bipush (pc := 103) X dX5_answerOf_103 (by decide) ?_
  refine as_iload_n (pc := 105) X dX5_answerOf_105 rfl ?_
  refine as_imul (pc := 106) X dX5_answerOf_106 ?_
  refine as_iload (pc := 107) X dX5_answerOf_107 ?_
  refine as_iadd (pc := 109) X dX5_answerOf_109 ?_
  refine as_iald (pc := 110) X dX5_answerOf_110 ?_
  refine as_ic_lt (pc := 111) X 119 dX5_answerOf_111 (by decide) (s_X5_answerOf_119 X) ?_
  exact s_X5_answerOf_114 X
theorem s_X5_answerOf_37 {G : am_G} {bc bs : Nat} (X : am_Cx G cX5_answerOf RX5 "answerOf" rm_X5_answerOf (some .int) 9 bc bs true) : am_S G 37 (t_X5_answerOf_37) := by
  unfold t_X5_answerOf_37
  refine as_bipush (pc := 37) X dX5_answerOf_37 (by decide) ?_
  refine as_istore (pc := 39) X dX5_answerOf_39 ?_ (by decide)
  refine as_iconst (pc := 41) X dX5_answerOf_41 (by decide) ?_
  refine as_istore (pc := 42) X dX5_answerOf_42 ?_ (by decide)
  exact as_head
theorem s_X5_answerOf_36 {G : am_G} {bc bs : Nat} (X : am_Cx G cX5_answerOf RX5 "answerOf" rm_X5_answerOf (some .int) 9 bc bs true) : am_S G 36 (t_X5_answerOf_36) := by
  unfold t_X5_answerOf_36
  exact as_iret (pc := 36) X ⟨rfl, rfl⟩ rfl dX5_answerOf_36
theorem s_X5_answerOf_29 {G : am_G} {bc bs : Nat} (X : am_Cx G cX5_answerOf RX5 "answerOf" rm_X5_answerOf (some .int) 9 bc bs true) : am_S G 29 (t_X5_answerOf_29) := by
  unfold t_X5_answerOf_29
  refine as_aload_n (pc := 29) X dX5_answerOf_29 rfl ?_
  refine as_iload (pc := 30) X dX5_answerOf_30 ?_
  refine as_iconst (pc := 32) X dX5_answerOf_32 (by decide) ?_
  refine as_callS (np := 3) (ix := 89) (pc := 33) X ct_X5_told ⟨rfl, rfl⟩ aw_851 aw_852 aw_853 aw_65 (by decide +kernel) (by decide) dX5_answerOf_33 ?_
  exact s_X5_answerOf_36 X
theorem s_X5_answerOf_0 {G : am_G} {bc bs : Nat} (X : am_Cx G cX5_answerOf RX5 "answerOf" rm_X5_answerOf (some .int) 9 bc bs true) : am_S G 0 (t_X5_answerOf_0) := by
  unfold t_X5_answerOf_0
  refine as_aload_n (pc := 0) X dX5_answerOf_0 rfl ?_
  refine as_iload_n (pc := 1) X dX5_answerOf_1 rfl ?_
  refine as_callS (np := 2) (ix := 96) (pc := 2) X ct_X5_counting ⟨rfl, rfl⟩ aw_894 aw_895 aw_896 aw_65 (by decide +kernel) (by decide) dX5_answerOf_2 ?_
  refine as_istore (pc := 5) X dX5_answerOf_5 ?_ (by decide)
  refine as_iload (pc := 7) X dX5_answerOf_7 ?_
  refine as_bipush (pc := 9) X dX5_answerOf_9 (by decide) ?_
  refine as_ic_eq (pc := 11) X 37 dX5_answerOf_11 (by decide) (s_X5_answerOf_37 X) ?_
  refine as_aload_n (pc := 14) X dX5_answerOf_14 rfl ?_
  refine as_iload (pc := 15) X dX5_answerOf_15 ?_
  refine as_iconst (pc := 17) X dX5_answerOf_17 (by decide) ?_
  refine as_callS (np := 3) (ix := 89) (pc := 18) X ct_X5_told ⟨rfl, rfl⟩ aw_851 aw_852 aw_853 aw_65 (by decide +kernel) (by decide) dX5_answerOf_18 ?_
  refine as_if_ne (pc := 21) X 29 dX5_answerOf_21 (by decide) (s_X5_answerOf_29 X) ?_
  refine as_bipush (pc := 24) X dX5_answerOf_24 (by decide) ?_
  exact as_goto (pc := 26) X 36 dX5_answerOf_26 (by decide) (s_X5_answerOf_36 X)
theorem s_X5_answerOf {G : am_G} {bc bs : Nat} (X : am_Cx G cX5_answerOf RX5 "answerOf" rm_X5_answerOf (some .int) 9 bc bs true) (h : Nat) : am_S G h (h_X5_answerOf h) := by
  unfold h_X5_answerOf
  split
  · next e => rw [e]; exact s_X5_answerOf_0 X
  split
  · next e => rw [e]; exact s_X5_answerOf_44 X
  exact as_bad
theorem ct_X5_answerOf : am_Ct yX5_answerOf cX5_answerOf 9 (some .int) rm_X5_answerOf sp_X5_answerOf := am_met (own := RX5) (nm := "answerOf") (by decide) rfl rfl (Or.inr (Or.inl rfl)) (fun _ _ => h_X5_answerOf) (fun _ _ _ X => s_X5_answerOf X) (fun _ _ _ _ h => h)
-- X5_speaksToBoth
theorem dX5_speaksToBoth_0 : decode cX5_speaksToBoth 0 = .ok (.aload_n 1, 1) := by decide +kernel
theorem dX5_speaksToBoth_1 : decode cX5_speaksToBoth 1 = .ok (.iload_n 3, 1) := by decide +kernel
theorem dX5_speaksToBoth_2 : decode cX5_speaksToBoth 2 = .ok (.iconst 1, 1) := by decide +kernel
theorem dX5_speaksToBoth_3 : decode cX5_speaksToBoth 3 = .ok (.invokestatic 71, 3) := by decide +kernel
theorem dX5_speaksToBoth_6 : decode cX5_speaksToBoth 6 = .ok (.istore 5, 2) := by decide +kernel
theorem dX5_speaksToBoth_8 : decode cX5_speaksToBoth 8 = .ok (.aload_n 1, 1) := by decide +kernel
theorem dX5_speaksToBoth_9 : decode cX5_speaksToBoth 9 = .ok (.iload 4, 2) := by decide +kernel
theorem dX5_speaksToBoth_11 : decode cX5_speaksToBoth 11 = .ok (.iconst 1, 1) := by decide +kernel
theorem dX5_speaksToBoth_12 : decode cX5_speaksToBoth 12 = .ok (.invokestatic 71, 3) := by decide +kernel
theorem dX5_speaksToBoth_15 : decode cX5_speaksToBoth 15 = .ok (.istore 6, 2) := by decide +kernel
theorem dX5_speaksToBoth_17 : decode cX5_speaksToBoth 17 = .ok (.iload 5, 2) := by decide +kernel
theorem dX5_speaksToBoth_19 : decode cX5_speaksToBoth 19 = .ok (.iload 6, 2) := by decide +kernel
theorem dX5_speaksToBoth_21 : decode cX5_speaksToBoth 21 = .ok (.if_icmp .eq 37, 3) := by decide +kernel
theorem dX5_speaksToBoth_24 : decode cX5_speaksToBoth 24 = .ok (.aload_n 0, 1) := by decide +kernel
theorem dX5_speaksToBoth_25 : decode cX5_speaksToBoth 25 = .ok (.getfield 28, 3) := by decide +kernel
theorem dX5_speaksToBoth_28 : decode cX5_speaksToBoth 28 = .ok (.iload_n 2, 1) := by decide +kernel
theorem dX5_speaksToBoth_29 : decode cX5_speaksToBoth 29 = .ok (.iaload, 1) := by decide +kernel
theorem dX5_speaksToBoth_30 : decode cX5_speaksToBoth 30 = .ok (.iload 5, 2) := by decide +kernel
theorem dX5_speaksToBoth_32 : decode cX5_speaksToBoth 32 = .ok (.ishr, 1) := by decide +kernel
theorem dX5_speaksToBoth_33 : decode cX5_speaksToBoth 33 = .ok (.iconst 1, 1) := by decide +kernel
theorem dX5_speaksToBoth_34 : decode cX5_speaksToBoth 34 = .ok (.iand, 1) := by decide +kernel
theorem dX5_speaksToBoth_35 : decode cX5_speaksToBoth 35 = .ok (.iconst 1, 1) := by decide +kernel
theorem dX5_speaksToBoth_36 : decode cX5_speaksToBoth 36 = .ok (.if_icmp .ne 22, 3) := by decide +kernel
theorem dX5_speaksToBoth_39 : decode cX5_speaksToBoth 39 = .ok (.aload_n 0, 1) := by decide +kernel
theorem dX5_speaksToBoth_40 : decode cX5_speaksToBoth 40 = .ok (.getfield 28, 3) := by decide +kernel
theorem dX5_speaksToBoth_43 : decode cX5_speaksToBoth 43 = .ok (.iload_n 2, 1) := by decide +kernel
theorem dX5_speaksToBoth_44 : decode cX5_speaksToBoth 44 = .ok (.iaload, 1) := by decide +kernel
theorem dX5_speaksToBoth_45 : decode cX5_speaksToBoth 45 = .ok (.iload 6, 2) := by decide +kernel
theorem dX5_speaksToBoth_47 : decode cX5_speaksToBoth 47 = .ok (.ishr, 1) := by decide +kernel
theorem dX5_speaksToBoth_48 : decode cX5_speaksToBoth 48 = .ok (.iconst 1, 1) := by decide +kernel
theorem dX5_speaksToBoth_49 : decode cX5_speaksToBoth 49 = .ok (.iand, 1) := by decide +kernel
theorem dX5_speaksToBoth_50 : decode cX5_speaksToBoth 50 = .ok (.iconst 1, 1) := by decide +kernel
theorem dX5_speaksToBoth_51 : decode cX5_speaksToBoth 51 = .ok (.if_icmp .ne 7, 3) := by decide +kernel
theorem dX5_speaksToBoth_54 : decode cX5_speaksToBoth 54 = .ok (.iconst 1, 1) := by decide +kernel
theorem dX5_speaksToBoth_55 : decode cX5_speaksToBoth 55 = .ok (.goto 4, 3) := by decide +kernel
theorem dX5_speaksToBoth_58 : decode cX5_speaksToBoth 58 = .ok (.iconst 0, 1) := by decide +kernel
theorem dX5_speaksToBoth_59 : decode cX5_speaksToBoth 59 = .ok (.ireturn, 1) := by decide +kernel
def t_X5_speaksToBoth_59 : am_T := tb_zret
def t_X5_speaksToBoth_58 : am_T := tb_const 0 <|
  t_X5_speaksToBoth_59
def t_X5_speaksToBoth_0 : am_T := tb_aload 1 <|
  tb_iload 3 <|
  tb_const 1 <|
  tb_callS sp_X5_of 3 <|
  tb_istore 5 <|
  tb_aload 1 <|
  tb_iload 4 <|
  tb_const 1 <|
  tb_callS sp_X5_of 3 <|
  tb_istore 6 <|
  tb_iload 5 <|
  tb_iload 6 <|
  tb_ic (fun x y => x = y) (t_X5_speaksToBoth_58) <|
  tb_aload 0 <|
  tb_getR 5 8 <|
  tb_iload 2 <|
  tb_iald <|
  tb_iload 5 <|
  tb_bin (fun x y => x >>> (y &&& 31)) <|
  tb_const 1 <|
  tb_bin (fun x y => x &&& y) <|
  tb_const 1 <|
  tb_ic (fun x y => x ≠ y) (t_X5_speaksToBoth_58) <|
  tb_aload 0 <|
  tb_getR 5 8 <|
  tb_iload 2 <|
  tb_iald <|
  tb_iload 6 <|
  tb_bin (fun x y => x >>> (y &&& 31)) <|
  tb_const 1 <|
  tb_bin (fun x y => x &&& y) <|
  tb_const 1 <|
  tb_ic (fun x y => x ≠ y) (t_X5_speaksToBoth_58) <|
  tb_const 1 <|
  t_X5_speaksToBoth_59
def h_X5_speaksToBoth : am_Hd := fun h => if h = 0 then t_X5_speaksToBoth_0 else tb_bad
theorem h_X5_speaksToBoth_0 : h_X5_speaksToBoth 0 = t_X5_speaksToBoth_0 := rfl
def rm_X5_speaksToBoth : Room := { frames := 1, cells := 0, slots := 0, locals := 22 }
def sp_X5_speaksToBoth : am_sp := fun as M Q => as.length ≤ 7 ∧ am_OK h_X5_speaksToBoth Q 0 (am_in 7 as) M
theorem s_X5_speaksToBoth_59 {G : am_G} {bc bs : Nat} (X : am_Cx G cX5_speaksToBoth RX5 "speaksToBoth" rm_X5_speaksToBoth (some .boolean) 7 bc bs true) : am_S G 59 (t_X5_speaksToBoth_59) := by
  unfold t_X5_speaksToBoth_59
  exact as_zret (pc := 59) X ⟨rfl, rfl⟩ rfl dX5_speaksToBoth_59
theorem s_X5_speaksToBoth_58 {G : am_G} {bc bs : Nat} (X : am_Cx G cX5_speaksToBoth RX5 "speaksToBoth" rm_X5_speaksToBoth (some .boolean) 7 bc bs true) : am_S G 58 (t_X5_speaksToBoth_58) := by
  unfold t_X5_speaksToBoth_58
  refine as_iconst (pc := 58) X dX5_speaksToBoth_58 (by decide) ?_
  exact s_X5_speaksToBoth_59 X
theorem s_X5_speaksToBoth_0 {G : am_G} {bc bs : Nat} (X : am_Cx G cX5_speaksToBoth RX5 "speaksToBoth" rm_X5_speaksToBoth (some .boolean) 7 bc bs true) : am_S G 0 (t_X5_speaksToBoth_0) := by
  unfold t_X5_speaksToBoth_0
  refine as_aload_n (pc := 0) X dX5_speaksToBoth_0 rfl ?_
  refine as_iload_n (pc := 1) X dX5_speaksToBoth_1 rfl ?_
  refine as_iconst (pc := 2) X dX5_speaksToBoth_2 (by decide) ?_
  refine as_callS (np := 3) (ix := 71) (pc := 3) X ct_X5_of ⟨rfl, rfl⟩ aw_873 aw_874 aw_875 aw_65 (by decide +kernel) (by decide) dX5_speaksToBoth_3 ?_
  refine as_istore (pc := 6) X dX5_speaksToBoth_6 ?_ (by decide)
  refine as_aload_n (pc := 8) X dX5_speaksToBoth_8 rfl ?_
  refine as_iload (pc := 9) X dX5_speaksToBoth_9 ?_
  refine as_iconst (pc := 11) X dX5_speaksToBoth_11 (by decide) ?_
  refine as_callS (np := 3) (ix := 71) (pc := 12) X ct_X5_of ⟨rfl, rfl⟩ aw_873 aw_874 aw_875 aw_65 (by decide +kernel) (by decide) dX5_speaksToBoth_12 ?_
  refine as_istore (pc := 15) X dX5_speaksToBoth_15 ?_ (by decide)
  refine as_iload (pc := 17) X dX5_speaksToBoth_17 ?_
  refine as_iload (pc := 19) X dX5_speaksToBoth_19 ?_
  refine as_ic_eq (pc := 21) X 58 dX5_speaksToBoth_21 (by decide) (s_X5_speaksToBoth_58 X) ?_
  refine as_aload_n (pc := 24) X dX5_speaksToBoth_24 rfl ?_
  refine as_getR (ci := 5) (j := 8) (pc := 25) X (Cn := RX5) (Tf := TX5) (N := 21) rfl rfl (by decide) iw_X5 aw_746 rfl dX5_speaksToBoth_25 ?_
  refine as_iload_n (pc := 28) X dX5_speaksToBoth_28 rfl ?_
  refine as_iald (pc := 29) X dX5_speaksToBoth_29 ?_
  refine as_iload (pc := 30) X dX5_speaksToBoth_30 ?_
  refine as_ishr (pc := 32) X dX5_speaksToBoth_32 ?_
  refine as_iconst (pc := 33) X dX5_speaksToBoth_33 (by decide) ?_
  refine as_iand (pc := 34) X dX5_speaksToBoth_34 ?_
  refine as_iconst (pc := 35) X dX5_speaksToBoth_35 (by decide) ?_
  refine as_ic_ne (pc := 36) X 58 dX5_speaksToBoth_36 (by decide) (s_X5_speaksToBoth_58 X) ?_
  refine as_aload_n (pc := 39) X dX5_speaksToBoth_39 rfl ?_
  refine as_getR (ci := 5) (j := 8) (pc := 40) X (Cn := RX5) (Tf := TX5) (N := 21) rfl rfl (by decide) iw_X5 aw_746 rfl dX5_speaksToBoth_40 ?_
  refine as_iload_n (pc := 43) X dX5_speaksToBoth_43 rfl ?_
  refine as_iald (pc := 44) X dX5_speaksToBoth_44 ?_
  refine as_iload (pc := 45) X dX5_speaksToBoth_45 ?_
  refine as_ishr (pc := 47) X dX5_speaksToBoth_47 ?_
  refine as_iconst (pc := 48) X dX5_speaksToBoth_48 (by decide) ?_
  refine as_iand (pc := 49) X dX5_speaksToBoth_49 ?_
  refine as_iconst (pc := 50) X dX5_speaksToBoth_50 (by decide) ?_
  refine as_ic_ne (pc := 51) X 58 dX5_speaksToBoth_51 (by decide) (s_X5_speaksToBoth_58 X) ?_
  refine as_iconst (pc := 54) X dX5_speaksToBoth_54 (by decide) ?_
  exact as_goto (pc := 55) X 59 dX5_speaksToBoth_55 (by decide) (s_X5_speaksToBoth_59 X)
theorem s_X5_speaksToBoth {G : am_G} {bc bs : Nat} (X : am_Cx G cX5_speaksToBoth RX5 "speaksToBoth" rm_X5_speaksToBoth (some .boolean) 7 bc bs true) (h : Nat) : am_S G h (h_X5_speaksToBoth h) := by
  unfold h_X5_speaksToBoth
  split
  · next e => rw [e]; exact s_X5_speaksToBoth_0 X
  exact as_bad
theorem ct_X5_speaksToBoth : am_Ct yX5_speaksToBoth cX5_speaksToBoth 7 (some .boolean) rm_X5_speaksToBoth sp_X5_speaksToBoth := am_met (own := RX5) (nm := "speaksToBoth") (by decide) rfl rfl (Or.inr (Or.inr (Or.inl rfl))) (fun _ _ => h_X5_speaksToBoth) (fun _ _ _ X => s_X5_speaksToBoth X) (fun _ _ _ _ h => h)
-- X5_unites
theorem dX5_unites_0 : decode cX5_unites 0 = .ok (.iconst 0, 1) := by decide +kernel
theorem dX5_unites_1 : decode cX5_unites 1 = .ok (.istore 4, 2) := by decide +kernel
theorem dX5_unites_3 : decode cX5_unites 3 = .ok (.iload 4, 2) := by decide +kernel
theorem dX5_unites_5 : decode cX5_unites 5 = .ok (.aload_n 1, 1) := by decide +kernel
theorem dX5_unites_6 : decode cX5_unites 6 = .ok (.bipush 9, 2) := by decide +kernel
theorem dX5_unites_8 : decode cX5_unites 8 = .ok (.iaload, 1) := by decide +kernel
theorem dX5_unites_9 : decode cX5_unites 9 = .ok (.if_icmp .ge 38, 3) := by decide +kernel
theorem dX5_unites_12 : decode cX5_unites 12 = .ok (.aload_n 0, 1) := by decide +kernel
theorem dX5_unites_13 : decode cX5_unites 13 = .ok (.getfield 37, 3) := by decide +kernel
theorem dX5_unites_16 : decode cX5_unites 16 = .ok (.iload 4, 2) := by decide +kernel
theorem dX5_unites_18 : decode cX5_unites 18 = .ok (.aload_n 0, 1) := by decide +kernel
theorem dX5_unites_19 : decode cX5_unites 19 = .ok (.getfield 37, 3) := by decide +kernel
theorem dX5_unites_22 : decode cX5_unites 22 = .ok (.iload 4, 2) := by decide +kernel
theorem dX5_unites_24 : decode cX5_unites 24 = .ok (.iaload, 1) := by decide +kernel
theorem dX5_unites_25 : decode cX5_unites 25 = .ok (.iload_n 3, 1) := by decide +kernel
theorem dX5_unites_26 : decode cX5_unites 26 = .ok (.if_icmp .ne 7, 3) := by decide +kernel
theorem dX5_unites_29 : decode cX5_unites 29 = .ok (.iload_n 2, 1) := by decide +kernel
theorem dX5_unites_30 : decode cX5_unites 30 = .ok (.goto 10, 3) := by decide +kernel
theorem dX5_unites_33 : decode cX5_unites 33 = .ok (.aload_n 0, 1) := by decide +kernel
theorem dX5_unites_34 : decode cX5_unites 34 = .ok (.getfield 37, 3) := by decide +kernel
theorem dX5_unites_37 : decode cX5_unites 37 = .ok (.iload 4, 2) := by decide +kernel
theorem dX5_unites_39 : decode cX5_unites 39 = .ok (.iaload, 1) := by decide +kernel
theorem dX5_unites_40 : decode cX5_unites 40 = .ok (.iastore, 1) := by decide +kernel
theorem dX5_unites_41 : decode cX5_unites 41 = .ok (.iinc 4 1, 3) := by decide +kernel
theorem dX5_unites_44 : decode cX5_unites 44 = .ok (.goto (-41), 3) := by decide +kernel
theorem dX5_unites_47 : decode cX5_unites 47 = .ok (.return_, 1) := by decide +kernel
def t_X5_unites_47 : am_T := tb_ret
def t_X5_unites_40 : am_T := tb_iast <|
  tb_iinc 4 1 <|
  tb_head 3
def t_X5_unites_33 : am_T := tb_aload 0 <|
  tb_getR 5 11 <|
  tb_iload 4 <|
  tb_iald <|
  t_X5_unites_40
def t_X5_unites_3 : am_T := tb_iload 4 <|
  tb_aload 1 <|
  tb_const 9 <|
  tb_iald <|
  tb_ic (fun x y => y ≤ x) (t_X5_unites_47) <|
  tb_aload 0 <|
  tb_getR 5 11 <|
  tb_iload 4 <|
  tb_aload 0 <|
  tb_getR 5 11 <|
  tb_iload 4 <|
  tb_iald <|
  tb_iload 3 <|
  tb_ic (fun x y => x ≠ y) (t_X5_unites_33) <|
  tb_iload 2 <|
  t_X5_unites_40
def t_X5_unites_0 : am_T := tb_const 0 <|
  tb_istore 4 <|
  tb_head 3
def h_X5_unites : am_Hd := fun h => if h = 0 then t_X5_unites_0 else if h = 3 then t_X5_unites_3 else tb_bad
theorem h_X5_unites_0 : h_X5_unites 0 = t_X5_unites_0 := rfl
theorem h_X5_unites_3 : h_X5_unites 3 = t_X5_unites_3 := rfl
def rm_X5_unites : Room := { frames := 0, cells := 0, slots := 0, locals := 0 }
def sp_X5_unites : am_sp := fun as M Q => as.length ≤ 5 ∧ am_OK h_X5_unites Q 0 (am_in 5 as) M
theorem s_X5_unites_47 {G : am_G} {bc bs : Nat} (X : am_Cx G cX5_unites RX5 "unites" rm_X5_unites none 5 bc bs true) : am_S G 47 (t_X5_unites_47) := by
  unfold t_X5_unites_47
  exact as_ret (pc := 47) X ⟨rfl, rfl⟩ rfl dX5_unites_47
theorem s_X5_unites_40 {G : am_G} {bc bs : Nat} (X : am_Cx G cX5_unites RX5 "unites" rm_X5_unites none 5 bc bs true) : am_S G 40 (t_X5_unites_40) := by
  unfold t_X5_unites_40
  refine as_iast (pc := 40) X dX5_unites_40 ?_
  refine as_iinc (pc := 41) X dX5_unites_41 (by decide) (by decide) ?_
  exact as_goto (pc := 44) X 3 dX5_unites_44 (by decide) (as_head)
theorem s_X5_unites_33 {G : am_G} {bc bs : Nat} (X : am_Cx G cX5_unites RX5 "unites" rm_X5_unites none 5 bc bs true) : am_S G 33 (t_X5_unites_33) := by
  unfold t_X5_unites_33
  refine as_aload_n (pc := 33) X dX5_unites_33 rfl ?_
  refine as_getR (ci := 5) (j := 11) (pc := 34) X (Cn := RX5) (Tf := TX5) (N := 21) rfl rfl (by decide) iw_X5 aw_749 rfl dX5_unites_34 ?_
  refine as_iload (pc := 37) X dX5_unites_37 ?_
  refine as_iald (pc := 39) X dX5_unites_39 ?_
  exact s_X5_unites_40 X
theorem s_X5_unites_3 {G : am_G} {bc bs : Nat} (X : am_Cx G cX5_unites RX5 "unites" rm_X5_unites none 5 bc bs true) : am_S G 3 (t_X5_unites_3) := by
  unfold t_X5_unites_3
  refine as_iload (pc := 3) X dX5_unites_3 ?_
  refine as_aload_n (pc := 5) X dX5_unites_5 rfl ?_
  refine as_bipush (pc := 6) X dX5_unites_6 (by decide) ?_
  refine as_iald (pc := 8) X dX5_unites_8 ?_
  refine as_ic_ge (pc := 9) X 47 dX5_unites_9 (by decide) (s_X5_unites_47 X) ?_
  refine as_aload_n (pc := 12) X dX5_unites_12 rfl ?_
  refine as_getR (ci := 5) (j := 11) (pc := 13) X (Cn := RX5) (Tf := TX5) (N := 21) rfl rfl (by decide) iw_X5 aw_749 rfl dX5_unites_13 ?_
  refine as_iload (pc := 16) X dX5_unites_16 ?_
  refine as_aload_n (pc := 18) X dX5_unites_18 rfl ?_
  refine as_getR (ci := 5) (j := 11) (pc := 19) X (Cn := RX5) (Tf := TX5) (N := 21) rfl rfl (by decide) iw_X5 aw_749 rfl dX5_unites_19 ?_
  refine as_iload (pc := 22) X dX5_unites_22 ?_
  refine as_iald (pc := 24) X dX5_unites_24 ?_
  refine as_iload_n (pc := 25) X dX5_unites_25 rfl ?_
  refine as_ic_ne (pc := 26) X 33 dX5_unites_26 (by decide) (s_X5_unites_33 X) ?_
  refine as_iload_n (pc := 29) X dX5_unites_29 rfl ?_
  exact as_goto (pc := 30) X 40 dX5_unites_30 (by decide) (s_X5_unites_40 X)
theorem s_X5_unites_0 {G : am_G} {bc bs : Nat} (X : am_Cx G cX5_unites RX5 "unites" rm_X5_unites none 5 bc bs true) : am_S G 0 (t_X5_unites_0) := by
  unfold t_X5_unites_0
  refine as_iconst (pc := 0) X dX5_unites_0 (by decide) ?_
  refine as_istore (pc := 1) X dX5_unites_1 ?_ (by decide)
  exact as_head
theorem s_X5_unites {G : am_G} {bc bs : Nat} (X : am_Cx G cX5_unites RX5 "unites" rm_X5_unites none 5 bc bs true) (h : Nat) : am_S G h (h_X5_unites h) := by
  unfold h_X5_unites
  split
  · next e => rw [e]; exact s_X5_unites_0 X
  split
  · next e => rw [e]; exact s_X5_unites_3 X
  exact as_bad
theorem ct_X5_unites : am_Ct yX5_unites cX5_unites 5 none rm_X5_unites sp_X5_unites := am_met (own := RX5) (nm := "unites") (by decide) rfl rfl (Or.inl rfl) (fun _ _ => h_X5_unites) (fun _ _ _ X => s_X5_unites X) (fun _ _ _ _ h => h)
-- X5_joins
theorem dX5_joins_0 : decode cX5_joins 0 = .ok (.aload_n 0, 1) := by decide +kernel
theorem dX5_joins_1 : decode cX5_joins 1 = .ok (.getfield 34, 3) := by decide +kernel
theorem dX5_joins_4 : decode cX5_joins 4 = .ok (.iload_n 2, 1) := by decide +kernel
theorem dX5_joins_5 : decode cX5_joins 5 = .ok (.iaload, 1) := by decide +kernel
theorem dX5_joins_6 : decode cX5_joins 6 = .ok (.istore_n 3, 1) := by decide +kernel
theorem dX5_joins_7 : decode cX5_joins 7 = .ok (.aload_n 0, 1) := by decide +kernel
theorem dX5_joins_8 : decode cX5_joins 8 = .ok (.getfield 31, 3) := by decide +kernel
theorem dX5_joins_11 : decode cX5_joins 11 = .ok (.bipush 30, 2) := by decide +kernel
theorem dX5_joins_13 : decode cX5_joins 13 = .ok (.iload_n 2, 1) := by decide +kernel
theorem dX5_joins_14 : decode cX5_joins 14 = .ok (.imul, 1) := by decide +kernel
theorem dX5_joins_15 : decode cX5_joins 15 = .ok (.iload_n 3, 1) := by decide +kernel
theorem dX5_joins_16 : decode cX5_joins 16 = .ok (.iadd, 1) := by decide +kernel
theorem dX5_joins_17 : decode cX5_joins 17 = .ok (.iaload, 1) := by decide +kernel
theorem dX5_joins_18 : decode cX5_joins 18 = .ok (.aload_n 1, 1) := by decide +kernel
theorem dX5_joins_19 : decode cX5_joins 19 = .ok (.bipush 7, 2) := by decide +kernel
theorem dX5_joins_21 : decode cX5_joins 21 = .ok (.iaload, 1) := by decide +kernel
theorem dX5_joins_22 : decode cX5_joins 22 = .ok (.isub, 1) := by decide +kernel
theorem dX5_joins_23 : decode cX5_joins 23 = .ok (.istore 4, 2) := by decide +kernel
theorem dX5_joins_25 : decode cX5_joins 25 = .ok (.aload_n 0, 1) := by decide +kernel
theorem dX5_joins_26 : decode cX5_joins 26 = .ok (.getfield 25, 3) := by decide +kernel
theorem dX5_joins_29 : decode cX5_joins 29 = .ok (.iload_n 2, 1) := by decide +kernel
theorem dX5_joins_30 : decode cX5_joins 30 = .ok (.iaload, 1) := by decide +kernel
theorem dX5_joins_31 : decode cX5_joins 31 = .ok (.iconst 1, 1) := by decide +kernel
theorem dX5_joins_32 : decode cX5_joins 32 = .ok (.isub, 1) := by decide +kernel
theorem dX5_joins_33 : decode cX5_joins 33 = .ok (.istore 5, 2) := by decide +kernel
theorem dX5_joins_35 : decode cX5_joins 35 = .ok (.iload 5, 2) := by decide +kernel
theorem dX5_joins_37 : decode cX5_joins 37 = .ok (.ifCond .lt 122, 3) := by decide +kernel
theorem dX5_joins_40 : decode cX5_joins 40 = .ok (.aload_n 0, 1) := by decide +kernel
theorem dX5_joins_41 : decode cX5_joins 41 = .ok (.getfield 22, 3) := by decide +kernel
theorem dX5_joins_44 : decode cX5_joins 44 = .ok (.iload 5, 2) := by decide +kernel
theorem dX5_joins_46 : decode cX5_joins 46 = .ok (.iaload, 1) := by decide +kernel
theorem dX5_joins_47 : decode cX5_joins 47 = .ok (.istore 6, 2) := by decide +kernel
theorem dX5_joins_49 : decode cX5_joins 49 = .ok (.iload 6, 2) := by decide +kernel
theorem dX5_joins_51 : decode cX5_joins 51 = .ok (.iload_n 3, 1) := by decide +kernel
theorem dX5_joins_52 : decode cX5_joins 52 = .ok (.if_icmp .eq 49, 3) := by decide +kernel
theorem dX5_joins_55 : decode cX5_joins 55 = .ok (.aload_n 0, 1) := by decide +kernel
theorem dX5_joins_56 : decode cX5_joins 56 = .ok (.aload_n 1, 1) := by decide +kernel
theorem dX5_joins_57 : decode cX5_joins 57 = .ok (.iload_n 2, 1) := by decide +kernel
theorem dX5_joins_58 : decode cX5_joins 58 = .ok (.iload 6, 2) := by decide +kernel
theorem dX5_joins_60 : decode cX5_joins 60 = .ok (.bipush (-4), 2) := by decide +kernel
theorem dX5_joins_62 : decode cX5_joins 62 = .ok (.invokevirtual 99, 3) := by decide +kernel
theorem dX5_joins_65 : decode cX5_joins 65 = .ok (.ifCond .eq 36, 3) := by decide +kernel
theorem dX5_joins_68 : decode cX5_joins 68 = .ok (.aload_n 0, 1) := by decide +kernel
theorem dX5_joins_69 : decode cX5_joins 69 = .ok (.getfield 31, 3) := by decide +kernel
theorem dX5_joins_72 : decode cX5_joins 72 = .ok (.bipush 30, 2) := by decide +kernel
theorem dX5_joins_74 : decode cX5_joins 74 = .ok (.iload_n 2, 1) := by decide +kernel
theorem dX5_joins_75 : decode cX5_joins 75 = .ok (.imul, 1) := by decide +kernel
theorem dX5_joins_76 : decode cX5_joins 76 = .ok (.iload 6, 2) := by decide +kernel
theorem dX5_joins_78 : decode cX5_joins 78 = .ok (.iadd, 1) := by decide +kernel
theorem dX5_joins_79 : decode cX5_joins 79 = .ok (.iaload, 1) := by decide +kernel
theorem dX5_joins_80 : decode cX5_joins 80 = .ok (.iload 4, 2) := by decide +kernel
theorem dX5_joins_82 : decode cX5_joins 82 = .ok (.if_icmp .lt 19, 3) := by decide +kernel
theorem dX5_joins_85 : decode cX5_joins 85 = .ok (.aload_n 0, 1) := by decide +kernel
theorem dX5_joins_86 : decode cX5_joins 86 = .ok (.aload_n 1, 1) := by decide +kernel
theorem dX5_joins_87 : decode cX5_joins 87 = .ok (.iload_n 2, 1) := by decide +kernel
theorem dX5_joins_88 : decode cX5_joins 88 = .ok (.iload_n 3, 1) := by decide +kernel
theorem dX5_joins_89 : decode cX5_joins 89 = .ok (.iload 6, 2) := by decide +kernel
theorem dX5_joins_91 : decode cX5_joins 91 = .ok (.invokevirtual 103, 3) := by decide +kernel
theorem dX5_joins_94 : decode cX5_joins 94 = .ok (.ifCond .eq 7, 3) := by decide +kernel
theorem dX5_joins_97 : decode cX5_joins 97 = .ok (.iconst 1, 1) := by decide +kernel
theorem dX5_joins_98 : decode cX5_joins 98 = .ok (.goto 4, 3) := by decide +kernel
theorem dX5_joins_101 : decode cX5_joins 101 = .ok (.iconst 0, 1) := by decide +kernel
theorem dX5_joins_102 : decode cX5_joins 102 = .ok (.istore 7, 2) := by decide +kernel
theorem dX5_joins_104 : decode cX5_joins 104 = .ok (.iload 7, 2) := by decide +kernel
theorem dX5_joins_106 : decode cX5_joins 106 = .ok (.ifCond .eq 47, 3) := by decide +kernel
theorem dX5_joins_109 : decode cX5_joins 109 = .ok (.aload_n 0, 1) := by decide +kernel
theorem dX5_joins_110 : decode cX5_joins 110 = .ok (.getfield 37, 3) := by decide +kernel
theorem dX5_joins_113 : decode cX5_joins 113 = .ok (.iload 6, 2) := by decide +kernel
theorem dX5_joins_115 : decode cX5_joins 115 = .ok (.iaload, 1) := by decide +kernel
theorem dX5_joins_116 : decode cX5_joins 116 = .ok (.aload_n 0, 1) := by decide +kernel
theorem dX5_joins_117 : decode cX5_joins 117 = .ok (.getfield 37, 3) := by decide +kernel
theorem dX5_joins_120 : decode cX5_joins 120 = .ok (.iload_n 2, 1) := by decide +kernel
theorem dX5_joins_121 : decode cX5_joins 121 = .ok (.iaload, 1) := by decide +kernel
theorem dX5_joins_122 : decode cX5_joins 122 = .ok (.if_icmp .eq 31, 3) := by decide +kernel
theorem dX5_joins_125 : decode cX5_joins 125 = .ok (.aload_n 0, 1) := by decide +kernel
theorem dX5_joins_126 : decode cX5_joins 126 = .ok (.aload_n 1, 1) := by decide +kernel
theorem dX5_joins_127 : decode cX5_joins 127 = .ok (.aload_n 0, 1) := by decide +kernel
theorem dX5_joins_128 : decode cX5_joins 128 = .ok (.getfield 37, 3) := by decide +kernel
theorem dX5_joins_131 : decode cX5_joins 131 = .ok (.iload_n 2, 1) := by decide +kernel
theorem dX5_joins_132 : decode cX5_joins 132 = .ok (.iaload, 1) := by decide +kernel
theorem dX5_joins_133 : decode cX5_joins 133 = .ok (.aload_n 0, 1) := by decide +kernel
theorem dX5_joins_134 : decode cX5_joins 134 = .ok (.getfield 37, 3) := by decide +kernel
theorem dX5_joins_137 : decode cX5_joins 137 = .ok (.iload 6, 2) := by decide +kernel
theorem dX5_joins_139 : decode cX5_joins 139 = .ok (.iaload, 1) := by decide +kernel
theorem dX5_joins_140 : decode cX5_joins 140 = .ok (.invokevirtual 106, 3) := by decide +kernel
theorem dX5_joins_143 : decode cX5_joins 143 = .ok (.aload_n 0, 1) := by decide +kernel
theorem dX5_joins_144 : decode cX5_joins 144 = .ok (.getfield 40, 3) := by decide +kernel
theorem dX5_joins_147 : decode cX5_joins 147 = .ok (.iload_n 2, 1) := by decide +kernel
theorem dX5_joins_148 : decode cX5_joins 148 = .ok (.dup2, 1) := by decide +kernel
theorem dX5_joins_149 : decode cX5_joins 149 = .ok (.iaload, 1) := by decide +kernel
theorem dX5_joins_150 : decode cX5_joins 150 = .ok (.iconst 1, 1) := by decide +kernel
theorem dX5_joins_151 : decode cX5_joins 151 = .ok (.iadd, 1) := by decide +kernel
theorem dX5_joins_152 : decode cX5_joins 152 = .ok (.iastore, 1) := by decide +kernel
theorem dX5_joins_153 : decode cX5_joins 153 = .ok (.iinc 5 (-1), 3) := by decide +kernel
theorem dX5_joins_156 : decode cX5_joins 156 = .ok (.goto (-121), 3) := by decide +kernel
theorem dX5_joins_159 : decode cX5_joins 159 = .ok (.return_, 1) := by decide +kernel
def t_X5_joins_159 : am_T := tb_ret
def t_X5_joins_153 : am_T := tb_iinc 5 (-1) <|
  tb_head 35
def t_X5_joins_102 : am_T := tb_istore 7 <|
  tb_iload 7 <|
  tb_if (fun x => x = 0) (t_X5_joins_153) <|
  tb_aload 0 <|
  tb_getR 5 11 <|
  tb_iload 6 <|
  tb_iald <|
  tb_aload 0 <|
  tb_getR 5 11 <|
  tb_iload 2 <|
  tb_iald <|
  tb_ic (fun x y => x = y) (t_X5_joins_153) <|
  tb_aload 0 <|
  tb_aload 1 <|
  tb_aload 0 <|
  tb_getR 5 11 <|
  tb_iload 2 <|
  tb_iald <|
  tb_aload 0 <|
  tb_getR 5 11 <|
  tb_iload 6 <|
  tb_iald <|
  tb_callV 5 sp_X5_unites 4 <|
  tb_aload 0 <|
  tb_getR 5 12 <|
  tb_iload 2 <|
  tb_dup2 <|
  tb_iald <|
  tb_const 1 <|
  tb_bin (fun x y => x + y) <|
  tb_iast <|
  t_X5_joins_153
def t_X5_joins_101 : am_T := tb_const 0 <|
  t_X5_joins_102
def t_X5_joins_35 : am_T := tb_iload 5 <|
  tb_if (fun x => x < 0) (t_X5_joins_159) <|
  tb_aload 0 <|
  tb_getR 5 6 <|
  tb_iload 5 <|
  tb_iald <|
  tb_istore 6 <|
  tb_iload 6 <|
  tb_iload 3 <|
  tb_ic (fun x y => x = y) (t_X5_joins_101) <|
  tb_aload 0 <|
  tb_aload 1 <|
  tb_iload 2 <|
  tb_iload 6 <|
  tb_const (-4) <|
  tb_callV 5 sp_X5_might 5 <|
  tb_if (fun x => x = 0) (t_X5_joins_101) <|
  tb_aload 0 <|
  tb_getR 5 9 <|
  tb_const 30 <|
  tb_iload 2 <|
  tb_bin (fun x y => x * y) <|
  tb_iload 6 <|
  tb_bin (fun x y => x + y) <|
  tb_iald <|
  tb_iload 4 <|
  tb_ic (fun x y => x < y) (t_X5_joins_101) <|
  tb_aload 0 <|
  tb_aload 1 <|
  tb_iload 2 <|
  tb_iload 3 <|
  tb_iload 6 <|
  tb_callV 5 sp_X5_speaksToBoth 5 <|
  tb_if (fun x => x = 0) (t_X5_joins_101) <|
  tb_const 1 <|
  t_X5_joins_102
def t_X5_joins_0 : am_T := tb_aload 0 <|
  tb_getR 5 10 <|
  tb_iload 2 <|
  tb_iald <|
  tb_istore 3 <|
  tb_aload 0 <|
  tb_getR 5 9 <|
  tb_const 30 <|
  tb_iload 2 <|
  tb_bin (fun x y => x * y) <|
  tb_iload 3 <|
  tb_bin (fun x y => x + y) <|
  tb_iald <|
  tb_aload 1 <|
  tb_const 7 <|
  tb_iald <|
  tb_bin (fun x y => x - y) <|
  tb_istore 4 <|
  tb_aload 0 <|
  tb_getR 5 7 <|
  tb_iload 2 <|
  tb_iald <|
  tb_const 1 <|
  tb_bin (fun x y => x - y) <|
  tb_istore 5 <|
  tb_head 35
def h_X5_joins : am_Hd := fun h => if h = 0 then t_X5_joins_0 else if h = 35 then t_X5_joins_35 else tb_bad
theorem h_X5_joins_0 : h_X5_joins 0 = t_X5_joins_0 := rfl
theorem h_X5_joins_35 : h_X5_joins 35 = t_X5_joins_35 := rfl
def rm_X5_joins : Room := { frames := 3, cells := 0, slots := 0, locals := 73 }
def sp_X5_joins : am_sp := fun as M Q => as.length ≤ 8 ∧ am_OK h_X5_joins Q 0 (am_in 8 as) M
theorem s_X5_joins_159 {G : am_G} {bc bs : Nat} (X : am_Cx G cX5_joins RX5 "joins" rm_X5_joins none 8 bc bs true) : am_S G 159 (t_X5_joins_159) := by
  unfold t_X5_joins_159
  exact as_ret (pc := 159) X ⟨rfl, rfl⟩ rfl dX5_joins_159
theorem s_X5_joins_153 {G : am_G} {bc bs : Nat} (X : am_Cx G cX5_joins RX5 "joins" rm_X5_joins none 8 bc bs true) : am_S G 153 (t_X5_joins_153) := by
  unfold t_X5_joins_153
  refine as_iinc (pc := 153) X dX5_joins_153 (by decide) (by decide) ?_
  exact as_goto (pc := 156) X 35 dX5_joins_156 (by decide) (as_head)
theorem s_X5_joins_102 {G : am_G} {bc bs : Nat} (X : am_Cx G cX5_joins RX5 "joins" rm_X5_joins none 8 bc bs true) : am_S G 102 (t_X5_joins_102) := by
  unfold t_X5_joins_102
  refine as_istore (pc := 102) X dX5_joins_102 ?_ (by decide)
  refine as_iload (pc := 104) X dX5_joins_104 ?_
  refine as_if_eq (pc := 106) X 153 dX5_joins_106 (by decide) (s_X5_joins_153 X) ?_
  refine as_aload_n (pc := 109) X dX5_joins_109 rfl ?_
  refine as_getR (ci := 5) (j := 11) (pc := 110) X (Cn := RX5) (Tf := TX5) (N := 21) rfl rfl (by decide) iw_X5 aw_749 rfl dX5_joins_110 ?_
  refine as_iload (pc := 113) X dX5_joins_113 ?_
  refine as_iald (pc := 115) X dX5_joins_115 ?_
  refine as_aload_n (pc := 116) X dX5_joins_116 rfl ?_
  refine as_getR (ci := 5) (j := 11) (pc := 117) X (Cn := RX5) (Tf := TX5) (N := 21) rfl rfl (by decide) iw_X5 aw_749 rfl dX5_joins_117 ?_
  refine as_iload_n (pc := 120) X dX5_joins_120 rfl ?_
  refine as_iald (pc := 121) X dX5_joins_121 ?_
  refine as_ic_eq (pc := 122) X 153 dX5_joins_122 (by decide) (s_X5_joins_153 X) ?_
  refine as_aload_n (pc := 125) X dX5_joins_125 rfl ?_
  refine as_aload_n (pc := 126) X dX5_joins_126 rfl ?_
  refine as_aload_n (pc := 127) X dX5_joins_127 rfl ?_
  refine as_getR (ci := 5) (j := 11) (pc := 128) X (Cn := RX5) (Tf := TX5) (N := 21) rfl rfl (by decide) iw_X5 aw_749 rfl dX5_joins_128 ?_
  refine as_iload_n (pc := 131) X dX5_joins_131 rfl ?_
  refine as_iald (pc := 132) X dX5_joins_132 ?_
  refine as_aload_n (pc := 133) X dX5_joins_133 rfl ?_
  refine as_getR (ci := 5) (j := 11) (pc := 134) X (Cn := RX5) (Tf := TX5) (N := 21) rfl rfl (by decide) iw_X5 aw_749 rfl dX5_joins_134 ?_
  refine as_iload (pc := 137) X dX5_joins_137 ?_
  refine as_iald (pc := 139) X dX5_joins_139 ?_
  refine as_callV (ci := 5) (np := 3) (ix := 106) (pc := 140) X ct_X5_unites (Cn := (RX5, TX5, 21)) rfl ⟨rfl, rfl⟩ aw_912 aw_914 aw_38 aw_915 aw_65 (by decide +kernel) (by decide) dX5_joins_140 ?_
  refine as_aload_n (pc := 143) X dX5_joins_143 rfl ?_
  refine as_getR (ci := 5) (j := 12) (pc := 144) X (Cn := RX5) (Tf := TX5) (N := 21) rfl rfl (by decide) iw_X5 aw_750 rfl dX5_joins_144 ?_
  refine as_iload_n (pc := 147) X dX5_joins_147 rfl ?_
  refine as_dup2 (pc := 148) X dX5_joins_148 ?_
  refine as_iald (pc := 149) X dX5_joins_149 ?_
  refine as_iconst (pc := 150) X dX5_joins_150 (by decide) ?_
  refine as_iadd (pc := 151) X dX5_joins_151 ?_
  refine as_iast (pc := 152) X dX5_joins_152 ?_
  exact s_X5_joins_153 X
theorem s_X5_joins_101 {G : am_G} {bc bs : Nat} (X : am_Cx G cX5_joins RX5 "joins" rm_X5_joins none 8 bc bs true) : am_S G 101 (t_X5_joins_101) := by
  unfold t_X5_joins_101
  refine as_iconst (pc := 101) X dX5_joins_101 (by decide) ?_
  exact s_X5_joins_102 X
theorem s_X5_joins_35 {G : am_G} {bc bs : Nat} (X : am_Cx G cX5_joins RX5 "joins" rm_X5_joins none 8 bc bs true) : am_S G 35 (t_X5_joins_35) := by
  unfold t_X5_joins_35
  refine as_iload (pc := 35) X dX5_joins_35 ?_
  refine as_if_lt (pc := 37) X 159 dX5_joins_37 (by decide) (s_X5_joins_159 X) ?_
  refine as_aload_n (pc := 40) X dX5_joins_40 rfl ?_
  refine as_getR (ci := 5) (j := 6) (pc := 41) X (Cn := RX5) (Tf := TX5) (N := 21) rfl rfl (by decide) iw_X5 aw_744 rfl dX5_joins_41 ?_
  refine as_iload (pc := 44) X dX5_joins_44 ?_
  refine as_iald (pc := 46) X dX5_joins_46 ?_
  refine as_istore (pc := 47) X dX5_joins_47 ?_ (by decide)
  refine as_iload (pc := 49) X dX5_joins_49 ?_
  refine as_iload_n (pc := 51) X dX5_joins_51 rfl ?_
  refine as_ic_eq (pc := 52) X 101 dX5_joins_52 (by decide) (s_X5_joins_101 X) ?_
  refine as_aload_n (pc := 55) X dX5_joins_55 rfl ?_
  refine as_aload_n (pc := 56) X dX5_joins_56 rfl ?_
  refine as_iload_n (pc := 57) X dX5_joins_57 rfl ?_
  refine as_iload (pc := 58) X dX5_joins_58 ?_
  refine as_bipush (pc := 60) X dX5_joins_60 (by decide) ?_
  refine as_callV (ci := 5) (np := 4) (ix := 99) (pc := 62) X ct_X5_might (Cn := (RX5, TX5, 21)) rfl ⟨rfl, rfl⟩ aw_897 aw_899 aw_35 aw_900 aw_65 (by decide +kernel) (by decide) dX5_joins_62 ?_
  refine as_if_eq (pc := 65) X 101 dX5_joins_65 (by decide) (s_X5_joins_101 X) ?_
  refine as_aload_n (pc := 68) X dX5_joins_68 rfl ?_
  refine as_getR (ci := 5) (j := 9) (pc := 69) X (Cn := RX5) (Tf := TX5) (N := 21) rfl rfl (by decide) iw_X5 aw_747 rfl dX5_joins_69 ?_
  refine as_bipush (pc := 72) X dX5_joins_72 (by decide) ?_
  refine as_iload_n (pc := 74) X dX5_joins_74 rfl ?_
  refine as_imul (pc := 75) X dX5_joins_75 ?_
  refine as_iload (pc := 76) X dX5_joins_76 ?_
  refine as_iadd (pc := 78) X dX5_joins_78 ?_
  refine as_iald (pc := 79) X dX5_joins_79 ?_
  refine as_iload (pc := 80) X dX5_joins_80 ?_
  refine as_ic_lt (pc := 82) X 101 dX5_joins_82 (by decide) (s_X5_joins_101 X) ?_
  refine as_aload_n (pc := 85) X dX5_joins_85 rfl ?_
  refine as_aload_n (pc := 86) X dX5_joins_86 rfl ?_
  refine as_iload_n (pc := 87) X dX5_joins_87 rfl ?_
  refine as_iload_n (pc := 88) X dX5_joins_88 rfl ?_
  refine as_iload (pc := 89) X dX5_joins_89 ?_
  refine as_callV (ci := 5) (np := 4) (ix := 103) (pc := 91) X ct_X5_speaksToBoth (Cn := (RX5, TX5, 21)) rfl ⟨rfl, rfl⟩ aw_908 aw_910 aw_37 aw_911 aw_65 (by decide +kernel) (by decide) dX5_joins_91 ?_
  refine as_if_eq (pc := 94) X 101 dX5_joins_94 (by decide) (s_X5_joins_101 X) ?_
  refine as_iconst (pc := 97) X dX5_joins_97 (by decide) ?_
  exact as_goto (pc := 98) X 102 dX5_joins_98 (by decide) (s_X5_joins_102 X)
theorem s_X5_joins_0 {G : am_G} {bc bs : Nat} (X : am_Cx G cX5_joins RX5 "joins" rm_X5_joins none 8 bc bs true) : am_S G 0 (t_X5_joins_0) := by
  unfold t_X5_joins_0
  refine as_aload_n (pc := 0) X dX5_joins_0 rfl ?_
  refine as_getR (ci := 5) (j := 10) (pc := 1) X (Cn := RX5) (Tf := TX5) (N := 21) rfl rfl (by decide) iw_X5 aw_748 rfl dX5_joins_1 ?_
  refine as_iload_n (pc := 4) X dX5_joins_4 rfl ?_
  refine as_iald (pc := 5) X dX5_joins_5 ?_
  refine as_istore_n (pc := 6) X dX5_joins_6 rfl ?_ (by decide)
  refine as_aload_n (pc := 7) X dX5_joins_7 rfl ?_
  refine as_getR (ci := 5) (j := 9) (pc := 8) X (Cn := RX5) (Tf := TX5) (N := 21) rfl rfl (by decide) iw_X5 aw_747 rfl dX5_joins_8 ?_
  refine as_bipush (pc := 11) X dX5_joins_11 (by decide) ?_
  refine as_iload_n (pc := 13) X dX5_joins_13 rfl ?_
  refine as_imul (pc := 14) X dX5_joins_14 ?_
  refine as_iload_n (pc := 15) X dX5_joins_15 rfl ?_
  refine as_iadd (pc := 16) X dX5_joins_16 ?_
  refine as_iald (pc := 17) X dX5_joins_17 ?_
  refine as_aload_n (pc := 18) X dX5_joins_18 rfl ?_
  refine as_bipush (pc := 19) X dX5_joins_19 (by decide) ?_
  refine as_iald (pc := 21) X dX5_joins_21 ?_
  refine as_isub (pc := 22) X dX5_joins_22 ?_
  refine as_istore (pc := 23) X dX5_joins_23 ?_ (by decide)
  refine as_aload_n (pc := 25) X dX5_joins_25 rfl ?_
  refine as_getR (ci := 5) (j := 7) (pc := 26) X (Cn := RX5) (Tf := TX5) (N := 21) rfl rfl (by decide) iw_X5 aw_745 rfl dX5_joins_26 ?_
  refine as_iload_n (pc := 29) X dX5_joins_29 rfl ?_
  refine as_iald (pc := 30) X dX5_joins_30 ?_
  refine as_iconst (pc := 31) X dX5_joins_31 (by decide) ?_
  refine as_isub (pc := 32) X dX5_joins_32 ?_
  refine as_istore (pc := 33) X dX5_joins_33 ?_ (by decide)
  exact as_head
theorem s_X5_joins {G : am_G} {bc bs : Nat} (X : am_Cx G cX5_joins RX5 "joins" rm_X5_joins none 8 bc bs true) (h : Nat) : am_S G h (h_X5_joins h) := by
  unfold h_X5_joins
  split
  · next e => rw [e]; exact s_X5_joins_0 X
  split
  · next e => rw [e]; exact s_X5_joins_35 X
  exact as_bad
theorem ct_X5_joins : am_Ct yX5_joins cX5_joins 8 none rm_X5_joins sp_X5_joins := am_met (own := RX5) (nm := "joins") (by decide) rfl rfl (Or.inl rfl) (fun _ _ => h_X5_joins) (fun _ _ _ X => s_X5_joins X) (fun _ _ _ _ h => h)
-- X5_laysThreads
theorem dX5_laysThreads_0 : decode cX5_laysThreads 0 = .ok (.iconst 0, 1) := by decide +kernel
theorem dX5_laysThreads_1 : decode cX5_laysThreads 1 = .ok (.istore_n 2, 1) := by decide +kernel
theorem dX5_laysThreads_2 : decode cX5_laysThreads 2 = .ok (.iload_n 2, 1) := by decide +kernel
theorem dX5_laysThreads_3 : decode cX5_laysThreads 3 = .ok (.aload_n 1, 1) := by decide +kernel
theorem dX5_laysThreads_4 : decode cX5_laysThreads 4 = .ok (.bipush 9, 2) := by decide +kernel
theorem dX5_laysThreads_6 : decode cX5_laysThreads 6 = .ok (.iaload, 1) := by decide +kernel
theorem dX5_laysThreads_7 : decode cX5_laysThreads 7 = .ok (.if_icmp .ge 23, 3) := by decide +kernel
theorem dX5_laysThreads_10 : decode cX5_laysThreads 10 = .ok (.aload_n 0, 1) := by decide +kernel
theorem dX5_laysThreads_11 : decode cX5_laysThreads 11 = .ok (.getfield 37, 3) := by decide +kernel
theorem dX5_laysThreads_14 : decode cX5_laysThreads 14 = .ok (.iload_n 2, 1) := by decide +kernel
theorem dX5_laysThreads_15 : decode cX5_laysThreads 15 = .ok (.iconst (-1), 1) := by decide +kernel
theorem dX5_laysThreads_16 : decode cX5_laysThreads 16 = .ok (.iastore, 1) := by decide +kernel
theorem dX5_laysThreads_17 : decode cX5_laysThreads 17 = .ok (.aload_n 0, 1) := by decide +kernel
theorem dX5_laysThreads_18 : decode cX5_laysThreads 18 = .ok (.getfield 40, 3) := by decide +kernel
theorem dX5_laysThreads_21 : decode cX5_laysThreads 21 = .ok (.iload_n 2, 1) := by decide +kernel
theorem dX5_laysThreads_22 : decode cX5_laysThreads 22 = .ok (.iconst 0, 1) := by decide +kernel
theorem dX5_laysThreads_23 : decode cX5_laysThreads 23 = .ok (.iastore, 1) := by decide +kernel
theorem dX5_laysThreads_24 : decode cX5_laysThreads 24 = .ok (.iinc 2 1, 3) := by decide +kernel
theorem dX5_laysThreads_27 : decode cX5_laysThreads 27 = .ok (.goto (-25), 3) := by decide +kernel
theorem dX5_laysThreads_30 : decode cX5_laysThreads 30 = .ok (.iconst 0, 1) := by decide +kernel
theorem dX5_laysThreads_31 : decode cX5_laysThreads 31 = .ok (.istore_n 2, 1) := by decide +kernel
theorem dX5_laysThreads_32 : decode cX5_laysThreads 32 = .ok (.iload_n 2, 1) := by decide +kernel
theorem dX5_laysThreads_33 : decode cX5_laysThreads 33 = .ok (.aload_n 1, 1) := by decide +kernel
theorem dX5_laysThreads_34 : decode cX5_laysThreads 34 = .ok (.bipush 9, 2) := by decide +kernel
theorem dX5_laysThreads_36 : decode cX5_laysThreads 36 = .ok (.iaload, 1) := by decide +kernel
theorem dX5_laysThreads_37 : decode cX5_laysThreads 37 = .ok (.if_icmp .ge 89, 3) := by decide +kernel
theorem dX5_laysThreads_40 : decode cX5_laysThreads 40 = .ok (.aload_n 0, 1) := by decide +kernel
theorem dX5_laysThreads_41 : decode cX5_laysThreads 41 = .ok (.getfield 22, 3) := by decide +kernel
theorem dX5_laysThreads_44 : decode cX5_laysThreads 44 = .ok (.iload_n 2, 1) := by decide +kernel
theorem dX5_laysThreads_45 : decode cX5_laysThreads 45 = .ok (.iaload, 1) := by decide +kernel
theorem dX5_laysThreads_46 : decode cX5_laysThreads 46 = .ok (.istore_n 3, 1) := by decide +kernel
theorem dX5_laysThreads_47 : decode cX5_laysThreads 47 = .ok (.aload_n 0, 1) := by decide +kernel
theorem dX5_laysThreads_48 : decode cX5_laysThreads 48 = .ok (.getfield 34, 3) := by decide +kernel
theorem dX5_laysThreads_51 : decode cX5_laysThreads 51 = .ok (.iload_n 3, 1) := by decide +kernel
theorem dX5_laysThreads_52 : decode cX5_laysThreads 52 = .ok (.aload_n 0, 1) := by decide +kernel
theorem dX5_laysThreads_53 : decode cX5_laysThreads 53 = .ok (.aload_n 1, 1) := by decide +kernel
theorem dX5_laysThreads_54 : decode cX5_laysThreads 54 = .ok (.iload_n 3, 1) := by decide +kernel
theorem dX5_laysThreads_55 : decode cX5_laysThreads 55 = .ok (.bipush (-4), 2) := by decide +kernel
theorem dX5_laysThreads_57 : decode cX5_laysThreads 57 = .ok (.invokevirtual 110, 3) := by decide +kernel
theorem dX5_laysThreads_60 : decode cX5_laysThreads 60 = .ok (.iastore, 1) := by decide +kernel
theorem dX5_laysThreads_61 : decode cX5_laysThreads 61 = .ok (.aload_n 0, 1) := by decide +kernel
theorem dX5_laysThreads_62 : decode cX5_laysThreads 62 = .ok (.getfield 37, 3) := by decide +kernel
theorem dX5_laysThreads_65 : decode cX5_laysThreads 65 = .ok (.iload_n 3, 1) := by decide +kernel
theorem dX5_laysThreads_66 : decode cX5_laysThreads 66 = .ok (.aload_n 0, 1) := by decide +kernel
theorem dX5_laysThreads_67 : decode cX5_laysThreads 67 = .ok (.getfield 34, 3) := by decide +kernel
theorem dX5_laysThreads_70 : decode cX5_laysThreads 70 = .ok (.iload_n 3, 1) := by decide +kernel
theorem dX5_laysThreads_71 : decode cX5_laysThreads 71 = .ok (.iaload, 1) := by decide +kernel
theorem dX5_laysThreads_72 : decode cX5_laysThreads 72 = .ok (.bipush (-4), 2) := by decide +kernel
theorem dX5_laysThreads_74 : decode cX5_laysThreads 74 = .ok (.if_icmp .ne 7, 3) := by decide +kernel
theorem dX5_laysThreads_77 : decode cX5_laysThreads 77 = .ok (.iload_n 3, 1) := by decide +kernel
theorem dX5_laysThreads_78 : decode cX5_laysThreads 78 = .ok (.goto 14, 3) := by decide +kernel
theorem dX5_laysThreads_81 : decode cX5_laysThreads 81 = .ok (.aload_n 0, 1) := by decide +kernel
theorem dX5_laysThreads_82 : decode cX5_laysThreads 82 = .ok (.getfield 37, 3) := by decide +kernel
theorem dX5_laysThreads_85 : decode cX5_laysThreads 85 = .ok (.aload_n 0, 1) := by decide +kernel
theorem dX5_laysThreads_86 : decode cX5_laysThreads 86 = .ok (.getfield 34, 3) := by decide +kernel
theorem dX5_laysThreads_89 : decode cX5_laysThreads 89 = .ok (.iload_n 3, 1) := by decide +kernel
theorem dX5_laysThreads_90 : decode cX5_laysThreads 90 = .ok (.iaload, 1) := by decide +kernel
theorem dX5_laysThreads_91 : decode cX5_laysThreads 91 = .ok (.iaload, 1) := by decide +kernel
theorem dX5_laysThreads_92 : decode cX5_laysThreads 92 = .ok (.iastore, 1) := by decide +kernel
theorem dX5_laysThreads_93 : decode cX5_laysThreads 93 = .ok (.aload_n 0, 1) := by decide +kernel
theorem dX5_laysThreads_94 : decode cX5_laysThreads 94 = .ok (.getfield 34, 3) := by decide +kernel
theorem dX5_laysThreads_97 : decode cX5_laysThreads 97 = .ok (.iload_n 3, 1) := by decide +kernel
theorem dX5_laysThreads_98 : decode cX5_laysThreads 98 = .ok (.iaload, 1) := by decide +kernel
theorem dX5_laysThreads_99 : decode cX5_laysThreads 99 = .ok (.bipush (-4), 2) := by decide +kernel
theorem dX5_laysThreads_101 : decode cX5_laysThreads 101 = .ok (.if_icmp .eq 19, 3) := by decide +kernel
theorem dX5_laysThreads_104 : decode cX5_laysThreads 104 = .ok (.aload_n 1, 1) := by decide +kernel
theorem dX5_laysThreads_105 : decode cX5_laysThreads 105 = .ok (.iload_n 3, 1) := by decide +kernel
theorem dX5_laysThreads_106 : decode cX5_laysThreads 106 = .ok (.invokestatic 96, 3) := by decide +kernel
theorem dX5_laysThreads_109 : decode cX5_laysThreads 109 = .ok (.bipush (-4), 2) := by decide +kernel
theorem dX5_laysThreads_111 : decode cX5_laysThreads 111 = .ok (.if_icmp .ne 9, 3) := by decide +kernel
theorem dX5_laysThreads_114 : decode cX5_laysThreads 114 = .ok (.aload_n 0, 1) := by decide +kernel
theorem dX5_laysThreads_115 : decode cX5_laysThreads 115 = .ok (.aload_n 1, 1) := by decide +kernel
theorem dX5_laysThreads_116 : decode cX5_laysThreads 116 = .ok (.iload_n 3, 1) := by decide +kernel
theorem dX5_laysThreads_117 : decode cX5_laysThreads 117 = .ok (.invokevirtual 113, 3) := by decide +kernel
theorem dX5_laysThreads_120 : decode cX5_laysThreads 120 = .ok (.iinc 2 1, 3) := by decide +kernel
theorem dX5_laysThreads_123 : decode cX5_laysThreads 123 = .ok (.goto (-91), 3) := by decide +kernel
theorem dX5_laysThreads_126 : decode cX5_laysThreads 126 = .ok (.aload_n 0, 1) := by decide +kernel
theorem dX5_laysThreads_127 : decode cX5_laysThreads 127 = .ok (.iconst 0, 1) := by decide +kernel
theorem dX5_laysThreads_128 : decode cX5_laysThreads 128 = .ok (.putfield 117, 3) := by decide +kernel
theorem dX5_laysThreads_131 : decode cX5_laysThreads 131 = .ok (.iconst 0, 1) := by decide +kernel
theorem dX5_laysThreads_132 : decode cX5_laysThreads 132 = .ok (.istore_n 2, 1) := by decide +kernel
theorem dX5_laysThreads_133 : decode cX5_laysThreads 133 = .ok (.iload_n 2, 1) := by decide +kernel
theorem dX5_laysThreads_134 : decode cX5_laysThreads 134 = .ok (.aload_n 1, 1) := by decide +kernel
theorem dX5_laysThreads_135 : decode cX5_laysThreads 135 = .ok (.bipush 9, 2) := by decide +kernel
theorem dX5_laysThreads_137 : decode cX5_laysThreads 137 = .ok (.iaload, 1) := by decide +kernel
theorem dX5_laysThreads_138 : decode cX5_laysThreads 138 = .ok (.if_icmp .ge 16, 3) := by decide +kernel
theorem dX5_laysThreads_141 : decode cX5_laysThreads 141 = .ok (.aload_n 0, 1) := by decide +kernel
theorem dX5_laysThreads_142 : decode cX5_laysThreads 142 = .ok (.getfield 43, 3) := by decide +kernel
theorem dX5_laysThreads_145 : decode cX5_laysThreads 145 = .ok (.iload_n 2, 1) := by decide +kernel
theorem dX5_laysThreads_146 : decode cX5_laysThreads 146 = .ok (.iconst (-1), 1) := by decide +kernel
theorem dX5_laysThreads_147 : decode cX5_laysThreads 147 = .ok (.iastore, 1) := by decide +kernel
theorem dX5_laysThreads_148 : decode cX5_laysThreads 148 = .ok (.iinc 2 1, 3) := by decide +kernel
theorem dX5_laysThreads_151 : decode cX5_laysThreads 151 = .ok (.goto (-18), 3) := by decide +kernel
theorem dX5_laysThreads_154 : decode cX5_laysThreads 154 = .ok (.iconst 0, 1) := by decide +kernel
theorem dX5_laysThreads_155 : decode cX5_laysThreads 155 = .ok (.istore_n 2, 1) := by decide +kernel
theorem dX5_laysThreads_156 : decode cX5_laysThreads 156 = .ok (.iload_n 2, 1) := by decide +kernel
theorem dX5_laysThreads_157 : decode cX5_laysThreads 157 = .ok (.aload_n 1, 1) := by decide +kernel
theorem dX5_laysThreads_158 : decode cX5_laysThreads 158 = .ok (.bipush 9, 2) := by decide +kernel
theorem dX5_laysThreads_160 : decode cX5_laysThreads 160 = .ok (.iaload, 1) := by decide +kernel
theorem dX5_laysThreads_161 : decode cX5_laysThreads 161 = .ok (.if_icmp .ge 50, 3) := by decide +kernel
theorem dX5_laysThreads_164 : decode cX5_laysThreads 164 = .ok (.aload_n 0, 1) := by decide +kernel
theorem dX5_laysThreads_165 : decode cX5_laysThreads 165 = .ok (.getfield 37, 3) := by decide +kernel
theorem dX5_laysThreads_168 : decode cX5_laysThreads 168 = .ok (.aload_n 0, 1) := by decide +kernel
theorem dX5_laysThreads_169 : decode cX5_laysThreads 169 = .ok (.getfield 22, 3) := by decide +kernel
theorem dX5_laysThreads_172 : decode cX5_laysThreads 172 = .ok (.iload_n 2, 1) := by decide +kernel
theorem dX5_laysThreads_173 : decode cX5_laysThreads 173 = .ok (.iaload, 1) := by decide +kernel
theorem dX5_laysThreads_174 : decode cX5_laysThreads 174 = .ok (.iaload, 1) := by decide +kernel
theorem dX5_laysThreads_175 : decode cX5_laysThreads 175 = .ok (.istore_n 3, 1) := by decide +kernel
theorem dX5_laysThreads_176 : decode cX5_laysThreads 176 = .ok (.aload_n 0, 1) := by decide +kernel
theorem dX5_laysThreads_177 : decode cX5_laysThreads 177 = .ok (.getfield 43, 3) := by decide +kernel
theorem dX5_laysThreads_180 : decode cX5_laysThreads 180 = .ok (.iload_n 3, 1) := by decide +kernel
theorem dX5_laysThreads_181 : decode cX5_laysThreads 181 = .ok (.iaload, 1) := by decide +kernel
theorem dX5_laysThreads_182 : decode cX5_laysThreads 182 = .ok (.ifCond .ge 23, 3) := by decide +kernel
theorem dX5_laysThreads_185 : decode cX5_laysThreads 185 = .ok (.aload_n 0, 1) := by decide +kernel
theorem dX5_laysThreads_186 : decode cX5_laysThreads 186 = .ok (.getfield 43, 3) := by decide +kernel
theorem dX5_laysThreads_189 : decode cX5_laysThreads 189 = .ok (.iload_n 3, 1) := by decide +kernel
theorem dX5_laysThreads_190 : decode cX5_laysThreads 190 = .ok (.aload_n 0, 1) := by decide +kernel
theorem dX5_laysThreads_191 : decode cX5_laysThreads 191 = .ok (.getfield 117, 3) := by decide +kernel
theorem dX5_laysThreads_194 : decode cX5_laysThreads 194 = .ok (.iastore, 1) := by decide +kernel
theorem dX5_laysThreads_195 : decode cX5_laysThreads 195 = .ok (.aload_n 0, 1) := by decide +kernel
theorem dX5_laysThreads_196 : decode cX5_laysThreads 196 = .ok (.dup, 1) := by decide +kernel
theorem dX5_laysThreads_197 : decode cX5_laysThreads 197 = .ok (.getfield 117, 3) := by decide +kernel
theorem dX5_laysThreads_200 : decode cX5_laysThreads 200 = .ok (.iconst 1, 1) := by decide +kernel
theorem dX5_laysThreads_201 : decode cX5_laysThreads 201 = .ok (.iadd, 1) := by decide +kernel
theorem dX5_laysThreads_202 : decode cX5_laysThreads 202 = .ok (.putfield 117, 3) := by decide +kernel
theorem dX5_laysThreads_205 : decode cX5_laysThreads 205 = .ok (.iinc 2 1, 3) := by decide +kernel
theorem dX5_laysThreads_208 : decode cX5_laysThreads 208 = .ok (.goto (-52), 3) := by decide +kernel
theorem dX5_laysThreads_211 : decode cX5_laysThreads 211 = .ok (.iconst 0, 1) := by decide +kernel
theorem dX5_laysThreads_212 : decode cX5_laysThreads 212 = .ok (.istore_n 2, 1) := by decide +kernel
theorem dX5_laysThreads_213 : decode cX5_laysThreads 213 = .ok (.iload_n 2, 1) := by decide +kernel
theorem dX5_laysThreads_214 : decode cX5_laysThreads 214 = .ok (.aload_n 1, 1) := by decide +kernel
theorem dX5_laysThreads_215 : decode cX5_laysThreads 215 = .ok (.bipush 9, 2) := by decide +kernel
theorem dX5_laysThreads_217 : decode cX5_laysThreads 217 = .ok (.iaload, 1) := by decide +kernel
theorem dX5_laysThreads_218 : decode cX5_laysThreads 218 = .ok (.if_icmp .ge 26, 3) := by decide +kernel
theorem dX5_laysThreads_221 : decode cX5_laysThreads 221 = .ok (.aload_n 0, 1) := by decide +kernel
theorem dX5_laysThreads_222 : decode cX5_laysThreads 222 = .ok (.getfield 37, 3) := by decide +kernel
theorem dX5_laysThreads_225 : decode cX5_laysThreads 225 = .ok (.iload_n 2, 1) := by decide +kernel
theorem dX5_laysThreads_226 : decode cX5_laysThreads 226 = .ok (.aload_n 0, 1) := by decide +kernel
theorem dX5_laysThreads_227 : decode cX5_laysThreads 227 = .ok (.getfield 43, 3) := by decide +kernel
theorem dX5_laysThreads_230 : decode cX5_laysThreads 230 = .ok (.aload_n 0, 1) := by decide +kernel
theorem dX5_laysThreads_231 : decode cX5_laysThreads 231 = .ok (.getfield 37, 3) := by decide +kernel
theorem dX5_laysThreads_234 : decode cX5_laysThreads 234 = .ok (.iload_n 2, 1) := by decide +kernel
theorem dX5_laysThreads_235 : decode cX5_laysThreads 235 = .ok (.iaload, 1) := by decide +kernel
theorem dX5_laysThreads_236 : decode cX5_laysThreads 236 = .ok (.iaload, 1) := by decide +kernel
theorem dX5_laysThreads_237 : decode cX5_laysThreads 237 = .ok (.iastore, 1) := by decide +kernel
theorem dX5_laysThreads_238 : decode cX5_laysThreads 238 = .ok (.iinc 2 1, 3) := by decide +kernel
theorem dX5_laysThreads_241 : decode cX5_laysThreads 241 = .ok (.goto (-28), 3) := by decide +kernel
theorem dX5_laysThreads_244 : decode cX5_laysThreads 244 = .ok (.return_, 1) := by decide +kernel
def t_X5_laysThreads_244 : am_T := tb_ret
def t_X5_laysThreads_213 : am_T := tb_iload 2 <|
  tb_aload 1 <|
  tb_const 9 <|
  tb_iald <|
  tb_ic (fun x y => y ≤ x) (t_X5_laysThreads_244) <|
  tb_aload 0 <|
  tb_getR 5 11 <|
  tb_iload 2 <|
  tb_aload 0 <|
  tb_getR 5 13 <|
  tb_aload 0 <|
  tb_getR 5 11 <|
  tb_iload 2 <|
  tb_iald <|
  tb_iald <|
  tb_iast <|
  tb_iinc 2 1 <|
  tb_head 213
def t_X5_laysThreads_211 : am_T := tb_const 0 <|
  tb_istore 2 <|
  tb_head 213
def t_X5_laysThreads_205 : am_T := tb_iinc 2 1 <|
  tb_head 156
def t_X5_laysThreads_156 : am_T := tb_iload 2 <|
  tb_aload 1 <|
  tb_const 9 <|
  tb_iald <|
  tb_ic (fun x y => y ≤ x) (t_X5_laysThreads_211) <|
  tb_aload 0 <|
  tb_getR 5 11 <|
  tb_aload 0 <|
  tb_getR 5 6 <|
  tb_iload 2 <|
  tb_iald <|
  tb_iald <|
  tb_istore 3 <|
  tb_aload 0 <|
  tb_getR 5 13 <|
  tb_iload 3 <|
  tb_iald <|
  tb_if (fun x => 0 ≤ x) (t_X5_laysThreads_205) <|
  tb_aload 0 <|
  tb_getR 5 13 <|
  tb_iload 3 <|
  tb_aload 0 <|
  tb_getI 5 14 <|
  tb_iast <|
  tb_aload 0 <|
  tb_dup <|
  tb_getI 5 14 <|
  tb_const 1 <|
  tb_bin (fun x y => x + y) <|
  tb_putI 5 14 <|
  t_X5_laysThreads_205
def t_X5_laysThreads_154 : am_T := tb_const 0 <|
  tb_istore 2 <|
  tb_head 156
def t_X5_laysThreads_133 : am_T := tb_iload 2 <|
  tb_aload 1 <|
  tb_const 9 <|
  tb_iald <|
  tb_ic (fun x y => y ≤ x) (t_X5_laysThreads_154) <|
  tb_aload 0 <|
  tb_getR 5 13 <|
  tb_iload 2 <|
  tb_const (-1) <|
  tb_iast <|
  tb_iinc 2 1 <|
  tb_head 133
def t_X5_laysThreads_126 : am_T := tb_aload 0 <|
  tb_const 0 <|
  tb_putI 5 14 <|
  tb_const 0 <|
  tb_istore 2 <|
  tb_head 133
def t_X5_laysThreads_120 : am_T := tb_iinc 2 1 <|
  tb_head 32
def t_X5_laysThreads_92 : am_T := tb_iast <|
  tb_aload 0 <|
  tb_getR 5 10 <|
  tb_iload 3 <|
  tb_iald <|
  tb_const (-4) <|
  tb_ic (fun x y => x = y) (t_X5_laysThreads_120) <|
  tb_aload 1 <|
  tb_iload 3 <|
  tb_callS sp_X5_counting 2 <|
  tb_const (-4) <|
  tb_ic (fun x y => x ≠ y) (t_X5_laysThreads_120) <|
  tb_aload 0 <|
  tb_aload 1 <|
  tb_iload 3 <|
  tb_callV 5 sp_X5_joins 3 <|
  t_X5_laysThreads_120
def t_X5_laysThreads_81 : am_T := tb_aload 0 <|
  tb_getR 5 11 <|
  tb_aload 0 <|
  tb_getR 5 10 <|
  tb_iload 3 <|
  tb_iald <|
  tb_iald <|
  t_X5_laysThreads_92
def t_X5_laysThreads_32 : am_T := tb_iload 2 <|
  tb_aload 1 <|
  tb_const 9 <|
  tb_iald <|
  tb_ic (fun x y => y ≤ x) (t_X5_laysThreads_126) <|
  tb_aload 0 <|
  tb_getR 5 6 <|
  tb_iload 2 <|
  tb_iald <|
  tb_istore 3 <|
  tb_aload 0 <|
  tb_getR 5 10 <|
  tb_iload 3 <|
  tb_aload 0 <|
  tb_aload 1 <|
  tb_iload 3 <|
  tb_const (-4) <|
  tb_callV 5 sp_X5_answerOf 4 <|
  tb_iast <|
  tb_aload 0 <|
  tb_getR 5 11 <|
  tb_iload 3 <|
  tb_aload 0 <|
  tb_getR 5 10 <|
  tb_iload 3 <|
  tb_iald <|
  tb_const (-4) <|
  tb_ic (fun x y => x ≠ y) (t_X5_laysThreads_81) <|
  tb_iload 3 <|
  t_X5_laysThreads_92
def t_X5_laysThreads_30 : am_T := tb_const 0 <|
  tb_istore 2 <|
  tb_head 32
def t_X5_laysThreads_2 : am_T := tb_iload 2 <|
  tb_aload 1 <|
  tb_const 9 <|
  tb_iald <|
  tb_ic (fun x y => y ≤ x) (t_X5_laysThreads_30) <|
  tb_aload 0 <|
  tb_getR 5 11 <|
  tb_iload 2 <|
  tb_const (-1) <|
  tb_iast <|
  tb_aload 0 <|
  tb_getR 5 12 <|
  tb_iload 2 <|
  tb_const 0 <|
  tb_iast <|
  tb_iinc 2 1 <|
  tb_head 2
def t_X5_laysThreads_0 : am_T := tb_const 0 <|
  tb_istore 2 <|
  tb_head 2
def h_X5_laysThreads : am_Hd := fun h => if h = 0 then t_X5_laysThreads_0 else if h = 2 then t_X5_laysThreads_2 else if h = 32 then t_X5_laysThreads_32 else if h = 133 then t_X5_laysThreads_133 else if h = 156 then t_X5_laysThreads_156 else if h = 213 then t_X5_laysThreads_213 else tb_bad
theorem h_X5_laysThreads_0 : h_X5_laysThreads 0 = t_X5_laysThreads_0 := rfl
theorem h_X5_laysThreads_2 : h_X5_laysThreads 2 = t_X5_laysThreads_2 := rfl
theorem h_X5_laysThreads_32 : h_X5_laysThreads 32 = t_X5_laysThreads_32 := rfl
theorem h_X5_laysThreads_133 : h_X5_laysThreads 133 = t_X5_laysThreads_133 := rfl
theorem h_X5_laysThreads_156 : h_X5_laysThreads 156 = t_X5_laysThreads_156 := rfl
theorem h_X5_laysThreads_213 : h_X5_laysThreads 213 = t_X5_laysThreads_213 := rfl
def rm_X5_laysThreads : Room := { frames := 4, cells := 0, slots := 0, locals := 101 }
def sp_X5_laysThreads : am_sp := fun as M Q => as.length ≤ 4 ∧ am_OK h_X5_laysThreads Q 0 (am_in 4 as) M
theorem s_X5_laysThreads_244 {G : am_G} {bc bs : Nat} (X : am_Cx G cX5_laysThreads RX5 "laysThreads" rm_X5_laysThreads none 4 bc bs true) : am_S G 244 (t_X5_laysThreads_244) := by
  unfold t_X5_laysThreads_244
  exact as_ret (pc := 244) X ⟨rfl, rfl⟩ rfl dX5_laysThreads_244
theorem s_X5_laysThreads_213 {G : am_G} {bc bs : Nat} (X : am_Cx G cX5_laysThreads RX5 "laysThreads" rm_X5_laysThreads none 4 bc bs true) : am_S G 213 (t_X5_laysThreads_213) := by
  unfold t_X5_laysThreads_213
  refine as_iload_n (pc := 213) X dX5_laysThreads_213 rfl ?_
  refine as_aload_n (pc := 214) X dX5_laysThreads_214 rfl ?_
  refine as_bipush (pc := 215) X dX5_laysThreads_215 (by decide) ?_
  refine as_iald (pc := 217) X dX5_laysThreads_217 ?_
  refine as_ic_ge (pc := 218) X 244 dX5_laysThreads_218 (by decide) (s_X5_laysThreads_244 X) ?_
  refine as_aload_n (pc := 221) X dX5_laysThreads_221 rfl ?_
  refine as_getR (ci := 5) (j := 11) (pc := 222) X (Cn := RX5) (Tf := TX5) (N := 21) rfl rfl (by decide) iw_X5 aw_749 rfl dX5_laysThreads_222 ?_
  refine as_iload_n (pc := 225) X dX5_laysThreads_225 rfl ?_
  refine as_aload_n (pc := 226) X dX5_laysThreads_226 rfl ?_
  refine as_getR (ci := 5) (j := 13) (pc := 227) X (Cn := RX5) (Tf := TX5) (N := 21) rfl rfl (by decide) iw_X5 aw_751 rfl dX5_laysThreads_227 ?_
  refine as_aload_n (pc := 230) X dX5_laysThreads_230 rfl ?_
  refine as_getR (ci := 5) (j := 11) (pc := 231) X (Cn := RX5) (Tf := TX5) (N := 21) rfl rfl (by decide) iw_X5 aw_749 rfl dX5_laysThreads_231 ?_
  refine as_iload_n (pc := 234) X dX5_laysThreads_234 rfl ?_
  refine as_iald (pc := 235) X dX5_laysThreads_235 ?_
  refine as_iald (pc := 236) X dX5_laysThreads_236 ?_
  refine as_iast (pc := 237) X dX5_laysThreads_237 ?_
  refine as_iinc (pc := 238) X dX5_laysThreads_238 (by decide) (by decide) ?_
  exact as_goto (pc := 241) X 213 dX5_laysThreads_241 (by decide) (as_head)
theorem s_X5_laysThreads_211 {G : am_G} {bc bs : Nat} (X : am_Cx G cX5_laysThreads RX5 "laysThreads" rm_X5_laysThreads none 4 bc bs true) : am_S G 211 (t_X5_laysThreads_211) := by
  unfold t_X5_laysThreads_211
  refine as_iconst (pc := 211) X dX5_laysThreads_211 (by decide) ?_
  refine as_istore_n (pc := 212) X dX5_laysThreads_212 rfl ?_ (by decide)
  exact as_head
theorem s_X5_laysThreads_205 {G : am_G} {bc bs : Nat} (X : am_Cx G cX5_laysThreads RX5 "laysThreads" rm_X5_laysThreads none 4 bc bs true) : am_S G 205 (t_X5_laysThreads_205) := by
  unfold t_X5_laysThreads_205
  refine as_iinc (pc := 205) X dX5_laysThreads_205 (by decide) (by decide) ?_
  exact as_goto (pc := 208) X 156 dX5_laysThreads_208 (by decide) (as_head)
theorem s_X5_laysThreads_156 {G : am_G} {bc bs : Nat} (X : am_Cx G cX5_laysThreads RX5 "laysThreads" rm_X5_laysThreads none 4 bc bs true) : am_S G 156 (t_X5_laysThreads_156) := by
  unfold t_X5_laysThreads_156
  refine as_iload_n (pc := 156) X dX5_laysThreads_156 rfl ?_
  refine as_aload_n (pc := 157) X dX5_laysThreads_157 rfl ?_
  refine as_bipush (pc := 158) X dX5_laysThreads_158 (by decide) ?_
  refine as_iald (pc := 160) X dX5_laysThreads_160 ?_
  refine as_ic_ge (pc := 161) X 211 dX5_laysThreads_161 (by decide) (s_X5_laysThreads_211 X) ?_
  refine as_aload_n (pc := 164) X dX5_laysThreads_164 rfl ?_
  refine as_getR (ci := 5) (j := 11) (pc := 165) X (Cn := RX5) (Tf := TX5) (N := 21) rfl rfl (by decide) iw_X5 aw_749 rfl dX5_laysThreads_165 ?_
  refine as_aload_n (pc := 168) X dX5_laysThreads_168 rfl ?_
  refine as_getR (ci := 5) (j := 6) (pc := 169) X (Cn := RX5) (Tf := TX5) (N := 21) rfl rfl (by decide) iw_X5 aw_744 rfl dX5_laysThreads_169 ?_
  refine as_iload_n (pc := 172) X dX5_laysThreads_172 rfl ?_
  refine as_iald (pc := 173) X dX5_laysThreads_173 ?_
  refine as_iald (pc := 174) X dX5_laysThreads_174 ?_
  refine as_istore_n (pc := 175) X dX5_laysThreads_175 rfl ?_ (by decide)
  refine as_aload_n (pc := 176) X dX5_laysThreads_176 rfl ?_
  refine as_getR (ci := 5) (j := 13) (pc := 177) X (Cn := RX5) (Tf := TX5) (N := 21) rfl rfl (by decide) iw_X5 aw_751 rfl dX5_laysThreads_177 ?_
  refine as_iload_n (pc := 180) X dX5_laysThreads_180 rfl ?_
  refine as_iald (pc := 181) X dX5_laysThreads_181 ?_
  refine as_if_ge (pc := 182) X 205 dX5_laysThreads_182 (by decide) (s_X5_laysThreads_205 X) ?_
  refine as_aload_n (pc := 185) X dX5_laysThreads_185 rfl ?_
  refine as_getR (ci := 5) (j := 13) (pc := 186) X (Cn := RX5) (Tf := TX5) (N := 21) rfl rfl (by decide) iw_X5 aw_751 rfl dX5_laysThreads_186 ?_
  refine as_iload_n (pc := 189) X dX5_laysThreads_189 rfl ?_
  refine as_aload_n (pc := 190) X dX5_laysThreads_190 rfl ?_
  refine as_getI (ci := 5) (j := 14) (pc := 191) X (Cn := RX5) (Tf := TX5) (N := 21) rfl rfl (by decide) iw_X5 aw_752 rfl dX5_laysThreads_191 ?_
  refine as_iast (pc := 194) X dX5_laysThreads_194 ?_
  refine as_aload_n (pc := 195) X dX5_laysThreads_195 rfl ?_
  refine as_dup (pc := 196) X dX5_laysThreads_196 ?_
  refine as_getI (ci := 5) (j := 14) (pc := 197) X (Cn := RX5) (Tf := TX5) (N := 21) rfl rfl (by decide) iw_X5 aw_752 rfl dX5_laysThreads_197 ?_
  refine as_iconst (pc := 200) X dX5_laysThreads_200 (by decide) ?_
  refine as_iadd (pc := 201) X dX5_laysThreads_201 ?_
  refine as_putI (ci := 5) (j := 14) (pc := 202) X (Cn := RX5) (Tf := TX5) (N := 21) rfl rfl (by decide) iw_X5 aw_752 tyX5 tyX5_ok nmX5 rfl rfl (by decide +kernel) dX5_laysThreads_202 ?_
  exact s_X5_laysThreads_205 X
theorem s_X5_laysThreads_154 {G : am_G} {bc bs : Nat} (X : am_Cx G cX5_laysThreads RX5 "laysThreads" rm_X5_laysThreads none 4 bc bs true) : am_S G 154 (t_X5_laysThreads_154) := by
  unfold t_X5_laysThreads_154
  refine as_iconst (pc := 154) X dX5_laysThreads_154 (by decide) ?_
  refine as_istore_n (pc := 155) X dX5_laysThreads_155 rfl ?_ (by decide)
  exact as_head
theorem s_X5_laysThreads_133 {G : am_G} {bc bs : Nat} (X : am_Cx G cX5_laysThreads RX5 "laysThreads" rm_X5_laysThreads none 4 bc bs true) : am_S G 133 (t_X5_laysThreads_133) := by
  unfold t_X5_laysThreads_133
  refine as_iload_n (pc := 133) X dX5_laysThreads_133 rfl ?_
  refine as_aload_n (pc := 134) X dX5_laysThreads_134 rfl ?_
  refine as_bipush (pc := 135) X dX5_laysThreads_135 (by decide) ?_
  refine as_iald (pc := 137) X dX5_laysThreads_137 ?_
  refine as_ic_ge (pc := 138) X 154 dX5_laysThreads_138 (by decide) (s_X5_laysThreads_154 X) ?_
  refine as_aload_n (pc := 141) X dX5_laysThreads_141 rfl ?_
  refine as_getR (ci := 5) (j := 13) (pc := 142) X (Cn := RX5) (Tf := TX5) (N := 21) rfl rfl (by decide) iw_X5 aw_751 rfl dX5_laysThreads_142 ?_
  refine as_iload_n (pc := 145) X dX5_laysThreads_145 rfl ?_
  refine as_iconst (pc := 146) X dX5_laysThreads_146 (by decide) ?_
  refine as_iast (pc := 147) X dX5_laysThreads_147 ?_
  refine as_iinc (pc := 148) X dX5_laysThreads_148 (by decide) (by decide) ?_
  exact as_goto (pc := 151) X 133 dX5_laysThreads_151 (by decide) (as_head)
theorem s_X5_laysThreads_126 {G : am_G} {bc bs : Nat} (X : am_Cx G cX5_laysThreads RX5 "laysThreads" rm_X5_laysThreads none 4 bc bs true) : am_S G 126 (t_X5_laysThreads_126) := by
  unfold t_X5_laysThreads_126
  refine as_aload_n (pc := 126) X dX5_laysThreads_126 rfl ?_
  refine as_iconst (pc := 127) X dX5_laysThreads_127 (by decide) ?_
  refine as_putI (ci := 5) (j := 14) (pc := 128) X (Cn := RX5) (Tf := TX5) (N := 21) rfl rfl (by decide) iw_X5 aw_752 tyX5 tyX5_ok nmX5 rfl rfl (by decide +kernel) dX5_laysThreads_128 ?_
  refine as_iconst (pc := 131) X dX5_laysThreads_131 (by decide) ?_
  refine as_istore_n (pc := 132) X dX5_laysThreads_132 rfl ?_ (by decide)
  exact as_head
theorem s_X5_laysThreads_120 {G : am_G} {bc bs : Nat} (X : am_Cx G cX5_laysThreads RX5 "laysThreads" rm_X5_laysThreads none 4 bc bs true) : am_S G 120 (t_X5_laysThreads_120) := by
  unfold t_X5_laysThreads_120
  refine as_iinc (pc := 120) X dX5_laysThreads_120 (by decide) (by decide) ?_
  exact as_goto (pc := 123) X 32 dX5_laysThreads_123 (by decide) (as_head)
theorem s_X5_laysThreads_92 {G : am_G} {bc bs : Nat} (X : am_Cx G cX5_laysThreads RX5 "laysThreads" rm_X5_laysThreads none 4 bc bs true) : am_S G 92 (t_X5_laysThreads_92) := by
  unfold t_X5_laysThreads_92
  refine as_iast (pc := 92) X dX5_laysThreads_92 ?_
  refine as_aload_n (pc := 93) X dX5_laysThreads_93 rfl ?_
  refine as_getR (ci := 5) (j := 10) (pc := 94) X (Cn := RX5) (Tf := TX5) (N := 21) rfl rfl (by decide) iw_X5 aw_748 rfl dX5_laysThreads_94 ?_
  refine as_iload_n (pc := 97) X dX5_laysThreads_97 rfl ?_
  refine as_iald (pc := 98) X dX5_laysThreads_98 ?_
  refine as_bipush (pc := 99) X dX5_laysThreads_99 (by decide) ?_
  refine as_ic_eq (pc := 101) X 120 dX5_laysThreads_101 (by decide) (s_X5_laysThreads_120 X) ?_
  refine as_aload_n (pc := 104) X dX5_laysThreads_104 rfl ?_
  refine as_iload_n (pc := 105) X dX5_laysThreads_105 rfl ?_
  refine as_callS (np := 2) (ix := 96) (pc := 106) X ct_X5_counting ⟨rfl, rfl⟩ aw_894 aw_895 aw_896 aw_65 (by decide +kernel) (by decide) dX5_laysThreads_106 ?_
  refine as_bipush (pc := 109) X dX5_laysThreads_109 (by decide) ?_
  refine as_ic_ne (pc := 111) X 120 dX5_laysThreads_111 (by decide) (s_X5_laysThreads_120 X) ?_
  refine as_aload_n (pc := 114) X dX5_laysThreads_114 rfl ?_
  refine as_aload_n (pc := 115) X dX5_laysThreads_115 rfl ?_
  refine as_iload_n (pc := 116) X dX5_laysThreads_116 rfl ?_
  refine as_callV (ci := 5) (np := 2) (ix := 113) (pc := 117) X ct_X5_joins (Cn := (RX5, TX5, 21)) rfl ⟨rfl, rfl⟩ aw_904 aw_906 aw_36 aw_907 aw_65 (by decide +kernel) (by decide) dX5_laysThreads_117 ?_
  exact s_X5_laysThreads_120 X
theorem s_X5_laysThreads_81 {G : am_G} {bc bs : Nat} (X : am_Cx G cX5_laysThreads RX5 "laysThreads" rm_X5_laysThreads none 4 bc bs true) : am_S G 81 (t_X5_laysThreads_81) := by
  unfold t_X5_laysThreads_81
  refine as_aload_n (pc := 81) X dX5_laysThreads_81 rfl ?_
  refine as_getR (ci := 5) (j := 11) (pc := 82) X (Cn := RX5) (Tf := TX5) (N := 21) rfl rfl (by decide) iw_X5 aw_749 rfl dX5_laysThreads_82 ?_
  refine as_aload_n (pc := 85) X dX5_laysThreads_85 rfl ?_
  refine as_getR (ci := 5) (j := 10) (pc := 86) X (Cn := RX5) (Tf := TX5) (N := 21) rfl rfl (by decide) iw_X5 aw_748 rfl dX5_laysThreads_86 ?_
  refine as_iload_n (pc := 89) X dX5_laysThreads_89 rfl ?_
  refine as_iald (pc := 90) X dX5_laysThreads_90 ?_
  refine as_iald (pc := 91) X dX5_laysThreads_91 ?_
  exact s_X5_laysThreads_92 X
theorem s_X5_laysThreads_32 {G : am_G} {bc bs : Nat} (X : am_Cx G cX5_laysThreads RX5 "laysThreads" rm_X5_laysThreads none 4 bc bs true) : am_S G 32 (t_X5_laysThreads_32) := by
  unfold t_X5_laysThreads_32
  refine as_iload_n (pc := 32) X dX5_laysThreads_32 rfl ?_
  refine as_aload_n (pc := 33) X dX5_laysThreads_33 rfl ?_
  refine as_bipush (pc := 34) X dX5_laysThreads_34 (by decide) ?_
  refine as_iald (pc := 36) X dX5_laysThreads_36 ?_
  refine as_ic_ge (pc := 37) X 126 dX5_laysThreads_37 (by decide) (s_X5_laysThreads_126 X) ?_
  refine as_aload_n (pc := 40) X dX5_laysThreads_40 rfl ?_
  refine as_getR (ci := 5) (j := 6) (pc := 41) X (Cn := RX5) (Tf := TX5) (N := 21) rfl rfl (by decide) iw_X5 aw_744 rfl dX5_laysThreads_41 ?_
  refine as_iload_n (pc := 44) X dX5_laysThreads_44 rfl ?_
  refine as_iald (pc := 45) X dX5_laysThreads_45 ?_
  refine as_istore_n (pc := 46) X dX5_laysThreads_46 rfl ?_ (by decide)
  refine as_aload_n (pc := 47) X dX5_laysThreads_47 rfl ?_
  refine as_getR (ci := 5) (j := 10) (pc := 48) X (Cn := RX5) (Tf := TX5) (N := 21) rfl rfl (by decide) iw_X5 aw_748 rfl dX5_laysThreads_48 ?_
  refine as_iload_n (pc := 51) X dX5_laysThreads_51 rfl ?_
  refine as_aload_n (pc := 52) X dX5_laysThreads_52 rfl ?_
  refine as_aload_n (pc := 53) X dX5_laysThreads_53 rfl ?_
  refine as_iload_n (pc := 54) X dX5_laysThreads_54 rfl ?_
  refine as_bipush (pc := 55) X dX5_laysThreads_55 (by decide) ?_
  refine as_callV (ci := 5) (np := 3) (ix := 110) (pc := 57) X ct_X5_answerOf (Cn := (RX5, TX5, 21)) rfl ⟨rfl, rfl⟩ aw_890 aw_892 aw_34 aw_893 aw_65 (by decide +kernel) (by decide) dX5_laysThreads_57 ?_
  refine as_iast (pc := 60) X dX5_laysThreads_60 ?_
  refine as_aload_n (pc := 61) X dX5_laysThreads_61 rfl ?_
  refine as_getR (ci := 5) (j := 11) (pc := 62) X (Cn := RX5) (Tf := TX5) (N := 21) rfl rfl (by decide) iw_X5 aw_749 rfl dX5_laysThreads_62 ?_
  refine as_iload_n (pc := 65) X dX5_laysThreads_65 rfl ?_
  refine as_aload_n (pc := 66) X dX5_laysThreads_66 rfl ?_
  refine as_getR (ci := 5) (j := 10) (pc := 67) X (Cn := RX5) (Tf := TX5) (N := 21) rfl rfl (by decide) iw_X5 aw_748 rfl dX5_laysThreads_67 ?_
  refine as_iload_n (pc := 70) X dX5_laysThreads_70 rfl ?_
  refine as_iald (pc := 71) X dX5_laysThreads_71 ?_
  refine as_bipush (pc := 72) X dX5_laysThreads_72 (by decide) ?_
  refine as_ic_ne (pc := 74) X 81 dX5_laysThreads_74 (by decide) (s_X5_laysThreads_81 X) ?_
  refine as_iload_n (pc := 77) X dX5_laysThreads_77 rfl ?_
  exact as_goto (pc := 78) X 92 dX5_laysThreads_78 (by decide) (s_X5_laysThreads_92 X)
theorem s_X5_laysThreads_30 {G : am_G} {bc bs : Nat} (X : am_Cx G cX5_laysThreads RX5 "laysThreads" rm_X5_laysThreads none 4 bc bs true) : am_S G 30 (t_X5_laysThreads_30) := by
  unfold t_X5_laysThreads_30
  refine as_iconst (pc := 30) X dX5_laysThreads_30 (by decide) ?_
  refine as_istore_n (pc := 31) X dX5_laysThreads_31 rfl ?_ (by decide)
  exact as_head
theorem s_X5_laysThreads_2 {G : am_G} {bc bs : Nat} (X : am_Cx G cX5_laysThreads RX5 "laysThreads" rm_X5_laysThreads none 4 bc bs true) : am_S G 2 (t_X5_laysThreads_2) := by
  unfold t_X5_laysThreads_2
  refine as_iload_n (pc := 2) X dX5_laysThreads_2 rfl ?_
  refine as_aload_n (pc := 3) X dX5_laysThreads_3 rfl ?_
  refine as_bipush (pc := 4) X dX5_laysThreads_4 (by decide) ?_
  refine as_iald (pc := 6) X dX5_laysThreads_6 ?_
  refine as_ic_ge (pc := 7) X 30 dX5_laysThreads_7 (by decide) (s_X5_laysThreads_30 X) ?_
  refine as_aload_n (pc := 10) X dX5_laysThreads_10 rfl ?_
  refine as_getR (ci := 5) (j := 11) (pc := 11) X (Cn := RX5) (Tf := TX5) (N := 21) rfl rfl (by decide) iw_X5 aw_749 rfl dX5_laysThreads_11 ?_
  refine as_iload_n (pc := 14) X dX5_laysThreads_14 rfl ?_
  refine as_iconst (pc := 15) X dX5_laysThreads_15 (by decide) ?_
  refine as_iast (pc := 16) X dX5_laysThreads_16 ?_
  refine as_aload_n (pc := 17) X dX5_laysThreads_17 rfl ?_
  refine as_getR (ci := 5) (j := 12) (pc := 18) X (Cn := RX5) (Tf := TX5) (N := 21) rfl rfl (by decide) iw_X5 aw_750 rfl dX5_laysThreads_18 ?_
  refine as_iload_n (pc := 21) X dX5_laysThreads_21 rfl ?_
  refine as_iconst (pc := 22) X dX5_laysThreads_22 (by decide) ?_
  refine as_iast (pc := 23) X dX5_laysThreads_23 ?_
  refine as_iinc (pc := 24) X dX5_laysThreads_24 (by decide) (by decide) ?_
  exact as_goto (pc := 27) X 2 dX5_laysThreads_27 (by decide) (as_head)
theorem s_X5_laysThreads_0 {G : am_G} {bc bs : Nat} (X : am_Cx G cX5_laysThreads RX5 "laysThreads" rm_X5_laysThreads none 4 bc bs true) : am_S G 0 (t_X5_laysThreads_0) := by
  unfold t_X5_laysThreads_0
  refine as_iconst (pc := 0) X dX5_laysThreads_0 (by decide) ?_
  refine as_istore_n (pc := 1) X dX5_laysThreads_1 rfl ?_ (by decide)
  exact as_head
theorem s_X5_laysThreads {G : am_G} {bc bs : Nat} (X : am_Cx G cX5_laysThreads RX5 "laysThreads" rm_X5_laysThreads none 4 bc bs true) (h : Nat) : am_S G h (h_X5_laysThreads h) := by
  unfold h_X5_laysThreads
  split
  · next e => rw [e]; exact s_X5_laysThreads_0 X
  split
  · next e => rw [e]; exact s_X5_laysThreads_2 X
  split
  · next e => rw [e]; exact s_X5_laysThreads_32 X
  split
  · next e => rw [e]; exact s_X5_laysThreads_133 X
  split
  · next e => rw [e]; exact s_X5_laysThreads_156 X
  split
  · next e => rw [e]; exact s_X5_laysThreads_213 X
  exact as_bad
theorem ct_X5_laysThreads : am_Ct yX5_laysThreads cX5_laysThreads 4 none rm_X5_laysThreads sp_X5_laysThreads := am_met (own := RX5) (nm := "laysThreads") (by decide) rfl rfl (Or.inl rfl) (fun _ _ => h_X5_laysThreads) (fun _ _ _ X => s_X5_laysThreads X) (fun _ _ _ _ h => h)
-- X5_lays
theorem dX5_lays_0 : decode cX5_lays 0 = .ok (.aload_n 0, 1) := by decide +kernel
theorem dX5_lays_1 : decode cX5_lays 1 = .ok (.aload_n 1, 1) := by decide +kernel
theorem dX5_lays_2 : decode cX5_lays 2 = .ok (.invokevirtual 120, 3) := by decide +kernel
theorem dX5_lays_5 : decode cX5_lays 5 = .ok (.aload_n 0, 1) := by decide +kernel
theorem dX5_lays_6 : decode cX5_lays 6 = .ok (.aload_n 1, 1) := by decide +kernel
theorem dX5_lays_7 : decode cX5_lays 7 = .ok (.invokevirtual 123, 3) := by decide +kernel
theorem dX5_lays_10 : decode cX5_lays 10 = .ok (.return_, 1) := by decide +kernel
def t_X5_lays_0 : am_T := tb_aload 0 <|
  tb_aload 1 <|
  tb_callV 5 sp_X5_laysScores 2 <|
  tb_aload 0 <|
  tb_aload 1 <|
  tb_callV 5 sp_X5_laysThreads 2 <|
  tb_ret
def h_X5_lays : am_Hd := fun h => if h = 0 then t_X5_lays_0 else tb_bad
theorem h_X5_lays_0 : h_X5_lays 0 = t_X5_lays_0 := rfl
def rm_X5_lays : Room := { frames := 5, cells := 0, slots := 0, locals := 124 }
def sp_X5_lays : am_sp := fun as M Q => as.length ≤ 2 ∧ am_OK h_X5_lays Q 0 (am_in 2 as) M
theorem s_X5_lays_0 {G : am_G} {bc bs : Nat} (X : am_Cx G cX5_lays RX5 "lays" rm_X5_lays none 2 bc bs true) : am_S G 0 (t_X5_lays_0) := by
  unfold t_X5_lays_0
  refine as_aload_n (pc := 0) X dX5_lays_0 rfl ?_
  refine as_aload_n (pc := 1) X dX5_lays_1 rfl ?_
  refine as_callV (ci := 5) (np := 1) (ix := 120) (pc := 2) X ct_X5_laysScores (Cn := (RX5, TX5, 21)) rfl ⟨rfl, rfl⟩ aw_865 aw_867 aw_30 aw_868 aw_65 (by decide +kernel) (by decide) dX5_lays_2 ?_
  refine as_aload_n (pc := 5) X dX5_lays_5 rfl ?_
  refine as_aload_n (pc := 6) X dX5_lays_6 rfl ?_
  refine as_callV (ci := 5) (np := 1) (ix := 123) (pc := 7) X ct_X5_laysThreads (Cn := (RX5, TX5, 21)) rfl ⟨rfl, rfl⟩ aw_886 aw_888 aw_33 aw_889 aw_65 (by decide +kernel) (by decide) dX5_lays_7 ?_
  exact as_ret (pc := 10) X ⟨rfl, rfl⟩ rfl dX5_lays_10
theorem s_X5_lays {G : am_G} {bc bs : Nat} (X : am_Cx G cX5_lays RX5 "lays" rm_X5_lays none 2 bc bs true) (h : Nat) : am_S G h (h_X5_lays h) := by
  unfold h_X5_lays
  split
  · next e => rw [e]; exact s_X5_lays_0 X
  exact as_bad
theorem ct_X5_lays : am_Ct yX5_lays cX5_lays 2 none rm_X5_lays sp_X5_lays := am_met (own := RX5) (nm := "lays") (by decide) rfl rfl (Or.inl rfl) (fun _ _ => h_X5_lays) (fun _ _ _ X => s_X5_lays X) (fun _ _ _ _ h => h)
-- X5_answeredBy
theorem dX5_answeredBy_0 : decode cX5_answeredBy 0 = .ok (.iconst 0, 1) := by decide +kernel
theorem dX5_answeredBy_1 : decode cX5_answeredBy 1 = .ok (.istore_n 2, 1) := by decide +kernel
theorem dX5_answeredBy_2 : decode cX5_answeredBy 2 = .ok (.iconst 0, 1) := by decide +kernel
theorem dX5_answeredBy_3 : decode cX5_answeredBy 3 = .ok (.istore_n 3, 1) := by decide +kernel
theorem dX5_answeredBy_4 : decode cX5_answeredBy 4 = .ok (.iload_n 3, 1) := by decide +kernel
theorem dX5_answeredBy_5 : decode cX5_answeredBy 5 = .ok (.aload_n 0, 1) := by decide +kernel
theorem dX5_answeredBy_6 : decode cX5_answeredBy 6 = .ok (.getfield 7, 3) := by decide +kernel
theorem dX5_answeredBy_9 : decode cX5_answeredBy 9 = .ok (.bipush 9, 2) := by decide +kernel
theorem dX5_answeredBy_11 : decode cX5_answeredBy 11 = .ok (.iaload, 1) := by decide +kernel
theorem dX5_answeredBy_12 : decode cX5_answeredBy 12 = .ok (.if_icmp .ge 27, 3) := by decide +kernel
theorem dX5_answeredBy_15 : decode cX5_answeredBy 15 = .ok (.iload_n 2, 1) := by decide +kernel
theorem dX5_answeredBy_16 : decode cX5_answeredBy 16 = .ok (.aload_n 0, 1) := by decide +kernel
theorem dX5_answeredBy_17 : decode cX5_answeredBy 17 = .ok (.getfield 34, 3) := by decide +kernel
theorem dX5_answeredBy_20 : decode cX5_answeredBy 20 = .ok (.iload_n 3, 1) := by decide +kernel
theorem dX5_answeredBy_21 : decode cX5_answeredBy 21 = .ok (.iaload, 1) := by decide +kernel
theorem dX5_answeredBy_22 : decode cX5_answeredBy 22 = .ok (.iload_n 1, 1) := by decide +kernel
theorem dX5_answeredBy_23 : decode cX5_answeredBy 23 = .ok (.if_icmp .ne 7, 3) := by decide +kernel
theorem dX5_answeredBy_26 : decode cX5_answeredBy 26 = .ok (.iconst 1, 1) := by decide +kernel
theorem dX5_answeredBy_27 : decode cX5_answeredBy 27 = .ok (.goto 4, 3) := by decide +kernel
theorem dX5_answeredBy_30 : decode cX5_answeredBy 30 = .ok (.iconst 0, 1) := by decide +kernel
theorem dX5_answeredBy_31 : decode cX5_answeredBy 31 = .ok (.iadd, 1) := by decide +kernel
theorem dX5_answeredBy_32 : decode cX5_answeredBy 32 = .ok (.istore_n 2, 1) := by decide +kernel
theorem dX5_answeredBy_33 : decode cX5_answeredBy 33 = .ok (.iinc 3 1, 3) := by decide +kernel
theorem dX5_answeredBy_36 : decode cX5_answeredBy 36 = .ok (.goto (-32), 3) := by decide +kernel
theorem dX5_answeredBy_39 : decode cX5_answeredBy 39 = .ok (.iload_n 2, 1) := by decide +kernel
theorem dX5_answeredBy_40 : decode cX5_answeredBy 40 = .ok (.ireturn, 1) := by decide +kernel
def t_X5_answeredBy_39 : am_T := tb_iload 2 <|
  tb_iret
def t_X5_answeredBy_31 : am_T := tb_bin (fun x y => x + y) <|
  tb_istore 2 <|
  tb_iinc 3 1 <|
  tb_head 4
def t_X5_answeredBy_30 : am_T := tb_const 0 <|
  t_X5_answeredBy_31
def t_X5_answeredBy_4 : am_T := tb_iload 3 <|
  tb_aload 0 <|
  tb_getR 5 0 <|
  tb_const 9 <|
  tb_iald <|
  tb_ic (fun x y => y ≤ x) (t_X5_answeredBy_39) <|
  tb_iload 2 <|
  tb_aload 0 <|
  tb_getR 5 10 <|
  tb_iload 3 <|
  tb_iald <|
  tb_iload 1 <|
  tb_ic (fun x y => x ≠ y) (t_X5_answeredBy_30) <|
  tb_const 1 <|
  t_X5_answeredBy_31
def t_X5_answeredBy_0 : am_T := tb_const 0 <|
  tb_istore 2 <|
  tb_const 0 <|
  tb_istore 3 <|
  tb_head 4
def h_X5_answeredBy : am_Hd := fun h => if h = 0 then t_X5_answeredBy_0 else if h = 4 then t_X5_answeredBy_4 else tb_bad
theorem h_X5_answeredBy_0 : h_X5_answeredBy 0 = t_X5_answeredBy_0 := rfl
theorem h_X5_answeredBy_4 : h_X5_answeredBy 4 = t_X5_answeredBy_4 := rfl
def rm_X5_answeredBy : Room := { frames := 0, cells := 0, slots := 0, locals := 0 }
def sp_X5_answeredBy : am_sp := fun as M Q => as.length ≤ 4 ∧ am_OK h_X5_answeredBy Q 0 (am_in 4 as) M
theorem s_X5_answeredBy_39 {G : am_G} {bc bs : Nat} (X : am_Cx G cX5_answeredBy RX5 "answeredBy" rm_X5_answeredBy (some .int) 4 bc bs true) : am_S G 39 (t_X5_answeredBy_39) := by
  unfold t_X5_answeredBy_39
  refine as_iload_n (pc := 39) X dX5_answeredBy_39 rfl ?_
  exact as_iret (pc := 40) X ⟨rfl, rfl⟩ rfl dX5_answeredBy_40
theorem s_X5_answeredBy_31 {G : am_G} {bc bs : Nat} (X : am_Cx G cX5_answeredBy RX5 "answeredBy" rm_X5_answeredBy (some .int) 4 bc bs true) : am_S G 31 (t_X5_answeredBy_31) := by
  unfold t_X5_answeredBy_31
  refine as_iadd (pc := 31) X dX5_answeredBy_31 ?_
  refine as_istore_n (pc := 32) X dX5_answeredBy_32 rfl ?_ (by decide)
  refine as_iinc (pc := 33) X dX5_answeredBy_33 (by decide) (by decide) ?_
  exact as_goto (pc := 36) X 4 dX5_answeredBy_36 (by decide) (as_head)
theorem s_X5_answeredBy_30 {G : am_G} {bc bs : Nat} (X : am_Cx G cX5_answeredBy RX5 "answeredBy" rm_X5_answeredBy (some .int) 4 bc bs true) : am_S G 30 (t_X5_answeredBy_30) := by
  unfold t_X5_answeredBy_30
  refine as_iconst (pc := 30) X dX5_answeredBy_30 (by decide) ?_
  exact s_X5_answeredBy_31 X
theorem s_X5_answeredBy_4 {G : am_G} {bc bs : Nat} (X : am_Cx G cX5_answeredBy RX5 "answeredBy" rm_X5_answeredBy (some .int) 4 bc bs true) : am_S G 4 (t_X5_answeredBy_4) := by
  unfold t_X5_answeredBy_4
  refine as_iload_n (pc := 4) X dX5_answeredBy_4 rfl ?_
  refine as_aload_n (pc := 5) X dX5_answeredBy_5 rfl ?_
  refine as_getR (ci := 5) (j := 0) (pc := 6) X (Cn := RX5) (Tf := TX5) (N := 21) rfl rfl (by decide) iw_X5 aw_738 rfl dX5_answeredBy_6 ?_
  refine as_bipush (pc := 9) X dX5_answeredBy_9 (by decide) ?_
  refine as_iald (pc := 11) X dX5_answeredBy_11 ?_
  refine as_ic_ge (pc := 12) X 39 dX5_answeredBy_12 (by decide) (s_X5_answeredBy_39 X) ?_
  refine as_iload_n (pc := 15) X dX5_answeredBy_15 rfl ?_
  refine as_aload_n (pc := 16) X dX5_answeredBy_16 rfl ?_
  refine as_getR (ci := 5) (j := 10) (pc := 17) X (Cn := RX5) (Tf := TX5) (N := 21) rfl rfl (by decide) iw_X5 aw_748 rfl dX5_answeredBy_17 ?_
  refine as_iload_n (pc := 20) X dX5_answeredBy_20 rfl ?_
  refine as_iald (pc := 21) X dX5_answeredBy_21 ?_
  refine as_iload_n (pc := 22) X dX5_answeredBy_22 rfl ?_
  refine as_ic_ne (pc := 23) X 30 dX5_answeredBy_23 (by decide) (s_X5_answeredBy_30 X) ?_
  refine as_iconst (pc := 26) X dX5_answeredBy_26 (by decide) ?_
  exact as_goto (pc := 27) X 31 dX5_answeredBy_27 (by decide) (s_X5_answeredBy_31 X)
theorem s_X5_answeredBy_0 {G : am_G} {bc bs : Nat} (X : am_Cx G cX5_answeredBy RX5 "answeredBy" rm_X5_answeredBy (some .int) 4 bc bs true) : am_S G 0 (t_X5_answeredBy_0) := by
  unfold t_X5_answeredBy_0
  refine as_iconst (pc := 0) X dX5_answeredBy_0 (by decide) ?_
  refine as_istore_n (pc := 1) X dX5_answeredBy_1 rfl ?_ (by decide)
  refine as_iconst (pc := 2) X dX5_answeredBy_2 (by decide) ?_
  refine as_istore_n (pc := 3) X dX5_answeredBy_3 rfl ?_ (by decide)
  exact as_head
theorem s_X5_answeredBy {G : am_G} {bc bs : Nat} (X : am_Cx G cX5_answeredBy RX5 "answeredBy" rm_X5_answeredBy (some .int) 4 bc bs true) (h : Nat) : am_S G h (h_X5_answeredBy h) := by
  unfold h_X5_answeredBy
  split
  · next e => rw [e]; exact s_X5_answeredBy_0 X
  split
  · next e => rw [e]; exact s_X5_answeredBy_4 X
  exact as_bad
theorem ct_X5_answeredBy : am_Ct yX5_answeredBy cX5_answeredBy 4 (some .int) rm_X5_answeredBy sp_X5_answeredBy := am_met (own := RX5) (nm := "answeredBy") (by decide) rfl rfl (Or.inr (Or.inl rfl)) (fun _ _ => h_X5_answeredBy) (fun _ _ _ X => s_X5_answeredBy X) (fun _ _ _ _ h => h)
-- X5_lineOf
theorem dX5_lineOf_0 : decode cX5_lineOf 0 = .ok (.aload_n 0, 1) := by decide +kernel
theorem dX5_lineOf_1 : decode cX5_lineOf 1 = .ok (.iload_n 1, 1) := by decide +kernel
theorem dX5_lineOf_2 : decode cX5_lineOf 2 = .ok (.invokevirtual 138, 3) := by decide +kernel
theorem dX5_lineOf_5 : decode cX5_lineOf 5 = .ok (.ifCond .eq 13, 3) := by decide +kernel
theorem dX5_lineOf_8 : decode cX5_lineOf 8 = .ok (.iload_n 2, 1) := by decide +kernel
theorem dX5_lineOf_9 : decode cX5_lineOf 9 = .ok (.iconst 0, 1) := by decide +kernel
theorem dX5_lineOf_10 : decode cX5_lineOf 10 = .ok (.bipush 9, 2) := by decide +kernel
theorem dX5_lineOf_12 : decode cX5_lineOf 12 = .ok (.invokestatic 60, 3) := by decide +kernel
theorem dX5_lineOf_15 : decode cX5_lineOf 15 = .ok (.ifCond .ne 5, 3) := by decide +kernel
theorem dX5_lineOf_18 : decode cX5_lineOf 18 = .ok (.iconst (-1), 1) := by decide +kernel
theorem dX5_lineOf_19 : decode cX5_lineOf 19 = .ok (.ireturn, 1) := by decide +kernel
theorem dX5_lineOf_20 : decode cX5_lineOf 20 = .ok (.aload_n 0, 1) := by decide +kernel
theorem dX5_lineOf_21 : decode cX5_lineOf 21 = .ok (.aload_n 0, 1) := by decide +kernel
theorem dX5_lineOf_22 : decode cX5_lineOf 22 = .ok (.getfield 7, 3) := by decide +kernel
theorem dX5_lineOf_25 : decode cX5_lineOf 25 = .ok (.invokevirtual 145, 3) := by decide +kernel
theorem dX5_lineOf_28 : decode cX5_lineOf 28 = .ok (.iload_n 2, 1) := by decide +kernel
theorem dX5_lineOf_29 : decode cX5_lineOf 29 = .ok (.tableswitch 80 4 9 #[39, 46, 53, 60, 66, 73], 39) := by decide +kernel
theorem dX5_lineOf_68 : decode cX5_lineOf 68 = .ok (.aload_n 0, 1) := by decide +kernel
theorem dX5_lineOf_69 : decode cX5_lineOf 69 = .ok (.getfield 25, 3) := by decide +kernel
theorem dX5_lineOf_72 : decode cX5_lineOf 72 = .ok (.iload_n 1, 1) := by decide +kernel
theorem dX5_lineOf_73 : decode cX5_lineOf 73 = .ok (.iaload, 1) := by decide +kernel
theorem dX5_lineOf_74 : decode cX5_lineOf 74 = .ok (.ireturn, 1) := by decide +kernel
theorem dX5_lineOf_75 : decode cX5_lineOf 75 = .ok (.aload_n 0, 1) := by decide +kernel
theorem dX5_lineOf_76 : decode cX5_lineOf 76 = .ok (.getfield 37, 3) := by decide +kernel
theorem dX5_lineOf_79 : decode cX5_lineOf 79 = .ok (.iload_n 1, 1) := by decide +kernel
theorem dX5_lineOf_80 : decode cX5_lineOf 80 = .ok (.iaload, 1) := by decide +kernel
theorem dX5_lineOf_81 : decode cX5_lineOf 81 = .ok (.ireturn, 1) := by decide +kernel
theorem dX5_lineOf_82 : decode cX5_lineOf 82 = .ok (.aload_n 0, 1) := by decide +kernel
theorem dX5_lineOf_83 : decode cX5_lineOf 83 = .ok (.getfield 34, 3) := by decide +kernel
theorem dX5_lineOf_86 : decode cX5_lineOf 86 = .ok (.iload_n 1, 1) := by decide +kernel
theorem dX5_lineOf_87 : decode cX5_lineOf 87 = .ok (.iaload, 1) := by decide +kernel
theorem dX5_lineOf_88 : decode cX5_lineOf 88 = .ok (.ireturn, 1) := by decide +kernel
theorem dX5_lineOf_89 : decode cX5_lineOf 89 = .ok (.aload_n 0, 1) := by decide +kernel
theorem dX5_lineOf_90 : decode cX5_lineOf 90 = .ok (.iload_n 1, 1) := by decide +kernel
theorem dX5_lineOf_91 : decode cX5_lineOf 91 = .ok (.invokevirtual 148, 3) := by decide +kernel
theorem dX5_lineOf_94 : decode cX5_lineOf 94 = .ok (.ireturn, 1) := by decide +kernel
theorem dX5_lineOf_95 : decode cX5_lineOf 95 = .ok (.aload_n 0, 1) := by decide +kernel
theorem dX5_lineOf_96 : decode cX5_lineOf 96 = .ok (.getfield 40, 3) := by decide +kernel
theorem dX5_lineOf_99 : decode cX5_lineOf 99 = .ok (.iload_n 1, 1) := by decide +kernel
theorem dX5_lineOf_100 : decode cX5_lineOf 100 = .ok (.iaload, 1) := by decide +kernel
theorem dX5_lineOf_101 : decode cX5_lineOf 101 = .ok (.ireturn, 1) := by decide +kernel
theorem dX5_lineOf_102 : decode cX5_lineOf 102 = .ok (.aload_n 0, 1) := by decide +kernel
theorem dX5_lineOf_103 : decode cX5_lineOf 103 = .ok (.getfield 28, 3) := by decide +kernel
theorem dX5_lineOf_106 : decode cX5_lineOf 106 = .ok (.iload_n 1, 1) := by decide +kernel
theorem dX5_lineOf_107 : decode cX5_lineOf 107 = .ok (.iaload, 1) := by decide +kernel
theorem dX5_lineOf_108 : decode cX5_lineOf 108 = .ok (.ireturn, 1) := by decide +kernel
theorem dX5_lineOf_109 : decode cX5_lineOf 109 = .ok (.aload_n 0, 1) := by decide +kernel
theorem dX5_lineOf_110 : decode cX5_lineOf 110 = .ok (.getfield 7, 3) := by decide +kernel
theorem dX5_lineOf_113 : decode cX5_lineOf 113 = .ok (.iload_n 1, 1) := by decide +kernel
theorem dX5_lineOf_114 : decode cX5_lineOf 114 = .ok (.iload_n 2, 1) := by decide +kernel
theorem dX5_lineOf_115 : decode cX5_lineOf 115 = .ok (.invokestatic 71, 3) := by decide +kernel
theorem dX5_lineOf_118 : decode cX5_lineOf 118 = .ok (.ireturn, 1) := by decide +kernel
def t_X5_lineOf_109 : am_T := tb_aload 0 <|
  tb_getR 5 0 <|
  tb_iload 1 <|
  tb_iload 2 <|
  tb_callS sp_X5_of 3 <|
  tb_iret
def t_X5_lineOf_102 : am_T := tb_aload 0 <|
  tb_getR 5 8 <|
  tb_iload 1 <|
  tb_iald <|
  tb_iret
def t_X5_lineOf_95 : am_T := tb_aload 0 <|
  tb_getR 5 12 <|
  tb_iload 1 <|
  tb_iald <|
  tb_iret
def t_X5_lineOf_89 : am_T := tb_aload 0 <|
  tb_iload 1 <|
  tb_callV 5 sp_X5_answeredBy 2 <|
  tb_iret
def t_X5_lineOf_82 : am_T := tb_aload 0 <|
  tb_getR 5 10 <|
  tb_iload 1 <|
  tb_iald <|
  tb_iret
def t_X5_lineOf_75 : am_T := tb_aload 0 <|
  tb_getR 5 11 <|
  tb_iload 1 <|
  tb_iald <|
  tb_iret
def t_X5_lineOf_68 : am_T := tb_aload 0 <|
  tb_getR 5 7 <|
  tb_iload 1 <|
  tb_iald <|
  tb_iret
def w_X5_lineOf_29 : Nat → am_T := fun j => match j with
    | 0 => t_X5_lineOf_68
    | 1 => t_X5_lineOf_75
    | 2 => t_X5_lineOf_82
    | 3 => t_X5_lineOf_89
    | 4 => t_X5_lineOf_95
    | 5 => t_X5_lineOf_102
    | _ => tb_bad
def v_X5_lineOf_29 : Nat → Nat := fun j => match j with
    | 0 => 68
    | 1 => 75
    | 2 => 82
    | 3 => 89
    | 4 => 95
    | 5 => 102
    | _ => 0
def t_X5_lineOf_20 : am_T := tb_aload 0 <|
  tb_aload 0 <|
  tb_getR 5 0 <|
  tb_callV 5 sp_X5_lays 2 <|
  tb_iload 2 <|
  tb_sw 4 9 w_X5_lineOf_29 (t_X5_lineOf_109)
def t_X5_lineOf_18 : am_T := tb_const (-1) <|
  tb_iret
def t_X5_lineOf_0 : am_T := tb_aload 0 <|
  tb_iload 1 <|
  tb_callV 5 sp_X5_isLine 2 <|
  tb_if (fun x => x = 0) (t_X5_lineOf_18) <|
  tb_iload 2 <|
  tb_const 0 <|
  tb_const 9 <|
  tb_callS sp_X5_in 3 <|
  tb_if (fun x => x ≠ 0) (t_X5_lineOf_20) <|
  t_X5_lineOf_18
def h_X5_lineOf : am_Hd := fun h => if h = 0 then t_X5_lineOf_0 else tb_bad
theorem h_X5_lineOf_0 : h_X5_lineOf 0 = t_X5_lineOf_0 := rfl
def rm_X5_lineOf : Room := { frames := 6, cells := 0, slots := 0, locals := 145 }
def sp_X5_lineOf : am_sp := fun as M Q => as.length ≤ 3 ∧ am_OK h_X5_lineOf Q 0 (am_in 3 as) M
theorem s_X5_lineOf_109 {G : am_G} {bc bs : Nat} (X : am_Cx G cX5_lineOf RX5 "lineOf" rm_X5_lineOf (some .int) 3 bc bs true) : am_S G 109 (t_X5_lineOf_109) := by
  unfold t_X5_lineOf_109
  refine as_aload_n (pc := 109) X dX5_lineOf_109 rfl ?_
  refine as_getR (ci := 5) (j := 0) (pc := 110) X (Cn := RX5) (Tf := TX5) (N := 21) rfl rfl (by decide) iw_X5 aw_738 rfl dX5_lineOf_110 ?_
  refine as_iload_n (pc := 113) X dX5_lineOf_113 rfl ?_
  refine as_iload_n (pc := 114) X dX5_lineOf_114 rfl ?_
  refine as_callS (np := 3) (ix := 71) (pc := 115) X ct_X5_of ⟨rfl, rfl⟩ aw_873 aw_874 aw_875 aw_65 (by decide +kernel) (by decide) dX5_lineOf_115 ?_
  exact as_iret (pc := 118) X ⟨rfl, rfl⟩ rfl dX5_lineOf_118
theorem s_X5_lineOf_102 {G : am_G} {bc bs : Nat} (X : am_Cx G cX5_lineOf RX5 "lineOf" rm_X5_lineOf (some .int) 3 bc bs true) : am_S G 102 (t_X5_lineOf_102) := by
  unfold t_X5_lineOf_102
  refine as_aload_n (pc := 102) X dX5_lineOf_102 rfl ?_
  refine as_getR (ci := 5) (j := 8) (pc := 103) X (Cn := RX5) (Tf := TX5) (N := 21) rfl rfl (by decide) iw_X5 aw_746 rfl dX5_lineOf_103 ?_
  refine as_iload_n (pc := 106) X dX5_lineOf_106 rfl ?_
  refine as_iald (pc := 107) X dX5_lineOf_107 ?_
  exact as_iret (pc := 108) X ⟨rfl, rfl⟩ rfl dX5_lineOf_108
theorem s_X5_lineOf_95 {G : am_G} {bc bs : Nat} (X : am_Cx G cX5_lineOf RX5 "lineOf" rm_X5_lineOf (some .int) 3 bc bs true) : am_S G 95 (t_X5_lineOf_95) := by
  unfold t_X5_lineOf_95
  refine as_aload_n (pc := 95) X dX5_lineOf_95 rfl ?_
  refine as_getR (ci := 5) (j := 12) (pc := 96) X (Cn := RX5) (Tf := TX5) (N := 21) rfl rfl (by decide) iw_X5 aw_750 rfl dX5_lineOf_96 ?_
  refine as_iload_n (pc := 99) X dX5_lineOf_99 rfl ?_
  refine as_iald (pc := 100) X dX5_lineOf_100 ?_
  exact as_iret (pc := 101) X ⟨rfl, rfl⟩ rfl dX5_lineOf_101
theorem s_X5_lineOf_89 {G : am_G} {bc bs : Nat} (X : am_Cx G cX5_lineOf RX5 "lineOf" rm_X5_lineOf (some .int) 3 bc bs true) : am_S G 89 (t_X5_lineOf_89) := by
  unfold t_X5_lineOf_89
  refine as_aload_n (pc := 89) X dX5_lineOf_89 rfl ?_
  refine as_iload_n (pc := 90) X dX5_lineOf_90 rfl ?_
  refine as_callV (ci := 5) (np := 1) (ix := 148) (pc := 91) X ct_X5_answeredBy (Cn := (RX5, TX5, 21)) rfl ⟨rfl, rfl⟩ aw_916 aw_918 aw_39 aw_919 aw_65 (by decide +kernel) (by decide) dX5_lineOf_91 ?_
  exact as_iret (pc := 94) X ⟨rfl, rfl⟩ rfl dX5_lineOf_94
theorem s_X5_lineOf_82 {G : am_G} {bc bs : Nat} (X : am_Cx G cX5_lineOf RX5 "lineOf" rm_X5_lineOf (some .int) 3 bc bs true) : am_S G 82 (t_X5_lineOf_82) := by
  unfold t_X5_lineOf_82
  refine as_aload_n (pc := 82) X dX5_lineOf_82 rfl ?_
  refine as_getR (ci := 5) (j := 10) (pc := 83) X (Cn := RX5) (Tf := TX5) (N := 21) rfl rfl (by decide) iw_X5 aw_748 rfl dX5_lineOf_83 ?_
  refine as_iload_n (pc := 86) X dX5_lineOf_86 rfl ?_
  refine as_iald (pc := 87) X dX5_lineOf_87 ?_
  exact as_iret (pc := 88) X ⟨rfl, rfl⟩ rfl dX5_lineOf_88
theorem s_X5_lineOf_75 {G : am_G} {bc bs : Nat} (X : am_Cx G cX5_lineOf RX5 "lineOf" rm_X5_lineOf (some .int) 3 bc bs true) : am_S G 75 (t_X5_lineOf_75) := by
  unfold t_X5_lineOf_75
  refine as_aload_n (pc := 75) X dX5_lineOf_75 rfl ?_
  refine as_getR (ci := 5) (j := 11) (pc := 76) X (Cn := RX5) (Tf := TX5) (N := 21) rfl rfl (by decide) iw_X5 aw_749 rfl dX5_lineOf_76 ?_
  refine as_iload_n (pc := 79) X dX5_lineOf_79 rfl ?_
  refine as_iald (pc := 80) X dX5_lineOf_80 ?_
  exact as_iret (pc := 81) X ⟨rfl, rfl⟩ rfl dX5_lineOf_81
theorem s_X5_lineOf_68 {G : am_G} {bc bs : Nat} (X : am_Cx G cX5_lineOf RX5 "lineOf" rm_X5_lineOf (some .int) 3 bc bs true) : am_S G 68 (t_X5_lineOf_68) := by
  unfold t_X5_lineOf_68
  refine as_aload_n (pc := 68) X dX5_lineOf_68 rfl ?_
  refine as_getR (ci := 5) (j := 7) (pc := 69) X (Cn := RX5) (Tf := TX5) (N := 21) rfl rfl (by decide) iw_X5 aw_745 rfl dX5_lineOf_69 ?_
  refine as_iload_n (pc := 72) X dX5_lineOf_72 rfl ?_
  refine as_iald (pc := 73) X dX5_lineOf_73 ?_
  exact as_iret (pc := 74) X ⟨rfl, rfl⟩ rfl dX5_lineOf_74
theorem s_X5_lineOf_20 {G : am_G} {bc bs : Nat} (X : am_Cx G cX5_lineOf RX5 "lineOf" rm_X5_lineOf (some .int) 3 bc bs true) : am_S G 20 (t_X5_lineOf_20) := by
  unfold t_X5_lineOf_20
  refine as_aload_n (pc := 20) X dX5_lineOf_20 rfl ?_
  refine as_aload_n (pc := 21) X dX5_lineOf_21 rfl ?_
  refine as_getR (ci := 5) (j := 0) (pc := 22) X (Cn := RX5) (Tf := TX5) (N := 21) rfl rfl (by decide) iw_X5 aw_738 rfl dX5_lineOf_22 ?_
  refine as_callV (ci := 5) (np := 1) (ix := 145) (pc := 25) X ct_X5_lays (Cn := (RX5, TX5, 21)) rfl ⟨rfl, rfl⟩ aw_861 aw_863 aw_29 aw_864 aw_65 (by decide +kernel) (by decide) dX5_lineOf_25 ?_
  refine as_iload_n (pc := 28) X dX5_lineOf_28 rfl ?_
  refine as_sw (pc := 29) X dX5_lineOf_29 v_X5_lineOf_29 109 (by decide) (fun j hj => ?_) (s_X5_lineOf_109 X)
  match j, hj with
  | 0, _ => exact ⟨39, rfl, by decide, s_X5_lineOf_68 X⟩
  | 1, _ => exact ⟨46, rfl, by decide, s_X5_lineOf_75 X⟩
  | 2, _ => exact ⟨53, rfl, by decide, s_X5_lineOf_82 X⟩
  | 3, _ => exact ⟨60, rfl, by decide, s_X5_lineOf_89 X⟩
  | 4, _ => exact ⟨66, rfl, by decide, s_X5_lineOf_95 X⟩
  | 5, _ => exact ⟨73, rfl, by decide, s_X5_lineOf_102 X⟩
  | j + 6, hj => exact absurd hj (by omega)
theorem s_X5_lineOf_18 {G : am_G} {bc bs : Nat} (X : am_Cx G cX5_lineOf RX5 "lineOf" rm_X5_lineOf (some .int) 3 bc bs true) : am_S G 18 (t_X5_lineOf_18) := by
  unfold t_X5_lineOf_18
  refine as_iconst (pc := 18) X dX5_lineOf_18 (by decide) ?_
  exact as_iret (pc := 19) X ⟨rfl, rfl⟩ rfl dX5_lineOf_19
theorem s_X5_lineOf_0 {G : am_G} {bc bs : Nat} (X : am_Cx G cX5_lineOf RX5 "lineOf" rm_X5_lineOf (some .int) 3 bc bs true) : am_S G 0 (t_X5_lineOf_0) := by
  unfold t_X5_lineOf_0
  refine as_aload_n (pc := 0) X dX5_lineOf_0 rfl ?_
  refine as_iload_n (pc := 1) X dX5_lineOf_1 rfl ?_
  refine as_callV (ci := 5) (np := 1) (ix := 138) (pc := 2) X ct_X5_isLine (Cn := (RX5, TX5, 21)) rfl ⟨rfl, rfl⟩ aw_844 aw_846 aw_28 aw_847 aw_65 (by decide +kernel) (by decide) dX5_lineOf_2 ?_
  refine as_if_eq (pc := 5) X 18 dX5_lineOf_5 (by decide) (s_X5_lineOf_18 X) ?_
  refine as_iload_n (pc := 8) X dX5_lineOf_8 rfl ?_
  refine as_iconst (pc := 9) X dX5_lineOf_9 (by decide) ?_
  refine as_bipush (pc := 10) X dX5_lineOf_10 (by decide) ?_
  refine as_callS (np := 3) (ix := 60) (pc := 12) X ct_X5_in ⟨rfl, rfl⟩ aw_806 aw_807 aw_808 aw_65 (by decide +kernel) (by decide) dX5_lineOf_12 ?_
  refine as_if_ne (pc := 15) X 20 dX5_lineOf_15 (by decide) (s_X5_lineOf_20 X) ?_
  exact s_X5_lineOf_18 X
theorem s_X5_lineOf {G : am_G} {bc bs : Nat} (X : am_Cx G cX5_lineOf RX5 "lineOf" rm_X5_lineOf (some .int) 3 bc bs true) (h : Nat) : am_S G h (h_X5_lineOf h) := by
  unfold h_X5_lineOf
  split
  · next e => rw [e]; exact s_X5_lineOf_0 X
  exact as_bad
theorem ct_X5_lineOf : am_Ct yX5_lineOf cX5_lineOf 3 (some .int) rm_X5_lineOf sp_X5_lineOf := am_met (own := RX5) (nm := "lineOf") (by decide) rfl rfl (Or.inr (Or.inl rfl)) (fun _ _ => h_X5_lineOf) (fun _ _ _ X => s_X5_lineOf X) (fun _ _ _ _ h => h)
-- X4_inOrder
theorem dX4_inOrder_0 : decode cX4_inOrder 0 = .ok (.iload_n 1, 1) := by decide +kernel
theorem dX4_inOrder_1 : decode cX4_inOrder 1 = .ok (.ifCond .ge 5, 3) := by decide +kernel
theorem dX4_inOrder_4 : decode cX4_inOrder 4 = .ok (.iconst (-1), 1) := by decide +kernel
theorem dX4_inOrder_5 : decode cX4_inOrder 5 = .ok (.ireturn, 1) := by decide +kernel
theorem dX4_inOrder_6 : decode cX4_inOrder 6 = .ok (.iload_n 1, 1) := by decide +kernel
theorem dX4_inOrder_7 : decode cX4_inOrder 7 = .ok (.aload_n 0, 1) := by decide +kernel
theorem dX4_inOrder_8 : decode cX4_inOrder 8 = .ok (.getfield 20, 3) := by decide +kernel
theorem dX4_inOrder_11 : decode cX4_inOrder 11 = .ok (.getfield 86, 3) := by decide +kernel
theorem dX4_inOrder_14 : decode cX4_inOrder 14 = .ok (.if_icmp .ge 15, 3) := by decide +kernel
theorem dX4_inOrder_17 : decode cX4_inOrder 17 = .ok (.aload_n 0, 1) := by decide +kernel
theorem dX4_inOrder_18 : decode cX4_inOrder 18 = .ok (.invokevirtual 116, 3) := by decide +kernel
theorem dX4_inOrder_21 : decode cX4_inOrder 21 = .ok (.getfield 138, 3) := by decide +kernel
theorem dX4_inOrder_24 : decode cX4_inOrder 24 = .ok (.iload_n 1, 1) := by decide +kernel
theorem dX4_inOrder_25 : decode cX4_inOrder 25 = .ok (.iaload, 1) := by decide +kernel
theorem dX4_inOrder_26 : decode cX4_inOrder 26 = .ok (.goto 5, 3) := by decide +kernel
theorem dX4_inOrder_29 : decode cX4_inOrder 29 = .ok (.bipush (-4), 2) := by decide +kernel
theorem dX4_inOrder_31 : decode cX4_inOrder 31 = .ok (.ireturn, 1) := by decide +kernel
def t_X4_inOrder_31 : am_T := tb_iret
def t_X4_inOrder_29 : am_T := tb_const (-4) <|
  t_X4_inOrder_31
def t_X4_inOrder_6 : am_T := tb_iload 1 <|
  tb_aload 0 <|
  tb_getR 4 1 <|
  tb_getI 1 4 <|
  tb_ic (fun x y => y ≤ x) (t_X4_inOrder_29) <|
  tb_aload 0 <|
  tb_callV 4 sp_X4_currentThreads 1 <|
  tb_getR 3 1 <|
  tb_iload 1 <|
  tb_iald <|
  t_X4_inOrder_31
def t_X4_inOrder_0 : am_T := tb_iload 1 <|
  tb_if (fun x => 0 ≤ x) (t_X4_inOrder_6) <|
  tb_const (-1) <|
  tb_iret
def h_X4_inOrder : am_Hd := fun h => if h = 0 then t_X4_inOrder_0 else tb_bad
theorem h_X4_inOrder_0 : h_X4_inOrder 0 = t_X4_inOrder_0 := rfl
def rm_X4_inOrder : Room := { frames := 6, cells := 0, slots := 0, locals := 133 }
def sp_X4_inOrder : am_sp := fun as M Q => as.length ≤ 2 ∧ am_OK h_X4_inOrder Q 0 (am_in 2 as) M
theorem s_X4_inOrder_31 {G : am_G} {bc bs : Nat} (X : am_Cx G cX4_inOrder RX4 "inOrder" rm_X4_inOrder (some .int) 2 bc bs true) : am_S G 31 (t_X4_inOrder_31) := by
  unfold t_X4_inOrder_31
  exact as_iret (pc := 31) X ⟨rfl, rfl⟩ rfl dX4_inOrder_31
theorem s_X4_inOrder_29 {G : am_G} {bc bs : Nat} (X : am_Cx G cX4_inOrder RX4 "inOrder" rm_X4_inOrder (some .int) 2 bc bs true) : am_S G 29 (t_X4_inOrder_29) := by
  unfold t_X4_inOrder_29
  refine as_bipush (pc := 29) X dX4_inOrder_29 (by decide) ?_
  exact s_X4_inOrder_31 X
theorem s_X4_inOrder_6 {G : am_G} {bc bs : Nat} (X : am_Cx G cX4_inOrder RX4 "inOrder" rm_X4_inOrder (some .int) 2 bc bs true) : am_S G 6 (t_X4_inOrder_6) := by
  unfold t_X4_inOrder_6
  refine as_iload_n (pc := 6) X dX4_inOrder_6 rfl ?_
  refine as_aload_n (pc := 7) X dX4_inOrder_7 rfl ?_
  refine as_getR (ci := 4) (j := 1) (pc := 8) X (Cn := RX4) (Tf := TX4) (N := 7) rfl rfl (by decide) iw_X4 aw_275 rfl dX4_inOrder_8 ?_
  refine as_getI (ci := 1) (j := 4) (pc := 11) X (Cn := RX1) (Tf := TX1) (N := 14) rfl rfl (by decide) iw_X1 aw_100 rfl dX4_inOrder_11 ?_
  refine as_ic_ge (pc := 14) X 29 dX4_inOrder_14 (by decide) (s_X4_inOrder_29 X) ?_
  refine as_aload_n (pc := 17) X dX4_inOrder_17 rfl ?_
  refine as_callV (ci := 4) (np := 0) (ix := 116) (pc := 18) X ct_X4_currentThreads (Cn := (RX4, TX4, 7)) rfl ⟨rfl, rfl⟩ aw_389 aw_391 aw_2 aw_392 aw_59 (by decide +kernel) (by decide) dX4_inOrder_18 ?_
  refine as_getR (ci := 3) (j := 1) (pc := 21) X (Cn := RX3) (Tf := TX3) (N := 17) rfl rfl (by decide) iw_X3 aw_162 rfl dX4_inOrder_21 ?_
  refine as_iload_n (pc := 24) X dX4_inOrder_24 rfl ?_
  refine as_iald (pc := 25) X dX4_inOrder_25 ?_
  exact as_goto (pc := 26) X 31 dX4_inOrder_26 (by decide) (s_X4_inOrder_31 X)
theorem s_X4_inOrder_0 {G : am_G} {bc bs : Nat} (X : am_Cx G cX4_inOrder RX4 "inOrder" rm_X4_inOrder (some .int) 2 bc bs true) : am_S G 0 (t_X4_inOrder_0) := by
  unfold t_X4_inOrder_0
  refine as_iload_n (pc := 0) X dX4_inOrder_0 rfl ?_
  refine as_if_ge (pc := 1) X 6 dX4_inOrder_1 (by decide) (s_X4_inOrder_6 X) ?_
  refine as_iconst (pc := 4) X dX4_inOrder_4 (by decide) ?_
  exact as_iret (pc := 5) X ⟨rfl, rfl⟩ rfl dX4_inOrder_5
theorem s_X4_inOrder {G : am_G} {bc bs : Nat} (X : am_Cx G cX4_inOrder RX4 "inOrder" rm_X4_inOrder (some .int) 2 bc bs true) (h : Nat) : am_S G h (h_X4_inOrder h) := by
  unfold h_X4_inOrder
  split
  · next e => rw [e]; exact s_X4_inOrder_0 X
  exact as_bad
theorem ct_X4_inOrder : am_Ct yX4_inOrder cX4_inOrder 2 (some .int) rm_X4_inOrder sp_X4_inOrder := am_met (own := RX4) (nm := "inOrder") (by decide) rfl rfl (Or.inr (Or.inl rfl)) (fun _ _ => h_X4_inOrder) (fun _ _ _ X => s_X4_inOrder X) (fun _ _ _ _ h => h)
-- X5_inOrder
theorem dX5_inOrder_0 : decode cX5_inOrder 0 = .ok (.aload_n 0, 1) := by decide +kernel
theorem dX5_inOrder_1 : decode cX5_inOrder 1 = .ok (.aload_n 0, 1) := by decide +kernel
theorem dX5_inOrder_2 : decode cX5_inOrder 2 = .ok (.getfield 7, 3) := by decide +kernel
theorem dX5_inOrder_5 : decode cX5_inOrder 5 = .ok (.invokevirtual 145, 3) := by decide +kernel
theorem dX5_inOrder_8 : decode cX5_inOrder 8 = .ok (.iload_n 1, 1) := by decide +kernel
theorem dX5_inOrder_9 : decode cX5_inOrder 9 = .ok (.ifCond .ge 7, 3) := by decide +kernel
theorem dX5_inOrder_12 : decode cX5_inOrder 12 = .ok (.iconst (-1), 1) := by decide +kernel
theorem dX5_inOrder_13 : decode cX5_inOrder 13 = .ok (.goto 25, 3) := by decide +kernel
theorem dX5_inOrder_16 : decode cX5_inOrder 16 = .ok (.iload_n 1, 1) := by decide +kernel
theorem dX5_inOrder_17 : decode cX5_inOrder 17 = .ok (.aload_n 0, 1) := by decide +kernel
theorem dX5_inOrder_18 : decode cX5_inOrder 18 = .ok (.getfield 7, 3) := by decide +kernel
theorem dX5_inOrder_21 : decode cX5_inOrder 21 = .ok (.bipush 9, 2) := by decide +kernel
theorem dX5_inOrder_23 : decode cX5_inOrder 23 = .ok (.iaload, 1) := by decide +kernel
theorem dX5_inOrder_24 : decode cX5_inOrder 24 = .ok (.if_icmp .ge 12, 3) := by decide +kernel
theorem dX5_inOrder_27 : decode cX5_inOrder 27 = .ok (.aload_n 0, 1) := by decide +kernel
theorem dX5_inOrder_28 : decode cX5_inOrder 28 = .ok (.getfield 22, 3) := by decide +kernel
theorem dX5_inOrder_31 : decode cX5_inOrder 31 = .ok (.iload_n 1, 1) := by decide +kernel
theorem dX5_inOrder_32 : decode cX5_inOrder 32 = .ok (.iaload, 1) := by decide +kernel
theorem dX5_inOrder_33 : decode cX5_inOrder 33 = .ok (.goto 5, 3) := by decide +kernel
theorem dX5_inOrder_36 : decode cX5_inOrder 36 = .ok (.bipush (-4), 2) := by decide +kernel
theorem dX5_inOrder_38 : decode cX5_inOrder 38 = .ok (.ireturn, 1) := by decide +kernel
def t_X5_inOrder_38 : am_T := tb_iret
def t_X5_inOrder_36 : am_T := tb_const (-4) <|
  t_X5_inOrder_38
def t_X5_inOrder_16 : am_T := tb_iload 1 <|
  tb_aload 0 <|
  tb_getR 5 0 <|
  tb_const 9 <|
  tb_iald <|
  tb_ic (fun x y => y ≤ x) (t_X5_inOrder_36) <|
  tb_aload 0 <|
  tb_getR 5 6 <|
  tb_iload 1 <|
  tb_iald <|
  t_X5_inOrder_38
def t_X5_inOrder_0 : am_T := tb_aload 0 <|
  tb_aload 0 <|
  tb_getR 5 0 <|
  tb_callV 5 sp_X5_lays 2 <|
  tb_iload 1 <|
  tb_if (fun x => 0 ≤ x) (t_X5_inOrder_16) <|
  tb_const (-1) <|
  t_X5_inOrder_38
def h_X5_inOrder : am_Hd := fun h => if h = 0 then t_X5_inOrder_0 else tb_bad
theorem h_X5_inOrder_0 : h_X5_inOrder 0 = t_X5_inOrder_0 := rfl
def rm_X5_inOrder : Room := { frames := 6, cells := 0, slots := 0, locals := 145 }
def sp_X5_inOrder : am_sp := fun as M Q => as.length ≤ 2 ∧ am_OK h_X5_inOrder Q 0 (am_in 2 as) M
theorem s_X5_inOrder_38 {G : am_G} {bc bs : Nat} (X : am_Cx G cX5_inOrder RX5 "inOrder" rm_X5_inOrder (some .int) 2 bc bs true) : am_S G 38 (t_X5_inOrder_38) := by
  unfold t_X5_inOrder_38
  exact as_iret (pc := 38) X ⟨rfl, rfl⟩ rfl dX5_inOrder_38
theorem s_X5_inOrder_36 {G : am_G} {bc bs : Nat} (X : am_Cx G cX5_inOrder RX5 "inOrder" rm_X5_inOrder (some .int) 2 bc bs true) : am_S G 36 (t_X5_inOrder_36) := by
  unfold t_X5_inOrder_36
  refine as_bipush (pc := 36) X dX5_inOrder_36 (by decide) ?_
  exact s_X5_inOrder_38 X
theorem s_X5_inOrder_16 {G : am_G} {bc bs : Nat} (X : am_Cx G cX5_inOrder RX5 "inOrder" rm_X5_inOrder (some .int) 2 bc bs true) : am_S G 16 (t_X5_inOrder_16) := by
  unfold t_X5_inOrder_16
  refine as_iload_n (pc := 16) X dX5_inOrder_16 rfl ?_
  refine as_aload_n (pc := 17) X dX5_inOrder_17 rfl ?_
  refine as_getR (ci := 5) (j := 0) (pc := 18) X (Cn := RX5) (Tf := TX5) (N := 21) rfl rfl (by decide) iw_X5 aw_738 rfl dX5_inOrder_18 ?_
  refine as_bipush (pc := 21) X dX5_inOrder_21 (by decide) ?_
  refine as_iald (pc := 23) X dX5_inOrder_23 ?_
  refine as_ic_ge (pc := 24) X 36 dX5_inOrder_24 (by decide) (s_X5_inOrder_36 X) ?_
  refine as_aload_n (pc := 27) X dX5_inOrder_27 rfl ?_
  refine as_getR (ci := 5) (j := 6) (pc := 28) X (Cn := RX5) (Tf := TX5) (N := 21) rfl rfl (by decide) iw_X5 aw_744 rfl dX5_inOrder_28 ?_
  refine as_iload_n (pc := 31) X dX5_inOrder_31 rfl ?_
  refine as_iald (pc := 32) X dX5_inOrder_32 ?_
  exact as_goto (pc := 33) X 38 dX5_inOrder_33 (by decide) (s_X5_inOrder_38 X)
theorem s_X5_inOrder_0 {G : am_G} {bc bs : Nat} (X : am_Cx G cX5_inOrder RX5 "inOrder" rm_X5_inOrder (some .int) 2 bc bs true) : am_S G 0 (t_X5_inOrder_0) := by
  unfold t_X5_inOrder_0
  refine as_aload_n (pc := 0) X dX5_inOrder_0 rfl ?_
  refine as_aload_n (pc := 1) X dX5_inOrder_1 rfl ?_
  refine as_getR (ci := 5) (j := 0) (pc := 2) X (Cn := RX5) (Tf := TX5) (N := 21) rfl rfl (by decide) iw_X5 aw_738 rfl dX5_inOrder_2 ?_
  refine as_callV (ci := 5) (np := 1) (ix := 145) (pc := 5) X ct_X5_lays (Cn := (RX5, TX5, 21)) rfl ⟨rfl, rfl⟩ aw_861 aw_863 aw_29 aw_864 aw_65 (by decide +kernel) (by decide) dX5_inOrder_5 ?_
  refine as_iload_n (pc := 8) X dX5_inOrder_8 rfl ?_
  refine as_if_ge (pc := 9) X 16 dX5_inOrder_9 (by decide) (s_X5_inOrder_16 X) ?_
  refine as_iconst (pc := 12) X dX5_inOrder_12 (by decide) ?_
  exact as_goto (pc := 13) X 38 dX5_inOrder_13 (by decide) (s_X5_inOrder_38 X)
theorem s_X5_inOrder {G : am_G} {bc bs : Nat} (X : am_Cx G cX5_inOrder RX5 "inOrder" rm_X5_inOrder (some .int) 2 bc bs true) (h : Nat) : am_S G h (h_X5_inOrder h) := by
  unfold h_X5_inOrder
  split
  · next e => rw [e]; exact s_X5_inOrder_0 X
  exact as_bad
theorem ct_X5_inOrder : am_Ct yX5_inOrder cX5_inOrder 2 (some .int) rm_X5_inOrder sp_X5_inOrder := am_met (own := RX5) (nm := "inOrder") (by decide) rfl rfl (Or.inr (Or.inl rfl)) (fun _ _ => h_X5_inOrder) (fun _ _ _ X => s_X5_inOrder X) (fun _ _ _ _ h => h)
-- X1_isEarlier
theorem dX1_isEarlier_0 : decode cX1_isEarlier 0 = .ok (.aload_n 0, 1) := by decide +kernel
theorem dX1_isEarlier_1 : decode cX1_isEarlier 1 = .ok (.getfield 28, 3) := by decide +kernel
theorem dX1_isEarlier_4 : decode cX1_isEarlier 4 = .ok (.iload_n 1, 1) := by decide +kernel
theorem dX1_isEarlier_5 : decode cX1_isEarlier 5 = .ok (.iaload, 1) := by decide +kernel
theorem dX1_isEarlier_6 : decode cX1_isEarlier 6 = .ok (.aload_n 0, 1) := by decide +kernel
theorem dX1_isEarlier_7 : decode cX1_isEarlier 7 = .ok (.getfield 28, 3) := by decide +kernel
theorem dX1_isEarlier_10 : decode cX1_isEarlier 10 = .ok (.iload_n 2, 1) := by decide +kernel
theorem dX1_isEarlier_11 : decode cX1_isEarlier 11 = .ok (.iaload, 1) := by decide +kernel
theorem dX1_isEarlier_12 : decode cX1_isEarlier 12 = .ok (.if_icmp .lt 23, 3) := by decide +kernel
theorem dX1_isEarlier_15 : decode cX1_isEarlier 15 = .ok (.aload_n 0, 1) := by decide +kernel
theorem dX1_isEarlier_16 : decode cX1_isEarlier 16 = .ok (.getfield 28, 3) := by decide +kernel
theorem dX1_isEarlier_19 : decode cX1_isEarlier 19 = .ok (.iload_n 1, 1) := by decide +kernel
theorem dX1_isEarlier_20 : decode cX1_isEarlier 20 = .ok (.iaload, 1) := by decide +kernel
theorem dX1_isEarlier_21 : decode cX1_isEarlier 21 = .ok (.aload_n 0, 1) := by decide +kernel
theorem dX1_isEarlier_22 : decode cX1_isEarlier 22 = .ok (.getfield 28, 3) := by decide +kernel
theorem dX1_isEarlier_25 : decode cX1_isEarlier 25 = .ok (.iload_n 2, 1) := by decide +kernel
theorem dX1_isEarlier_26 : decode cX1_isEarlier 26 = .ok (.iaload, 1) := by decide +kernel
theorem dX1_isEarlier_27 : decode cX1_isEarlier 27 = .ok (.if_icmp .ne 12, 3) := by decide +kernel
theorem dX1_isEarlier_30 : decode cX1_isEarlier 30 = .ok (.iload_n 1, 1) := by decide +kernel
theorem dX1_isEarlier_31 : decode cX1_isEarlier 31 = .ok (.iload_n 2, 1) := by decide +kernel
theorem dX1_isEarlier_32 : decode cX1_isEarlier 32 = .ok (.if_icmp .ge 7, 3) := by decide +kernel
theorem dX1_isEarlier_35 : decode cX1_isEarlier 35 = .ok (.iconst 1, 1) := by decide +kernel
theorem dX1_isEarlier_36 : decode cX1_isEarlier 36 = .ok (.goto 4, 3) := by decide +kernel
theorem dX1_isEarlier_39 : decode cX1_isEarlier 39 = .ok (.iconst 0, 1) := by decide +kernel
theorem dX1_isEarlier_40 : decode cX1_isEarlier 40 = .ok (.ireturn, 1) := by decide +kernel
def t_X1_isEarlier_40 : am_T := tb_zret
def t_X1_isEarlier_39 : am_T := tb_const 0 <|
  t_X1_isEarlier_40
def t_X1_isEarlier_35 : am_T := tb_const 1 <|
  t_X1_isEarlier_40
def t_X1_isEarlier_0 : am_T := tb_aload 0 <|
  tb_getR 1 5 <|
  tb_iload 1 <|
  tb_iald <|
  tb_aload 0 <|
  tb_getR 1 5 <|
  tb_iload 2 <|
  tb_iald <|
  tb_ic (fun x y => x < y) (t_X1_isEarlier_35) <|
  tb_aload 0 <|
  tb_getR 1 5 <|
  tb_iload 1 <|
  tb_iald <|
  tb_aload 0 <|
  tb_getR 1 5 <|
  tb_iload 2 <|
  tb_iald <|
  tb_ic (fun x y => x ≠ y) (t_X1_isEarlier_39) <|
  tb_iload 1 <|
  tb_iload 2 <|
  tb_ic (fun x y => y ≤ x) (t_X1_isEarlier_39) <|
  t_X1_isEarlier_35
def h_X1_isEarlier : am_Hd := fun h => if h = 0 then t_X1_isEarlier_0 else tb_bad
theorem h_X1_isEarlier_0 : h_X1_isEarlier 0 = t_X1_isEarlier_0 := rfl
def rm_X1_isEarlier : Room := { frames := 0, cells := 0, slots := 0, locals := 0 }
def sp_X1_isEarlier : am_sp := fun as M Q => as.length ≤ 3 ∧ am_OK h_X1_isEarlier Q 0 (am_in 3 as) M
theorem s_X1_isEarlier_40 {G : am_G} {bc bs : Nat} (X : am_Cx G cX1_isEarlier RX1 "isEarlier" rm_X1_isEarlier (some .boolean) 3 bc bs true) : am_S G 40 (t_X1_isEarlier_40) := by
  unfold t_X1_isEarlier_40
  exact as_zret (pc := 40) X ⟨rfl, rfl⟩ rfl dX1_isEarlier_40
theorem s_X1_isEarlier_39 {G : am_G} {bc bs : Nat} (X : am_Cx G cX1_isEarlier RX1 "isEarlier" rm_X1_isEarlier (some .boolean) 3 bc bs true) : am_S G 39 (t_X1_isEarlier_39) := by
  unfold t_X1_isEarlier_39
  refine as_iconst (pc := 39) X dX1_isEarlier_39 (by decide) ?_
  exact s_X1_isEarlier_40 X
theorem s_X1_isEarlier_35 {G : am_G} {bc bs : Nat} (X : am_Cx G cX1_isEarlier RX1 "isEarlier" rm_X1_isEarlier (some .boolean) 3 bc bs true) : am_S G 35 (t_X1_isEarlier_35) := by
  unfold t_X1_isEarlier_35
  refine as_iconst (pc := 35) X dX1_isEarlier_35 (by decide) ?_
  exact as_goto (pc := 36) X 40 dX1_isEarlier_36 (by decide) (s_X1_isEarlier_40 X)
theorem s_X1_isEarlier_0 {G : am_G} {bc bs : Nat} (X : am_Cx G cX1_isEarlier RX1 "isEarlier" rm_X1_isEarlier (some .boolean) 3 bc bs true) : am_S G 0 (t_X1_isEarlier_0) := by
  unfold t_X1_isEarlier_0
  refine as_aload_n (pc := 0) X dX1_isEarlier_0 rfl ?_
  refine as_getR (ci := 1) (j := 5) (pc := 1) X (Cn := RX1) (Tf := TX1) (N := 14) rfl rfl (by decide) iw_X1 aw_102 rfl dX1_isEarlier_1 ?_
  refine as_iload_n (pc := 4) X dX1_isEarlier_4 rfl ?_
  refine as_iald (pc := 5) X dX1_isEarlier_5 ?_
  refine as_aload_n (pc := 6) X dX1_isEarlier_6 rfl ?_
  refine as_getR (ci := 1) (j := 5) (pc := 7) X (Cn := RX1) (Tf := TX1) (N := 14) rfl rfl (by decide) iw_X1 aw_102 rfl dX1_isEarlier_7 ?_
  refine as_iload_n (pc := 10) X dX1_isEarlier_10 rfl ?_
  refine as_iald (pc := 11) X dX1_isEarlier_11 ?_
  refine as_ic_lt (pc := 12) X 35 dX1_isEarlier_12 (by decide) (s_X1_isEarlier_35 X) ?_
  refine as_aload_n (pc := 15) X dX1_isEarlier_15 rfl ?_
  refine as_getR (ci := 1) (j := 5) (pc := 16) X (Cn := RX1) (Tf := TX1) (N := 14) rfl rfl (by decide) iw_X1 aw_102 rfl dX1_isEarlier_16 ?_
  refine as_iload_n (pc := 19) X dX1_isEarlier_19 rfl ?_
  refine as_iald (pc := 20) X dX1_isEarlier_20 ?_
  refine as_aload_n (pc := 21) X dX1_isEarlier_21 rfl ?_
  refine as_getR (ci := 1) (j := 5) (pc := 22) X (Cn := RX1) (Tf := TX1) (N := 14) rfl rfl (by decide) iw_X1 aw_102 rfl dX1_isEarlier_22 ?_
  refine as_iload_n (pc := 25) X dX1_isEarlier_25 rfl ?_
  refine as_iald (pc := 26) X dX1_isEarlier_26 ?_
  refine as_ic_ne (pc := 27) X 39 dX1_isEarlier_27 (by decide) (s_X1_isEarlier_39 X) ?_
  refine as_iload_n (pc := 30) X dX1_isEarlier_30 rfl ?_
  refine as_iload_n (pc := 31) X dX1_isEarlier_31 rfl ?_
  refine as_ic_ge (pc := 32) X 39 dX1_isEarlier_32 (by decide) (s_X1_isEarlier_39 X) ?_
  exact s_X1_isEarlier_35 X
theorem s_X1_isEarlier {G : am_G} {bc bs : Nat} (X : am_Cx G cX1_isEarlier RX1 "isEarlier" rm_X1_isEarlier (some .boolean) 3 bc bs true) (h : Nat) : am_S G h (h_X1_isEarlier h) := by
  unfold h_X1_isEarlier
  split
  · next e => rw [e]; exact s_X1_isEarlier_0 X
  exact as_bad
theorem ct_X1_isEarlier : am_Ct yX1_isEarlier cX1_isEarlier 3 (some .boolean) rm_X1_isEarlier sp_X1_isEarlier := am_met (own := RX1) (nm := "isEarlier") (by decide) rfl rfl (Or.inr (Or.inr (Or.inl rfl))) (fun _ _ => h_X1_isEarlier) (fun _ _ _ X => s_X1_isEarlier X) (fun _ _ _ _ h => h)
