-- X5_answersOf
theorem dX5_answersOf_0 : decode cX5_answersOf 0 = .ok (.iconst 0, 1) := by decide +kernel
theorem dX5_answersOf_1 : decode cX5_answersOf 1 = .ok (.istore_n 3, 1) := by decide +kernel
theorem dX5_answersOf_2 : decode cX5_answersOf 2 = .ok (.iconst 0, 1) := by decide +kernel
theorem dX5_answersOf_3 : decode cX5_answersOf 3 = .ok (.istore 4, 2) := by decide +kernel
theorem dX5_answersOf_5 : decode cX5_answersOf 5 = .ok (.iload 4, 2) := by decide +kernel
theorem dX5_answersOf_7 : decode cX5_answersOf 7 = .ok (.aload_n 0, 1) := by decide +kernel
theorem dX5_answersOf_8 : decode cX5_answersOf 8 = .ok (.getfield 7, 3) := by decide +kernel
theorem dX5_answersOf_11 : decode cX5_answersOf 11 = .ok (.bipush 9, 2) := by decide +kernel
theorem dX5_answersOf_13 : decode cX5_answersOf 13 = .ok (.iaload, 1) := by decide +kernel
theorem dX5_answersOf_14 : decode cX5_answersOf 14 = .ok (.if_icmp .ge 62, 3) := by decide +kernel
theorem dX5_answersOf_17 : decode cX5_answersOf 17 = .ok (.iload_n 3, 1) := by decide +kernel
theorem dX5_answersOf_18 : decode cX5_answersOf 18 = .ok (.aload_n 0, 1) := by decide +kernel
theorem dX5_answersOf_19 : decode cX5_answersOf 19 = .ok (.getfield 7, 3) := by decide +kernel
theorem dX5_answersOf_22 : decode cX5_answersOf 22 = .ok (.iload 4, 2) := by decide +kernel
theorem dX5_answersOf_24 : decode cX5_answersOf 24 = .ok (.iconst 1, 1) := by decide +kernel
theorem dX5_answersOf_25 : decode cX5_answersOf 25 = .ok (.invokestatic 71, 3) := by decide +kernel
theorem dX5_answersOf_28 : decode cX5_answersOf 28 = .ok (.iload_n 1, 1) := by decide +kernel
theorem dX5_answersOf_29 : decode cX5_answersOf 29 = .ok (.if_icmp .ne 38, 3) := by decide +kernel
theorem dX5_answersOf_32 : decode cX5_answersOf 32 = .ok (.aload_n 0, 1) := by decide +kernel
theorem dX5_answersOf_33 : decode cX5_answersOf 33 = .ok (.getfield 34, 3) := by decide +kernel
theorem dX5_answersOf_36 : decode cX5_answersOf 36 = .ok (.iload 4, 2) := by decide +kernel
theorem dX5_answersOf_38 : decode cX5_answersOf 38 = .ok (.iaload, 1) := by decide +kernel
theorem dX5_answersOf_39 : decode cX5_answersOf 39 = .ok (.bipush (-4), 2) := by decide +kernel
theorem dX5_answersOf_41 : decode cX5_answersOf 41 = .ok (.if_icmp .eq 26, 3) := by decide +kernel
theorem dX5_answersOf_44 : decode cX5_answersOf 44 = .ok (.aload_n 0, 1) := by decide +kernel
theorem dX5_answersOf_45 : decode cX5_answersOf 45 = .ok (.getfield 7, 3) := by decide +kernel
theorem dX5_answersOf_48 : decode cX5_answersOf 48 = .ok (.aload_n 0, 1) := by decide +kernel
theorem dX5_answersOf_49 : decode cX5_answersOf 49 = .ok (.getfield 34, 3) := by decide +kernel
theorem dX5_answersOf_52 : decode cX5_answersOf 52 = .ok (.iload 4, 2) := by decide +kernel
theorem dX5_answersOf_54 : decode cX5_answersOf 54 = .ok (.iaload, 1) := by decide +kernel
theorem dX5_answersOf_55 : decode cX5_answersOf 55 = .ok (.iconst 1, 1) := by decide +kernel
theorem dX5_answersOf_56 : decode cX5_answersOf 56 = .ok (.invokestatic 71, 3) := by decide +kernel
theorem dX5_answersOf_59 : decode cX5_answersOf 59 = .ok (.iload_n 2, 1) := by decide +kernel
theorem dX5_answersOf_60 : decode cX5_answersOf 60 = .ok (.if_icmp .ne 7, 3) := by decide +kernel
theorem dX5_answersOf_63 : decode cX5_answersOf 63 = .ok (.iconst 1, 1) := by decide +kernel
theorem dX5_answersOf_64 : decode cX5_answersOf 64 = .ok (.goto 4, 3) := by decide +kernel
theorem dX5_answersOf_67 : decode cX5_answersOf 67 = .ok (.iconst 0, 1) := by decide +kernel
theorem dX5_answersOf_68 : decode cX5_answersOf 68 = .ok (.iadd, 1) := by decide +kernel
theorem dX5_answersOf_69 : decode cX5_answersOf 69 = .ok (.istore_n 3, 1) := by decide +kernel
theorem dX5_answersOf_70 : decode cX5_answersOf 70 = .ok (.iinc 4 1, 3) := by decide +kernel
theorem dX5_answersOf_73 : decode cX5_answersOf 73 = .ok (.goto (-68), 3) := by decide +kernel
theorem dX5_answersOf_76 : decode cX5_answersOf 76 = .ok (.iload_n 3, 1) := by decide +kernel
theorem dX5_answersOf_77 : decode cX5_answersOf 77 = .ok (.ireturn, 1) := by decide +kernel
def t_X5_answersOf_76 : am_T := tb_iload 3 <|
  tb_iret
def t_X5_answersOf_68 : am_T := tb_bin (fun x y => x + y) <|
  tb_istore 3 <|
  tb_iinc 4 1 <|
  tb_head 5
def t_X5_answersOf_67 : am_T := tb_const 0 <|
  t_X5_answersOf_68
def t_X5_answersOf_5 : am_T := tb_iload 4 <|
  tb_aload 0 <|
  tb_getR 5 0 <|
  tb_const 9 <|
  tb_iald <|
  tb_ic (fun x y => y ≤ x) (t_X5_answersOf_76) <|
  tb_iload 3 <|
  tb_aload 0 <|
  tb_getR 5 0 <|
  tb_iload 4 <|
  tb_const 1 <|
  tb_callS sp_X5_of 3 <|
  tb_iload 1 <|
  tb_ic (fun x y => x ≠ y) (t_X5_answersOf_67) <|
  tb_aload 0 <|
  tb_getR 5 10 <|
  tb_iload 4 <|
  tb_iald <|
  tb_const (-4) <|
  tb_ic (fun x y => x = y) (t_X5_answersOf_67) <|
  tb_aload 0 <|
  tb_getR 5 0 <|
  tb_aload 0 <|
  tb_getR 5 10 <|
  tb_iload 4 <|
  tb_iald <|
  tb_const 1 <|
  tb_callS sp_X5_of 3 <|
  tb_iload 2 <|
  tb_ic (fun x y => x ≠ y) (t_X5_answersOf_67) <|
  tb_const 1 <|
  t_X5_answersOf_68
def t_X5_answersOf_0 : am_T := tb_const 0 <|
  tb_istore 3 <|
  tb_const 0 <|
  tb_istore 4 <|
  tb_head 5
def h_X5_answersOf : am_Hd := fun h => if h = 0 then t_X5_answersOf_0 else if h = 5 then t_X5_answersOf_5 else tb_bad
theorem h_X5_answersOf_0 : h_X5_answersOf 0 = t_X5_answersOf_0 := rfl
theorem h_X5_answersOf_5 : h_X5_answersOf 5 = t_X5_answersOf_5 := rfl
def rm_X5_answersOf : Room := { frames := 1, cells := 0, slots := 0, locals := 22 }
def sp_X5_answersOf : am_sp := fun as M Q => as.length ≤ 5 ∧ am_OK h_X5_answersOf Q 0 (am_in 5 as) M
theorem s_X5_answersOf_76 {G : am_G} {bc bs : Nat} (X : am_Cx G cX5_answersOf RX5 "answersOf" rm_X5_answersOf (some .int) 5 bc bs true) : am_S G 76 (t_X5_answersOf_76) := by
  unfold t_X5_answersOf_76
  refine as_iload_n (pc := 76) X dX5_answersOf_76 rfl ?_
  exact as_iret (pc := 77) X ⟨rfl, rfl⟩ rfl dX5_answersOf_77
theorem s_X5_answersOf_68 {G : am_G} {bc bs : Nat} (X : am_Cx G cX5_answersOf RX5 "answersOf" rm_X5_answersOf (some .int) 5 bc bs true) : am_S G 68 (t_X5_answersOf_68) := by
  unfold t_X5_answersOf_68
  refine as_iadd (pc := 68) X dX5_answersOf_68 ?_
  refine as_istore_n (pc := 69) X dX5_answersOf_69 rfl ?_ (by decide)
  refine as_iinc (pc := 70) X dX5_answersOf_70 (by decide) (by decide) ?_
  exact as_goto (pc := 73) X 5 dX5_answersOf_73 (by decide) (as_head)
theorem s_X5_answersOf_67 {G : am_G} {bc bs : Nat} (X : am_Cx G cX5_answersOf RX5 "answersOf" rm_X5_answersOf (some .int) 5 bc bs true) : am_S G 67 (t_X5_answersOf_67) := by
  unfold t_X5_answersOf_67
  refine as_iconst (pc := 67) X dX5_answersOf_67 (by decide) ?_
  exact s_X5_answersOf_68 X
theorem s_X5_answersOf_5 {G : am_G} {bc bs : Nat} (X : am_Cx G cX5_answersOf RX5 "answersOf" rm_X5_answersOf (some .int) 5 bc bs true) : am_S G 5 (t_X5_answersOf_5) := by
  unfold t_X5_answersOf_5
  refine as_iload (pc := 5) X dX5_answersOf_5 ?_
  refine as_aload_n (pc := 7) X dX5_answersOf_7 rfl ?_
  refine as_getR (ci := 5) (j := 0) (pc := 8) X (Cn := RX5) (Tf := TX5) (N := 21) rfl rfl (by decide) iw_X5 aw_738 rfl dX5_answersOf_8 ?_
  refine as_bipush (pc := 11) X dX5_answersOf_11 (by decide) ?_
  refine as_iald (pc := 13) X dX5_answersOf_13 ?_
  refine as_ic_ge (pc := 14) X 76 dX5_answersOf_14 (by decide) (s_X5_answersOf_76 X) ?_
  refine as_iload_n (pc := 17) X dX5_answersOf_17 rfl ?_
  refine as_aload_n (pc := 18) X dX5_answersOf_18 rfl ?_
  refine as_getR (ci := 5) (j := 0) (pc := 19) X (Cn := RX5) (Tf := TX5) (N := 21) rfl rfl (by decide) iw_X5 aw_738 rfl dX5_answersOf_19 ?_
  refine as_iload (pc := 22) X dX5_answersOf_22 ?_
  refine as_iconst (pc := 24) X dX5_answersOf_24 (by decide) ?_
  refine as_callS (np := 3) (ix := 71) (pc := 25) X ct_X5_of ⟨rfl, rfl⟩ aw_873 aw_874 aw_875 aw_65 (by decide +kernel) (by decide) dX5_answersOf_25 ?_
  refine as_iload_n (pc := 28) X dX5_answersOf_28 rfl ?_
  refine as_ic_ne (pc := 29) X 67 dX5_answersOf_29 (by decide) (s_X5_answersOf_67 X) ?_
  refine as_aload_n (pc := 32) X dX5_answersOf_32 rfl ?_
  refine as_getR (ci := 5) (j := 10) (pc := 33) X (Cn := RX5) (Tf := TX5) (N := 21) rfl rfl (by decide) iw_X5 aw_748 rfl dX5_answersOf_33 ?_
  refine as_iload (pc := 36) X dX5_answersOf_36 ?_
  refine as_iald (pc := 38) X dX5_answersOf_38 ?_
  refine as_bipush (pc := 39) X dX5_answersOf_39 (by decide) ?_
  refine as_ic_eq (pc := 41) X 67 dX5_answersOf_41 (by decide) (s_X5_answersOf_67 X) ?_
  refine as_aload_n (pc := 44) X dX5_answersOf_44 rfl ?_
  refine as_getR (ci := 5) (j := 0) (pc := 45) X (Cn := RX5) (Tf := TX5) (N := 21) rfl rfl (by decide) iw_X5 aw_738 rfl dX5_answersOf_45 ?_
  refine as_aload_n (pc := 48) X dX5_answersOf_48 rfl ?_
  refine as_getR (ci := 5) (j := 10) (pc := 49) X (Cn := RX5) (Tf := TX5) (N := 21) rfl rfl (by decide) iw_X5 aw_748 rfl dX5_answersOf_49 ?_
  refine as_iload (pc := 52) X dX5_answersOf_52 ?_
  refine as_iald (pc := 54) X dX5_answersOf_54 ?_
  refine as_iconst (pc := 55) X dX5_answersOf_55 (by decide) ?_
  refine as_callS (np := 3) (ix := 71) (pc := 56) X ct_X5_of ⟨rfl, rfl⟩ aw_873 aw_874 aw_875 aw_65 (by decide +kernel) (by decide) dX5_answersOf_56 ?_
  refine as_iload_n (pc := 59) X dX5_answersOf_59 rfl ?_
  refine as_ic_ne (pc := 60) X 67 dX5_answersOf_60 (by decide) (s_X5_answersOf_67 X) ?_
  refine as_iconst (pc := 63) X dX5_answersOf_63 (by decide) ?_
  exact as_goto (pc := 64) X 68 dX5_answersOf_64 (by decide) (s_X5_answersOf_68 X)
theorem s_X5_answersOf_0 {G : am_G} {bc bs : Nat} (X : am_Cx G cX5_answersOf RX5 "answersOf" rm_X5_answersOf (some .int) 5 bc bs true) : am_S G 0 (t_X5_answersOf_0) := by
  unfold t_X5_answersOf_0
  refine as_iconst (pc := 0) X dX5_answersOf_0 (by decide) ?_
  refine as_istore_n (pc := 1) X dX5_answersOf_1 rfl ?_ (by decide)
  refine as_iconst (pc := 2) X dX5_answersOf_2 (by decide) ?_
  refine as_istore (pc := 3) X dX5_answersOf_3 ?_ (by decide)
  exact as_head
theorem s_X5_answersOf {G : am_G} {bc bs : Nat} (X : am_Cx G cX5_answersOf RX5 "answersOf" rm_X5_answersOf (some .int) 5 bc bs true) (h : Nat) : am_S G h (h_X5_answersOf h) := by
  unfold h_X5_answersOf
  split
  · next e => rw [e]; exact s_X5_answersOf_0 X
  split
  · next e => rw [e]; exact s_X5_answersOf_5 X
  exact as_bad
theorem ct_X5_answersOf : am_Ct yX5_answersOf cX5_answersOf 5 (some .int) rm_X5_answersOf sp_X5_answersOf := am_met (own := RX5) (nm := "answersOf") (by decide) rfl rfl (Or.inr (Or.inl rfl)) (fun _ _ => h_X5_answersOf) (fun _ _ _ X => s_X5_answersOf X) (fun _ _ _ _ h => h)
-- X5_answers
theorem dX5_answers_0 : decode cX5_answers 0 = .ok (.iload_n 1, 1) := by decide +kernel
theorem dX5_answers_1 : decode cX5_answers 1 = .ok (.iconst 0, 1) := by decide +kernel
theorem dX5_answers_2 : decode cX5_answers 2 = .ok (.bipush 11, 2) := by decide +kernel
theorem dX5_answers_4 : decode cX5_answers 4 = .ok (.invokestatic 60, 3) := by decide +kernel
theorem dX5_answers_7 : decode cX5_answers 7 = .ok (.ifCond .eq 13, 3) := by decide +kernel
theorem dX5_answers_10 : decode cX5_answers 10 = .ok (.iload_n 2, 1) := by decide +kernel
theorem dX5_answers_11 : decode cX5_answers 11 = .ok (.iconst 0, 1) := by decide +kernel
theorem dX5_answers_12 : decode cX5_answers 12 = .ok (.bipush 11, 2) := by decide +kernel
theorem dX5_answers_14 : decode cX5_answers 14 = .ok (.invokestatic 60, 3) := by decide +kernel
theorem dX5_answers_17 : decode cX5_answers 17 = .ok (.ifCond .ne 5, 3) := by decide +kernel
theorem dX5_answers_20 : decode cX5_answers 20 = .ok (.iconst (-1), 1) := by decide +kernel
theorem dX5_answers_21 : decode cX5_answers 21 = .ok (.ireturn, 1) := by decide +kernel
theorem dX5_answers_22 : decode cX5_answers 22 = .ok (.aload_n 0, 1) := by decide +kernel
theorem dX5_answers_23 : decode cX5_answers 23 = .ok (.aload_n 0, 1) := by decide +kernel
theorem dX5_answers_24 : decode cX5_answers 24 = .ok (.getfield 7, 3) := by decide +kernel
theorem dX5_answers_27 : decode cX5_answers 27 = .ok (.invokevirtual 145, 3) := by decide +kernel
theorem dX5_answers_30 : decode cX5_answers 30 = .ok (.aload_n 0, 1) := by decide +kernel
theorem dX5_answers_31 : decode cX5_answers 31 = .ok (.iload_n 1, 1) := by decide +kernel
theorem dX5_answers_32 : decode cX5_answers 32 = .ok (.iload_n 2, 1) := by decide +kernel
theorem dX5_answers_33 : decode cX5_answers 33 = .ok (.invokevirtual 196, 3) := by decide +kernel
theorem dX5_answers_36 : decode cX5_answers 36 = .ok (.ireturn, 1) := by decide +kernel
def t_X5_answers_22 : am_T := tb_aload 0 <|
  tb_aload 0 <|
  tb_getR 5 0 <|
  tb_callV 5 sp_X5_lays 2 <|
  tb_aload 0 <|
  tb_iload 1 <|
  tb_iload 2 <|
  tb_callV 5 sp_X5_answersOf 3 <|
  tb_iret
def t_X5_answers_20 : am_T := tb_const (-1) <|
  tb_iret
def t_X5_answers_0 : am_T := tb_iload 1 <|
  tb_const 0 <|
  tb_const 11 <|
  tb_callS sp_X5_in 3 <|
  tb_if (fun x => x = 0) (t_X5_answers_20) <|
  tb_iload 2 <|
  tb_const 0 <|
  tb_const 11 <|
  tb_callS sp_X5_in 3 <|
  tb_if (fun x => x ≠ 0) (t_X5_answers_22) <|
  t_X5_answers_20
def h_X5_answers : am_Hd := fun h => if h = 0 then t_X5_answers_0 else tb_bad
theorem h_X5_answers_0 : h_X5_answers 0 = t_X5_answers_0 := rfl
def rm_X5_answers : Room := { frames := 6, cells := 0, slots := 0, locals := 145 }
def sp_X5_answers : am_sp := fun as M Q => as.length ≤ 3 ∧ am_OK h_X5_answers Q 0 (am_in 3 as) M
theorem s_X5_answers_22 {G : am_G} {bc bs : Nat} (X : am_Cx G cX5_answers RX5 "answers" rm_X5_answers (some .int) 3 bc bs true) : am_S G 22 (t_X5_answers_22) := by
  unfold t_X5_answers_22
  refine as_aload_n (pc := 22) X dX5_answers_22 rfl ?_
  refine as_aload_n (pc := 23) X dX5_answers_23 rfl ?_
  refine as_getR (ci := 5) (j := 0) (pc := 24) X (Cn := RX5) (Tf := TX5) (N := 21) rfl rfl (by decide) iw_X5 aw_738 rfl dX5_answers_24 ?_
  refine as_callV (ci := 5) (np := 1) (ix := 145) (pc := 27) X ct_X5_lays (Cn := (RX5, TX5, 21)) rfl ⟨rfl, rfl⟩ aw_861 aw_863 aw_29 aw_864 aw_65 (by decide +kernel) (by decide) dX5_answers_27 ?_
  refine as_aload_n (pc := 30) X dX5_answers_30 rfl ?_
  refine as_iload_n (pc := 31) X dX5_answers_31 rfl ?_
  refine as_iload_n (pc := 32) X dX5_answers_32 rfl ?_
  refine as_callV (ci := 5) (np := 2) (ix := 196) (pc := 33) X ct_X5_answersOf (Cn := (RX5, TX5, 21)) rfl ⟨rfl, rfl⟩ aw_1022 aw_1024 aw_51 aw_1025 aw_65 (by decide +kernel) (by decide) dX5_answers_33 ?_
  exact as_iret (pc := 36) X ⟨rfl, rfl⟩ rfl dX5_answers_36
theorem s_X5_answers_20 {G : am_G} {bc bs : Nat} (X : am_Cx G cX5_answers RX5 "answers" rm_X5_answers (some .int) 3 bc bs true) : am_S G 20 (t_X5_answers_20) := by
  unfold t_X5_answers_20
  refine as_iconst (pc := 20) X dX5_answers_20 (by decide) ?_
  exact as_iret (pc := 21) X ⟨rfl, rfl⟩ rfl dX5_answers_21
theorem s_X5_answers_0 {G : am_G} {bc bs : Nat} (X : am_Cx G cX5_answers RX5 "answers" rm_X5_answers (some .int) 3 bc bs true) : am_S G 0 (t_X5_answers_0) := by
  unfold t_X5_answers_0
  refine as_iload_n (pc := 0) X dX5_answers_0 rfl ?_
  refine as_iconst (pc := 1) X dX5_answers_1 (by decide) ?_
  refine as_bipush (pc := 2) X dX5_answers_2 (by decide) ?_
  refine as_callS (np := 3) (ix := 60) (pc := 4) X ct_X5_in ⟨rfl, rfl⟩ aw_806 aw_807 aw_808 aw_65 (by decide +kernel) (by decide) dX5_answers_4 ?_
  refine as_if_eq (pc := 7) X 20 dX5_answers_7 (by decide) (s_X5_answers_20 X) ?_
  refine as_iload_n (pc := 10) X dX5_answers_10 rfl ?_
  refine as_iconst (pc := 11) X dX5_answers_11 (by decide) ?_
  refine as_bipush (pc := 12) X dX5_answers_12 (by decide) ?_
  refine as_callS (np := 3) (ix := 60) (pc := 14) X ct_X5_in ⟨rfl, rfl⟩ aw_806 aw_807 aw_808 aw_65 (by decide +kernel) (by decide) dX5_answers_14 ?_
  refine as_if_ne (pc := 17) X 22 dX5_answers_17 (by decide) (s_X5_answers_22 X) ?_
  exact s_X5_answers_20 X
theorem s_X5_answers {G : am_G} {bc bs : Nat} (X : am_Cx G cX5_answers RX5 "answers" rm_X5_answers (some .int) 3 bc bs true) (h : Nat) : am_S G h (h_X5_answers h) := by
  unfold h_X5_answers
  split
  · next e => rw [e]; exact s_X5_answers_0 X
  exact as_bad
theorem ct_X5_answers : am_Ct yX5_answers cX5_answers 3 (some .int) rm_X5_answers sp_X5_answers := am_met (own := RX5) (nm := "answers") (by decide) rfl rfl (Or.inr (Or.inl rfl)) (fun _ _ => h_X5_answers) (fun _ _ _ X => s_X5_answers X) (fun _ _ _ _ h => h)
-- X4_partner
theorem dX4_partner_0 : decode cX4_partner 0 = .ok (.iload_n 1, 1) := by decide +kernel
theorem dX4_partner_1 : decode cX4_partner 1 = .ok (.invokestatic 45, 3) := by decide +kernel
theorem dX4_partner_4 : decode cX4_partner 4 = .ok (.ifCond .ne 5, 3) := by decide +kernel
theorem dX4_partner_7 : decode cX4_partner 7 = .ok (.iconst (-1), 1) := by decide +kernel
theorem dX4_partner_8 : decode cX4_partner 8 = .ok (.ireturn, 1) := by decide +kernel
theorem dX4_partner_9 : decode cX4_partner 9 = .ok (.iconst (-1), 1) := by decide +kernel
theorem dX4_partner_10 : decode cX4_partner 10 = .ok (.istore_n 2, 1) := by decide +kernel
theorem dX4_partner_11 : decode cX4_partner 11 = .ok (.iconst 0, 1) := by decide +kernel
theorem dX4_partner_12 : decode cX4_partner 12 = .ok (.istore_n 3, 1) := by decide +kernel
theorem dX4_partner_13 : decode cX4_partner 13 = .ok (.iconst 0, 1) := by decide +kernel
theorem dX4_partner_14 : decode cX4_partner 14 = .ok (.istore 4, 2) := by decide +kernel
theorem dX4_partner_16 : decode cX4_partner 16 = .ok (.iload 4, 2) := by decide +kernel
theorem dX4_partner_18 : decode cX4_partner 18 = .ok (.bipush 12, 2) := by decide +kernel
theorem dX4_partner_20 : decode cX4_partner 20 = .ok (.if_icmp .ge 43, 3) := by decide +kernel
theorem dX4_partner_23 : decode cX4_partner 23 = .ok (.iload 4, 2) := by decide +kernel
theorem dX4_partner_25 : decode cX4_partner 25 = .ok (.iload_n 1, 1) := by decide +kernel
theorem dX4_partner_26 : decode cX4_partner 26 = .ok (.if_icmp .ne 7, 3) := by decide +kernel
theorem dX4_partner_29 : decode cX4_partner 29 = .ok (.iconst 0, 1) := by decide +kernel
theorem dX4_partner_30 : decode cX4_partner 30 = .ok (.goto 13, 3) := by decide +kernel
theorem dX4_partner_33 : decode cX4_partner 33 = .ok (.aload_n 0, 1) := by decide +kernel
theorem dX4_partner_34 : decode cX4_partner 34 = .ok (.invokevirtual 116, 3) := by decide +kernel
theorem dX4_partner_37 : decode cX4_partner 37 = .ok (.iload_n 1, 1) := by decide +kernel
theorem dX4_partner_38 : decode cX4_partner 38 = .ok (.iload 4, 2) := by decide +kernel
theorem dX4_partner_40 : decode cX4_partner 40 = .ok (.invokevirtual 232, 3) := by decide +kernel
theorem dX4_partner_43 : decode cX4_partner 43 = .ok (.istore 5, 2) := by decide +kernel
theorem dX4_partner_45 : decode cX4_partner 45 = .ok (.iload 5, 2) := by decide +kernel
theorem dX4_partner_47 : decode cX4_partner 47 = .ok (.iload_n 3, 1) := by decide +kernel
theorem dX4_partner_48 : decode cX4_partner 48 = .ok (.if_icmp .le 9, 3) := by decide +kernel
theorem dX4_partner_51 : decode cX4_partner 51 = .ok (.iload 4, 2) := by decide +kernel
theorem dX4_partner_53 : decode cX4_partner 53 = .ok (.istore_n 2, 1) := by decide +kernel
theorem dX4_partner_54 : decode cX4_partner 54 = .ok (.iload 5, 2) := by decide +kernel
theorem dX4_partner_56 : decode cX4_partner 56 = .ok (.istore_n 3, 1) := by decide +kernel
theorem dX4_partner_57 : decode cX4_partner 57 = .ok (.iinc 4 1, 3) := by decide +kernel
theorem dX4_partner_60 : decode cX4_partner 60 = .ok (.goto (-44), 3) := by decide +kernel
theorem dX4_partner_63 : decode cX4_partner 63 = .ok (.iload_n 2, 1) := by decide +kernel
theorem dX4_partner_64 : decode cX4_partner 64 = .ok (.invokestatic 79, 3) := by decide +kernel
theorem dX4_partner_67 : decode cX4_partner 67 = .ok (.ireturn, 1) := by decide +kernel
def t_X4_partner_63 : am_T := tb_iload 2 <|
  tb_callS sp_X4_orNotFound 1 <|
  tb_iret
def t_X4_partner_57 : am_T := tb_iinc 4 1 <|
  tb_head 16
def t_X4_partner_43 : am_T := tb_istore 5 <|
  tb_iload 5 <|
  tb_iload 3 <|
  tb_ic (fun x y => x ≤ y) (t_X4_partner_57) <|
  tb_iload 4 <|
  tb_istore 2 <|
  tb_iload 5 <|
  tb_istore 3 <|
  t_X4_partner_57
def t_X4_partner_33 : am_T := tb_aload 0 <|
  tb_callV 4 sp_X4_currentThreads 1 <|
  tb_iload 1 <|
  tb_iload 4 <|
  tb_callV 3 sp_X3_answersBetween 3 <|
  t_X4_partner_43
def t_X4_partner_16 : am_T := tb_iload 4 <|
  tb_const 12 <|
  tb_ic (fun x y => y ≤ x) (t_X4_partner_63) <|
  tb_iload 4 <|
  tb_iload 1 <|
  tb_ic (fun x y => x ≠ y) (t_X4_partner_33) <|
  tb_const 0 <|
  t_X4_partner_43
def t_X4_partner_9 : am_T := tb_const (-1) <|
  tb_istore 2 <|
  tb_const 0 <|
  tb_istore 3 <|
  tb_const 0 <|
  tb_istore 4 <|
  tb_head 16
def t_X4_partner_0 : am_T := tb_iload 1 <|
  tb_callS sp_X4_isPerson 1 <|
  tb_if (fun x => x ≠ 0) (t_X4_partner_9) <|
  tb_const (-1) <|
  tb_iret
def h_X4_partner : am_Hd := fun h => if h = 0 then t_X4_partner_0 else if h = 16 then t_X4_partner_16 else tb_bad
theorem h_X4_partner_0 : h_X4_partner 0 = t_X4_partner_0 := rfl
theorem h_X4_partner_16 : h_X4_partner 16 = t_X4_partner_16 := rfl
def rm_X4_partner : Room := { frames := 6, cells := 0, slots := 0, locals := 133 }
def sp_X4_partner : am_sp := fun as M Q => as.length ≤ 6 ∧ am_OK h_X4_partner Q 0 (am_in 6 as) M
theorem s_X4_partner_63 {G : am_G} {bc bs : Nat} (X : am_Cx G cX4_partner RX4 "partner" rm_X4_partner (some .int) 6 bc bs true) : am_S G 63 (t_X4_partner_63) := by
  unfold t_X4_partner_63
  refine as_iload_n (pc := 63) X dX4_partner_63 rfl ?_
  refine as_callS (np := 1) (ix := 79) (pc := 64) X ct_X4_orNotFound ⟨rfl, rfl⟩ aw_347 aw_348 aw_349 aw_59 (by decide +kernel) (by decide) dX4_partner_64 ?_
  exact as_iret (pc := 67) X ⟨rfl, rfl⟩ rfl dX4_partner_67
theorem s_X4_partner_57 {G : am_G} {bc bs : Nat} (X : am_Cx G cX4_partner RX4 "partner" rm_X4_partner (some .int) 6 bc bs true) : am_S G 57 (t_X4_partner_57) := by
  unfold t_X4_partner_57
  refine as_iinc (pc := 57) X dX4_partner_57 (by decide) (by decide) ?_
  exact as_goto (pc := 60) X 16 dX4_partner_60 (by decide) (as_head)
theorem s_X4_partner_43 {G : am_G} {bc bs : Nat} (X : am_Cx G cX4_partner RX4 "partner" rm_X4_partner (some .int) 6 bc bs true) : am_S G 43 (t_X4_partner_43) := by
  unfold t_X4_partner_43
  refine as_istore (pc := 43) X dX4_partner_43 ?_ (by decide)
  refine as_iload (pc := 45) X dX4_partner_45 ?_
  refine as_iload_n (pc := 47) X dX4_partner_47 rfl ?_
  refine as_ic_le (pc := 48) X 57 dX4_partner_48 (by decide) (s_X4_partner_57 X) ?_
  refine as_iload (pc := 51) X dX4_partner_51 ?_
  refine as_istore_n (pc := 53) X dX4_partner_53 rfl ?_ (by decide)
  refine as_iload (pc := 54) X dX4_partner_54 ?_
  refine as_istore_n (pc := 56) X dX4_partner_56 rfl ?_ (by decide)
  exact s_X4_partner_57 X
theorem s_X4_partner_33 {G : am_G} {bc bs : Nat} (X : am_Cx G cX4_partner RX4 "partner" rm_X4_partner (some .int) 6 bc bs true) : am_S G 33 (t_X4_partner_33) := by
  unfold t_X4_partner_33
  refine as_aload_n (pc := 33) X dX4_partner_33 rfl ?_
  refine as_callV (ci := 4) (np := 0) (ix := 116) (pc := 34) X ct_X4_currentThreads (Cn := (RX4, TX4, 7)) rfl ⟨rfl, rfl⟩ aw_389 aw_391 aw_2 aw_392 aw_59 (by decide +kernel) (by decide) dX4_partner_34 ?_
  refine as_iload_n (pc := 37) X dX4_partner_37 rfl ?_
  refine as_iload (pc := 38) X dX4_partner_38 ?_
  refine as_callV (ci := 3) (np := 2) (ix := 232) (pc := 40) X ct_X3_answersBetween (Cn := (RX3, TX3, 17)) rfl ⟨rfl, rfl⟩ aw_632 aw_633 aw_634 aw_635 aw_60 (by decide +kernel) (by decide) dX4_partner_40 ?_
  exact s_X4_partner_43 X
theorem s_X4_partner_16 {G : am_G} {bc bs : Nat} (X : am_Cx G cX4_partner RX4 "partner" rm_X4_partner (some .int) 6 bc bs true) : am_S G 16 (t_X4_partner_16) := by
  unfold t_X4_partner_16
  refine as_iload (pc := 16) X dX4_partner_16 ?_
  refine as_bipush (pc := 18) X dX4_partner_18 (by decide) ?_
  refine as_ic_ge (pc := 20) X 63 dX4_partner_20 (by decide) (s_X4_partner_63 X) ?_
  refine as_iload (pc := 23) X dX4_partner_23 ?_
  refine as_iload_n (pc := 25) X dX4_partner_25 rfl ?_
  refine as_ic_ne (pc := 26) X 33 dX4_partner_26 (by decide) (s_X4_partner_33 X) ?_
  refine as_iconst (pc := 29) X dX4_partner_29 (by decide) ?_
  exact as_goto (pc := 30) X 43 dX4_partner_30 (by decide) (s_X4_partner_43 X)
theorem s_X4_partner_9 {G : am_G} {bc bs : Nat} (X : am_Cx G cX4_partner RX4 "partner" rm_X4_partner (some .int) 6 bc bs true) : am_S G 9 (t_X4_partner_9) := by
  unfold t_X4_partner_9
  refine as_iconst (pc := 9) X dX4_partner_9 (by decide) ?_
  refine as_istore_n (pc := 10) X dX4_partner_10 rfl ?_ (by decide)
  refine as_iconst (pc := 11) X dX4_partner_11 (by decide) ?_
  refine as_istore_n (pc := 12) X dX4_partner_12 rfl ?_ (by decide)
  refine as_iconst (pc := 13) X dX4_partner_13 (by decide) ?_
  refine as_istore (pc := 14) X dX4_partner_14 ?_ (by decide)
  exact as_head
theorem s_X4_partner_0 {G : am_G} {bc bs : Nat} (X : am_Cx G cX4_partner RX4 "partner" rm_X4_partner (some .int) 6 bc bs true) : am_S G 0 (t_X4_partner_0) := by
  unfold t_X4_partner_0
  refine as_iload_n (pc := 0) X dX4_partner_0 rfl ?_
  refine as_callS (np := 1) (ix := 45) (pc := 1) X ct_X4_isPerson ⟨rfl, rfl⟩ aw_300 aw_301 aw_302 aw_59 (by decide +kernel) (by decide) dX4_partner_1 ?_
  refine as_if_ne (pc := 4) X 9 dX4_partner_4 (by decide) (s_X4_partner_9 X) ?_
  refine as_iconst (pc := 7) X dX4_partner_7 (by decide) ?_
  exact as_iret (pc := 8) X ⟨rfl, rfl⟩ rfl dX4_partner_8
theorem s_X4_partner {G : am_G} {bc bs : Nat} (X : am_Cx G cX4_partner RX4 "partner" rm_X4_partner (some .int) 6 bc bs true) (h : Nat) : am_S G h (h_X4_partner h) := by
  unfold h_X4_partner
  split
  · next e => rw [e]; exact s_X4_partner_0 X
  split
  · next e => rw [e]; exact s_X4_partner_16 X
  exact as_bad
theorem ct_X4_partner : am_Ct yX4_partner cX4_partner 6 (some .int) rm_X4_partner sp_X4_partner := am_met (own := RX4) (nm := "partner") (by decide) rfl rfl (Or.inr (Or.inl rfl)) (fun _ _ => h_X4_partner) (fun _ _ _ X => s_X4_partner X) (fun _ _ _ _ h => h)
-- X5_partner
theorem dX5_partner_0 : decode cX5_partner 0 = .ok (.iload_n 1, 1) := by decide +kernel
theorem dX5_partner_1 : decode cX5_partner 1 = .ok (.iconst 0, 1) := by decide +kernel
theorem dX5_partner_2 : decode cX5_partner 2 = .ok (.bipush 11, 2) := by decide +kernel
theorem dX5_partner_4 : decode cX5_partner 4 = .ok (.invokestatic 60, 3) := by decide +kernel
theorem dX5_partner_7 : decode cX5_partner 7 = .ok (.ifCond .ne 5, 3) := by decide +kernel
theorem dX5_partner_10 : decode cX5_partner 10 = .ok (.iconst (-1), 1) := by decide +kernel
theorem dX5_partner_11 : decode cX5_partner 11 = .ok (.ireturn, 1) := by decide +kernel
theorem dX5_partner_12 : decode cX5_partner 12 = .ok (.aload_n 0, 1) := by decide +kernel
theorem dX5_partner_13 : decode cX5_partner 13 = .ok (.aload_n 0, 1) := by decide +kernel
theorem dX5_partner_14 : decode cX5_partner 14 = .ok (.getfield 7, 3) := by decide +kernel
theorem dX5_partner_17 : decode cX5_partner 17 = .ok (.invokevirtual 145, 3) := by decide +kernel
theorem dX5_partner_20 : decode cX5_partner 20 = .ok (.bipush (-4), 2) := by decide +kernel
theorem dX5_partner_22 : decode cX5_partner 22 = .ok (.istore_n 2, 1) := by decide +kernel
theorem dX5_partner_23 : decode cX5_partner 23 = .ok (.iconst 0, 1) := by decide +kernel
theorem dX5_partner_24 : decode cX5_partner 24 = .ok (.istore_n 3, 1) := by decide +kernel
theorem dX5_partner_25 : decode cX5_partner 25 = .ok (.iconst 0, 1) := by decide +kernel
theorem dX5_partner_26 : decode cX5_partner 26 = .ok (.istore 4, 2) := by decide +kernel
theorem dX5_partner_28 : decode cX5_partner 28 = .ok (.iload 4, 2) := by decide +kernel
theorem dX5_partner_30 : decode cX5_partner 30 = .ok (.bipush 12, 2) := by decide +kernel
theorem dX5_partner_32 : decode cX5_partner 32 = .ok (.if_icmp .ge 54, 3) := by decide +kernel
theorem dX5_partner_35 : decode cX5_partner 35 = .ok (.iload 4, 2) := by decide +kernel
theorem dX5_partner_37 : decode cX5_partner 37 = .ok (.iload_n 1, 1) := by decide +kernel
theorem dX5_partner_38 : decode cX5_partner 38 = .ok (.if_icmp .ne 7, 3) := by decide +kernel
theorem dX5_partner_41 : decode cX5_partner 41 = .ok (.iconst 0, 1) := by decide +kernel
theorem dX5_partner_42 : decode cX5_partner 42 = .ok (.goto 10, 3) := by decide +kernel
theorem dX5_partner_45 : decode cX5_partner 45 = .ok (.aload_n 0, 1) := by decide +kernel
theorem dX5_partner_46 : decode cX5_partner 46 = .ok (.iload_n 1, 1) := by decide +kernel
theorem dX5_partner_47 : decode cX5_partner 47 = .ok (.iload 4, 2) := by decide +kernel
theorem dX5_partner_49 : decode cX5_partner 49 = .ok (.invokevirtual 196, 3) := by decide +kernel
theorem dX5_partner_52 : decode cX5_partner 52 = .ok (.istore 5, 2) := by decide +kernel
theorem dX5_partner_54 : decode cX5_partner 54 = .ok (.iload 5, 2) := by decide +kernel
theorem dX5_partner_56 : decode cX5_partner 56 = .ok (.iload_n 3, 1) := by decide +kernel
theorem dX5_partner_57 : decode cX5_partner 57 = .ok (.if_icmp .le 8, 3) := by decide +kernel
theorem dX5_partner_60 : decode cX5_partner 60 = .ok (.iload 4, 2) := by decide +kernel
theorem dX5_partner_62 : decode cX5_partner 62 = .ok (.goto 4, 3) := by decide +kernel
theorem dX5_partner_65 : decode cX5_partner 65 = .ok (.iload_n 2, 1) := by decide +kernel
theorem dX5_partner_66 : decode cX5_partner 66 = .ok (.istore_n 2, 1) := by decide +kernel
theorem dX5_partner_67 : decode cX5_partner 67 = .ok (.iload 5, 2) := by decide +kernel
theorem dX5_partner_69 : decode cX5_partner 69 = .ok (.iload_n 3, 1) := by decide +kernel
theorem dX5_partner_70 : decode cX5_partner 70 = .ok (.if_icmp .le 8, 3) := by decide +kernel
theorem dX5_partner_73 : decode cX5_partner 73 = .ok (.iload 5, 2) := by decide +kernel
theorem dX5_partner_75 : decode cX5_partner 75 = .ok (.goto 4, 3) := by decide +kernel
theorem dX5_partner_78 : decode cX5_partner 78 = .ok (.iload_n 3, 1) := by decide +kernel
theorem dX5_partner_79 : decode cX5_partner 79 = .ok (.istore_n 3, 1) := by decide +kernel
theorem dX5_partner_80 : decode cX5_partner 80 = .ok (.iinc 4 1, 3) := by decide +kernel
theorem dX5_partner_83 : decode cX5_partner 83 = .ok (.goto (-55), 3) := by decide +kernel
theorem dX5_partner_86 : decode cX5_partner 86 = .ok (.iload_n 2, 1) := by decide +kernel
theorem dX5_partner_87 : decode cX5_partner 87 = .ok (.ireturn, 1) := by decide +kernel
def t_X5_partner_86 : am_T := tb_iload 2 <|
  tb_iret
def t_X5_partner_79 : am_T := tb_istore 3 <|
  tb_iinc 4 1 <|
  tb_head 28
def t_X5_partner_78 : am_T := tb_iload 3 <|
  t_X5_partner_79
def t_X5_partner_66 : am_T := tb_istore 2 <|
  tb_iload 5 <|
  tb_iload 3 <|
  tb_ic (fun x y => x ≤ y) (t_X5_partner_78) <|
  tb_iload 5 <|
  t_X5_partner_79
def t_X5_partner_65 : am_T := tb_iload 2 <|
  t_X5_partner_66
def t_X5_partner_52 : am_T := tb_istore 5 <|
  tb_iload 5 <|
  tb_iload 3 <|
  tb_ic (fun x y => x ≤ y) (t_X5_partner_65) <|
  tb_iload 4 <|
  t_X5_partner_66
def t_X5_partner_45 : am_T := tb_aload 0 <|
  tb_iload 1 <|
  tb_iload 4 <|
  tb_callV 5 sp_X5_answersOf 3 <|
  t_X5_partner_52
def t_X5_partner_28 : am_T := tb_iload 4 <|
  tb_const 12 <|
  tb_ic (fun x y => y ≤ x) (t_X5_partner_86) <|
  tb_iload 4 <|
  tb_iload 1 <|
  tb_ic (fun x y => x ≠ y) (t_X5_partner_45) <|
  tb_const 0 <|
  t_X5_partner_52
def t_X5_partner_12 : am_T := tb_aload 0 <|
  tb_aload 0 <|
  tb_getR 5 0 <|
  tb_callV 5 sp_X5_lays 2 <|
  tb_const (-4) <|
  tb_istore 2 <|
  tb_const 0 <|
  tb_istore 3 <|
  tb_const 0 <|
  tb_istore 4 <|
  tb_head 28
def t_X5_partner_0 : am_T := tb_iload 1 <|
  tb_const 0 <|
  tb_const 11 <|
  tb_callS sp_X5_in 3 <|
  tb_if (fun x => x ≠ 0) (t_X5_partner_12) <|
  tb_const (-1) <|
  tb_iret
def h_X5_partner : am_Hd := fun h => if h = 0 then t_X5_partner_0 else if h = 28 then t_X5_partner_28 else tb_bad
theorem h_X5_partner_0 : h_X5_partner 0 = t_X5_partner_0 := rfl
theorem h_X5_partner_28 : h_X5_partner 28 = t_X5_partner_28 := rfl
def rm_X5_partner : Room := { frames := 6, cells := 0, slots := 0, locals := 145 }
def sp_X5_partner : am_sp := fun as M Q => as.length ≤ 6 ∧ am_OK h_X5_partner Q 0 (am_in 6 as) M
theorem s_X5_partner_86 {G : am_G} {bc bs : Nat} (X : am_Cx G cX5_partner RX5 "partner" rm_X5_partner (some .int) 6 bc bs true) : am_S G 86 (t_X5_partner_86) := by
  unfold t_X5_partner_86
  refine as_iload_n (pc := 86) X dX5_partner_86 rfl ?_
  exact as_iret (pc := 87) X ⟨rfl, rfl⟩ rfl dX5_partner_87
theorem s_X5_partner_79 {G : am_G} {bc bs : Nat} (X : am_Cx G cX5_partner RX5 "partner" rm_X5_partner (some .int) 6 bc bs true) : am_S G 79 (t_X5_partner_79) := by
  unfold t_X5_partner_79
  refine as_istore_n (pc := 79) X dX5_partner_79 rfl ?_ (by decide)
  refine as_iinc (pc := 80) X dX5_partner_80 (by decide) (by decide) ?_
  exact as_goto (pc := 83) X 28 dX5_partner_83 (by decide) (as_head)
theorem s_X5_partner_78 {G : am_G} {bc bs : Nat} (X : am_Cx G cX5_partner RX5 "partner" rm_X5_partner (some .int) 6 bc bs true) : am_S G 78 (t_X5_partner_78) := by
  unfold t_X5_partner_78
  refine as_iload_n (pc := 78) X dX5_partner_78 rfl ?_
  exact s_X5_partner_79 X
theorem s_X5_partner_66 {G : am_G} {bc bs : Nat} (X : am_Cx G cX5_partner RX5 "partner" rm_X5_partner (some .int) 6 bc bs true) : am_S G 66 (t_X5_partner_66) := by
  unfold t_X5_partner_66
  refine as_istore_n (pc := 66) X dX5_partner_66 rfl ?_ (by decide)
  refine as_iload (pc := 67) X dX5_partner_67 ?_
  refine as_iload_n (pc := 69) X dX5_partner_69 rfl ?_
  refine as_ic_le (pc := 70) X 78 dX5_partner_70 (by decide) (s_X5_partner_78 X) ?_
  refine as_iload (pc := 73) X dX5_partner_73 ?_
  exact as_goto (pc := 75) X 79 dX5_partner_75 (by decide) (s_X5_partner_79 X)
theorem s_X5_partner_65 {G : am_G} {bc bs : Nat} (X : am_Cx G cX5_partner RX5 "partner" rm_X5_partner (some .int) 6 bc bs true) : am_S G 65 (t_X5_partner_65) := by
  unfold t_X5_partner_65
  refine as_iload_n (pc := 65) X dX5_partner_65 rfl ?_
  exact s_X5_partner_66 X
theorem s_X5_partner_52 {G : am_G} {bc bs : Nat} (X : am_Cx G cX5_partner RX5 "partner" rm_X5_partner (some .int) 6 bc bs true) : am_S G 52 (t_X5_partner_52) := by
  unfold t_X5_partner_52
  refine as_istore (pc := 52) X dX5_partner_52 ?_ (by decide)
  refine as_iload (pc := 54) X dX5_partner_54 ?_
  refine as_iload_n (pc := 56) X dX5_partner_56 rfl ?_
  refine as_ic_le (pc := 57) X 65 dX5_partner_57 (by decide) (s_X5_partner_65 X) ?_
  refine as_iload (pc := 60) X dX5_partner_60 ?_
  exact as_goto (pc := 62) X 66 dX5_partner_62 (by decide) (s_X5_partner_66 X)
theorem s_X5_partner_45 {G : am_G} {bc bs : Nat} (X : am_Cx G cX5_partner RX5 "partner" rm_X5_partner (some .int) 6 bc bs true) : am_S G 45 (t_X5_partner_45) := by
  unfold t_X5_partner_45
  refine as_aload_n (pc := 45) X dX5_partner_45 rfl ?_
  refine as_iload_n (pc := 46) X dX5_partner_46 rfl ?_
  refine as_iload (pc := 47) X dX5_partner_47 ?_
  refine as_callV (ci := 5) (np := 2) (ix := 196) (pc := 49) X ct_X5_answersOf (Cn := (RX5, TX5, 21)) rfl ⟨rfl, rfl⟩ aw_1022 aw_1024 aw_51 aw_1025 aw_65 (by decide +kernel) (by decide) dX5_partner_49 ?_
  exact s_X5_partner_52 X
theorem s_X5_partner_28 {G : am_G} {bc bs : Nat} (X : am_Cx G cX5_partner RX5 "partner" rm_X5_partner (some .int) 6 bc bs true) : am_S G 28 (t_X5_partner_28) := by
  unfold t_X5_partner_28
  refine as_iload (pc := 28) X dX5_partner_28 ?_
  refine as_bipush (pc := 30) X dX5_partner_30 (by decide) ?_
  refine as_ic_ge (pc := 32) X 86 dX5_partner_32 (by decide) (s_X5_partner_86 X) ?_
  refine as_iload (pc := 35) X dX5_partner_35 ?_
  refine as_iload_n (pc := 37) X dX5_partner_37 rfl ?_
  refine as_ic_ne (pc := 38) X 45 dX5_partner_38 (by decide) (s_X5_partner_45 X) ?_
  refine as_iconst (pc := 41) X dX5_partner_41 (by decide) ?_
  exact as_goto (pc := 42) X 52 dX5_partner_42 (by decide) (s_X5_partner_52 X)
theorem s_X5_partner_12 {G : am_G} {bc bs : Nat} (X : am_Cx G cX5_partner RX5 "partner" rm_X5_partner (some .int) 6 bc bs true) : am_S G 12 (t_X5_partner_12) := by
  unfold t_X5_partner_12
  refine as_aload_n (pc := 12) X dX5_partner_12 rfl ?_
  refine as_aload_n (pc := 13) X dX5_partner_13 rfl ?_
  refine as_getR (ci := 5) (j := 0) (pc := 14) X (Cn := RX5) (Tf := TX5) (N := 21) rfl rfl (by decide) iw_X5 aw_738 rfl dX5_partner_14 ?_
  refine as_callV (ci := 5) (np := 1) (ix := 145) (pc := 17) X ct_X5_lays (Cn := (RX5, TX5, 21)) rfl ⟨rfl, rfl⟩ aw_861 aw_863 aw_29 aw_864 aw_65 (by decide +kernel) (by decide) dX5_partner_17 ?_
  refine as_bipush (pc := 20) X dX5_partner_20 (by decide) ?_
  refine as_istore_n (pc := 22) X dX5_partner_22 rfl ?_ (by decide)
  refine as_iconst (pc := 23) X dX5_partner_23 (by decide) ?_
  refine as_istore_n (pc := 24) X dX5_partner_24 rfl ?_ (by decide)
  refine as_iconst (pc := 25) X dX5_partner_25 (by decide) ?_
  refine as_istore (pc := 26) X dX5_partner_26 ?_ (by decide)
  exact as_head
theorem s_X5_partner_0 {G : am_G} {bc bs : Nat} (X : am_Cx G cX5_partner RX5 "partner" rm_X5_partner (some .int) 6 bc bs true) : am_S G 0 (t_X5_partner_0) := by
  unfold t_X5_partner_0
  refine as_iload_n (pc := 0) X dX5_partner_0 rfl ?_
  refine as_iconst (pc := 1) X dX5_partner_1 (by decide) ?_
  refine as_bipush (pc := 2) X dX5_partner_2 (by decide) ?_
  refine as_callS (np := 3) (ix := 60) (pc := 4) X ct_X5_in ⟨rfl, rfl⟩ aw_806 aw_807 aw_808 aw_65 (by decide +kernel) (by decide) dX5_partner_4 ?_
  refine as_if_ne (pc := 7) X 12 dX5_partner_7 (by decide) (s_X5_partner_12 X) ?_
  refine as_iconst (pc := 10) X dX5_partner_10 (by decide) ?_
  exact as_iret (pc := 11) X ⟨rfl, rfl⟩ rfl dX5_partner_11
theorem s_X5_partner {G : am_G} {bc bs : Nat} (X : am_Cx G cX5_partner RX5 "partner" rm_X5_partner (some .int) 6 bc bs true) (h : Nat) : am_S G h (h_X5_partner h) := by
  unfold h_X5_partner
  split
  · next e => rw [e]; exact s_X5_partner_0 X
  split
  · next e => rw [e]; exact s_X5_partner_28 X
  exact as_bad
theorem ct_X5_partner : am_Ct yX5_partner cX5_partner 6 (some .int) rm_X5_partner sp_X5_partner := am_met (own := RX5) (nm := "partner") (by decide) rfl rfl (Or.inr (Or.inl rfl)) (fun _ _ => h_X5_partner) (fun _ _ _ X => s_X5_partner X) (fun _ _ _ _ h => h)
-- X3_isAwake
theorem dX3_isAwake_0 : decode cX3_isAwake 0 = .ok (.iconst 0, 1) := by decide +kernel
theorem dX3_isAwake_1 : decode cX3_isAwake 1 = .ok (.istore_n 3, 1) := by decide +kernel
theorem dX3_isAwake_2 : decode cX3_isAwake 2 = .ok (.iload_n 3, 1) := by decide +kernel
theorem dX3_isAwake_3 : decode cX3_isAwake 3 = .ok (.aload_n 0, 1) := by decide +kernel
theorem dX3_isAwake_4 : decode cX3_isAwake 4 = .ok (.getfield 12, 3) := by decide +kernel
theorem dX3_isAwake_7 : decode cX3_isAwake 7 = .ok (.getfield 71, 3) := by decide +kernel
theorem dX3_isAwake_10 : decode cX3_isAwake 10 = .ok (.if_icmp .ge 57, 3) := by decide +kernel
theorem dX3_isAwake_13 : decode cX3_isAwake 13 = .ok (.aload_n 0, 1) := by decide +kernel
theorem dX3_isAwake_14 : decode cX3_isAwake 14 = .ok (.getfield 55, 3) := by decide +kernel
theorem dX3_isAwake_17 : decode cX3_isAwake 17 = .ok (.iload_n 3, 1) := by decide +kernel
theorem dX3_isAwake_18 : decode cX3_isAwake 18 = .ok (.iaload, 1) := by decide +kernel
theorem dX3_isAwake_19 : decode cX3_isAwake 19 = .ok (.iload_n 1, 1) := by decide +kernel
theorem dX3_isAwake_20 : decode cX3_isAwake 20 = .ok (.if_icmp .ne 41, 3) := by decide +kernel
theorem dX3_isAwake_23 : decode cX3_isAwake 23 = .ok (.aload_n 0, 1) := by decide +kernel
theorem dX3_isAwake_24 : decode cX3_isAwake 24 = .ok (.getfield 12, 3) := by decide +kernel
theorem dX3_isAwake_27 : decode cX3_isAwake 27 = .ok (.getfield 95, 3) := by decide +kernel
theorem dX3_isAwake_30 : decode cX3_isAwake 30 = .ok (.iload_n 3, 1) := by decide +kernel
theorem dX3_isAwake_31 : decode cX3_isAwake 31 = .ok (.iaload, 1) := by decide +kernel
theorem dX3_isAwake_32 : decode cX3_isAwake 32 = .ok (.iload_n 2, 1) := by decide +kernel
theorem dX3_isAwake_33 : decode cX3_isAwake 33 = .ok (.if_icmp .gt 28, 3) := by decide +kernel
theorem dX3_isAwake_36 : decode cX3_isAwake 36 = .ok (.aload_n 0, 1) := by decide +kernel
theorem dX3_isAwake_37 : decode cX3_isAwake 37 = .ok (.getfield 12, 3) := by decide +kernel
theorem dX3_isAwake_40 : decode cX3_isAwake 40 = .ok (.getfield 95, 3) := by decide +kernel
theorem dX3_isAwake_43 : decode cX3_isAwake 43 = .ok (.iload_n 3, 1) := by decide +kernel
theorem dX3_isAwake_44 : decode cX3_isAwake 44 = .ok (.iaload, 1) := by decide +kernel
theorem dX3_isAwake_45 : decode cX3_isAwake 45 = .ok (.iload_n 2, 1) := by decide +kernel
theorem dX3_isAwake_46 : decode cX3_isAwake 46 = .ok (.aload_n 0, 1) := by decide +kernel
theorem dX3_isAwake_47 : decode cX3_isAwake 47 = .ok (.getfield 12, 3) := by decide +kernel
theorem dX3_isAwake_50 : decode cX3_isAwake 50 = .ok (.getfield 105, 3) := by decide +kernel
theorem dX3_isAwake_53 : decode cX3_isAwake 53 = .ok (.iconst 0, 1) := by decide +kernel
theorem dX3_isAwake_54 : decode cX3_isAwake 54 = .ok (.iaload, 1) := by decide +kernel
theorem dX3_isAwake_55 : decode cX3_isAwake 55 = .ok (.isub, 1) := by decide +kernel
theorem dX3_isAwake_56 : decode cX3_isAwake 56 = .ok (.if_icmp .le 5, 3) := by decide +kernel
theorem dX3_isAwake_59 : decode cX3_isAwake 59 = .ok (.iconst 1, 1) := by decide +kernel
theorem dX3_isAwake_60 : decode cX3_isAwake 60 = .ok (.ireturn, 1) := by decide +kernel
theorem dX3_isAwake_61 : decode cX3_isAwake 61 = .ok (.iinc 3 1, 3) := by decide +kernel
theorem dX3_isAwake_64 : decode cX3_isAwake 64 = .ok (.goto (-62), 3) := by decide +kernel
theorem dX3_isAwake_67 : decode cX3_isAwake 67 = .ok (.iconst 0, 1) := by decide +kernel
theorem dX3_isAwake_68 : decode cX3_isAwake 68 = .ok (.ireturn, 1) := by decide +kernel
def t_X3_isAwake_67 : am_T := tb_const 0 <|
  tb_zret
def t_X3_isAwake_61 : am_T := tb_iinc 3 1 <|
  tb_head 2
def t_X3_isAwake_2 : am_T := tb_iload 3 <|
  tb_aload 0 <|
  tb_getR 3 0 <|
  tb_getI 1 4 <|
  tb_ic (fun x y => y ≤ x) (t_X3_isAwake_67) <|
  tb_aload 0 <|
  tb_getR 3 13 <|
  tb_iload 3 <|
  tb_iald <|
  tb_iload 1 <|
  tb_ic (fun x y => x ≠ y) (t_X3_isAwake_61) <|
  tb_aload 0 <|
  tb_getR 3 0 <|
  tb_getR 1 5 <|
  tb_iload 3 <|
  tb_iald <|
  tb_iload 2 <|
  tb_ic (fun x y => y < x) (t_X3_isAwake_61) <|
  tb_aload 0 <|
  tb_getR 3 0 <|
  tb_getR 1 5 <|
  tb_iload 3 <|
  tb_iald <|
  tb_iload 2 <|
  tb_aload 0 <|
  tb_getR 3 0 <|
  tb_getR 1 13 <|
  tb_const 0 <|
  tb_iald <|
  tb_bin (fun x y => x - y) <|
  tb_ic (fun x y => x ≤ y) (t_X3_isAwake_61) <|
  tb_const 1 <|
  tb_zret
def t_X3_isAwake_0 : am_T := tb_const 0 <|
  tb_istore 3 <|
  tb_head 2
def h_X3_isAwake : am_Hd := fun h => if h = 0 then t_X3_isAwake_0 else if h = 2 then t_X3_isAwake_2 else tb_bad
theorem h_X3_isAwake_0 : h_X3_isAwake 0 = t_X3_isAwake_0 := rfl
theorem h_X3_isAwake_2 : h_X3_isAwake 2 = t_X3_isAwake_2 := rfl
def rm_X3_isAwake : Room := { frames := 0, cells := 0, slots := 0, locals := 0 }
def sp_X3_isAwake : am_sp := fun as M Q => as.length ≤ 4 ∧ am_OK h_X3_isAwake Q 0 (am_in 4 as) M
theorem s_X3_isAwake_67 {G : am_G} {bc bs : Nat} (X : am_Cx G cX3_isAwake RX3 "isAwake" rm_X3_isAwake (some .boolean) 4 bc bs true) : am_S G 67 (t_X3_isAwake_67) := by
  unfold t_X3_isAwake_67
  refine as_iconst (pc := 67) X dX3_isAwake_67 (by decide) ?_
  exact as_zret (pc := 68) X ⟨rfl, rfl⟩ rfl dX3_isAwake_68
theorem s_X3_isAwake_61 {G : am_G} {bc bs : Nat} (X : am_Cx G cX3_isAwake RX3 "isAwake" rm_X3_isAwake (some .boolean) 4 bc bs true) : am_S G 61 (t_X3_isAwake_61) := by
  unfold t_X3_isAwake_61
  refine as_iinc (pc := 61) X dX3_isAwake_61 (by decide) (by decide) ?_
  exact as_goto (pc := 64) X 2 dX3_isAwake_64 (by decide) (as_head)
theorem s_X3_isAwake_2 {G : am_G} {bc bs : Nat} (X : am_Cx G cX3_isAwake RX3 "isAwake" rm_X3_isAwake (some .boolean) 4 bc bs true) : am_S G 2 (t_X3_isAwake_2) := by
  unfold t_X3_isAwake_2
  refine as_iload_n (pc := 2) X dX3_isAwake_2 rfl ?_
  refine as_aload_n (pc := 3) X dX3_isAwake_3 rfl ?_
  refine as_getR (ci := 3) (j := 0) (pc := 4) X (Cn := RX3) (Tf := TX3) (N := 17) rfl rfl (by decide) iw_X3 aw_159 rfl dX3_isAwake_4 ?_
  refine as_getI (ci := 1) (j := 4) (pc := 7) X (Cn := RX1) (Tf := TX1) (N := 14) rfl rfl (by decide) iw_X1 aw_99 rfl dX3_isAwake_7 ?_
  refine as_ic_ge (pc := 10) X 67 dX3_isAwake_10 (by decide) (s_X3_isAwake_67 X) ?_
  refine as_aload_n (pc := 13) X dX3_isAwake_13 rfl ?_
  refine as_getR (ci := 3) (j := 13) (pc := 14) X (Cn := RX3) (Tf := TX3) (N := 17) rfl rfl (by decide) iw_X3 aw_178 rfl dX3_isAwake_14 ?_
  refine as_iload_n (pc := 17) X dX3_isAwake_17 rfl ?_
  refine as_iald (pc := 18) X dX3_isAwake_18 ?_
  refine as_iload_n (pc := 19) X dX3_isAwake_19 rfl ?_
  refine as_ic_ne (pc := 20) X 61 dX3_isAwake_20 (by decide) (s_X3_isAwake_61 X) ?_
  refine as_aload_n (pc := 23) X dX3_isAwake_23 rfl ?_
  refine as_getR (ci := 3) (j := 0) (pc := 24) X (Cn := RX3) (Tf := TX3) (N := 17) rfl rfl (by decide) iw_X3 aw_159 rfl dX3_isAwake_24 ?_
  refine as_getR (ci := 1) (j := 5) (pc := 27) X (Cn := RX1) (Tf := TX1) (N := 14) rfl rfl (by decide) iw_X1 aw_103 rfl dX3_isAwake_27 ?_
  refine as_iload_n (pc := 30) X dX3_isAwake_30 rfl ?_
  refine as_iald (pc := 31) X dX3_isAwake_31 ?_
  refine as_iload_n (pc := 32) X dX3_isAwake_32 rfl ?_
  refine as_ic_gt (pc := 33) X 61 dX3_isAwake_33 (by decide) (s_X3_isAwake_61 X) ?_
  refine as_aload_n (pc := 36) X dX3_isAwake_36 rfl ?_
  refine as_getR (ci := 3) (j := 0) (pc := 37) X (Cn := RX3) (Tf := TX3) (N := 17) rfl rfl (by decide) iw_X3 aw_159 rfl dX3_isAwake_37 ?_
  refine as_getR (ci := 1) (j := 5) (pc := 40) X (Cn := RX1) (Tf := TX1) (N := 14) rfl rfl (by decide) iw_X1 aw_103 rfl dX3_isAwake_40 ?_
  refine as_iload_n (pc := 43) X dX3_isAwake_43 rfl ?_
  refine as_iald (pc := 44) X dX3_isAwake_44 ?_
  refine as_iload_n (pc := 45) X dX3_isAwake_45 rfl ?_
  refine as_aload_n (pc := 46) X dX3_isAwake_46 rfl ?_
  refine as_getR (ci := 3) (j := 0) (pc := 47) X (Cn := RX3) (Tf := TX3) (N := 17) rfl rfl (by decide) iw_X3 aw_159 rfl dX3_isAwake_47 ?_
  refine as_getR (ci := 1) (j := 13) (pc := 50) X (Cn := RX1) (Tf := TX1) (N := 14) rfl rfl (by decide) iw_X1 aw_127 rfl dX3_isAwake_50 ?_
  refine as_iconst (pc := 53) X dX3_isAwake_53 (by decide) ?_
  refine as_iald (pc := 54) X dX3_isAwake_54 ?_
  refine as_isub (pc := 55) X dX3_isAwake_55 ?_
  refine as_ic_le (pc := 56) X 61 dX3_isAwake_56 (by decide) (s_X3_isAwake_61 X) ?_
  refine as_iconst (pc := 59) X dX3_isAwake_59 (by decide) ?_
  exact as_zret (pc := 60) X ⟨rfl, rfl⟩ rfl dX3_isAwake_60
theorem s_X3_isAwake_0 {G : am_G} {bc bs : Nat} (X : am_Cx G cX3_isAwake RX3 "isAwake" rm_X3_isAwake (some .boolean) 4 bc bs true) : am_S G 0 (t_X3_isAwake_0) := by
  unfold t_X3_isAwake_0
  refine as_iconst (pc := 0) X dX3_isAwake_0 (by decide) ?_
  refine as_istore_n (pc := 1) X dX3_isAwake_1 rfl ?_ (by decide)
  exact as_head
theorem s_X3_isAwake {G : am_G} {bc bs : Nat} (X : am_Cx G cX3_isAwake RX3 "isAwake" rm_X3_isAwake (some .boolean) 4 bc bs true) (h : Nat) : am_S G h (h_X3_isAwake h) := by
  unfold h_X3_isAwake
  split
  · next e => rw [e]; exact s_X3_isAwake_0 X
  split
  · next e => rw [e]; exact s_X3_isAwake_2 X
  exact as_bad
theorem ct_X3_isAwake : am_Ct yX3_isAwake cX3_isAwake 4 (some .boolean) rm_X3_isAwake sp_X3_isAwake := am_met (own := RX3) (nm := "isAwake") (by decide) rfl rfl (Or.inr (Or.inr (Or.inl rfl))) (fun _ _ => h_X3_isAwake) (fun _ _ _ X => s_X3_isAwake X) (fun _ _ _ _ h => h)
-- X4_awake
theorem dX4_awake_0 : decode cX4_awake 0 = .ok (.iload_n 1, 1) := by decide +kernel
theorem dX4_awake_1 : decode cX4_awake 1 = .ok (.invokestatic 52, 3) := by decide +kernel
theorem dX4_awake_4 : decode cX4_awake 4 = .ok (.ifCond .ne 5, 3) := by decide +kernel
theorem dX4_awake_7 : decode cX4_awake 7 = .ok (.iconst (-1), 1) := by decide +kernel
theorem dX4_awake_8 : decode cX4_awake 8 = .ok (.ireturn, 1) := by decide +kernel
theorem dX4_awake_9 : decode cX4_awake 9 = .ok (.aload_n 0, 1) := by decide +kernel
theorem dX4_awake_10 : decode cX4_awake 10 = .ok (.invokevirtual 116, 3) := by decide +kernel
theorem dX4_awake_13 : decode cX4_awake 13 = .ok (.astore_n 2, 1) := by decide +kernel
theorem dX4_awake_14 : decode cX4_awake 14 = .ok (.iconst 0, 1) := by decide +kernel
theorem dX4_awake_15 : decode cX4_awake 15 = .ok (.istore_n 3, 1) := by decide +kernel
theorem dX4_awake_16 : decode cX4_awake 16 = .ok (.iconst 0, 1) := by decide +kernel
theorem dX4_awake_17 : decode cX4_awake 17 = .ok (.istore 4, 2) := by decide +kernel
theorem dX4_awake_19 : decode cX4_awake 19 = .ok (.iload 4, 2) := by decide +kernel
theorem dX4_awake_21 : decode cX4_awake 21 = .ok (.aload_n 2, 1) := by decide +kernel
theorem dX4_awake_22 : decode cX4_awake 22 = .ok (.getfield 158, 3) := by decide +kernel
theorem dX4_awake_25 : decode cX4_awake 25 = .ok (.if_icmp .ge 22, 3) := by decide +kernel
theorem dX4_awake_28 : decode cX4_awake 28 = .ok (.aload_n 2, 1) := by decide +kernel
theorem dX4_awake_29 : decode cX4_awake 29 = .ok (.iload 4, 2) := by decide +kernel
theorem dX4_awake_31 : decode cX4_awake 31 = .ok (.iload_n 1, 1) := by decide +kernel
theorem dX4_awake_32 : decode cX4_awake 32 = .ok (.invokevirtual 235, 3) := by decide +kernel
theorem dX4_awake_35 : decode cX4_awake 35 = .ok (.ifCond .eq 6, 3) := by decide +kernel
theorem dX4_awake_38 : decode cX4_awake 38 = .ok (.iinc 3 1, 3) := by decide +kernel
theorem dX4_awake_41 : decode cX4_awake 41 = .ok (.iinc 4 1, 3) := by decide +kernel
theorem dX4_awake_44 : decode cX4_awake 44 = .ok (.goto (-25), 3) := by decide +kernel
theorem dX4_awake_47 : decode cX4_awake 47 = .ok (.iload_n 3, 1) := by decide +kernel
theorem dX4_awake_48 : decode cX4_awake 48 = .ok (.ireturn, 1) := by decide +kernel
def t_X4_awake_47 : am_T := tb_iload 3 <|
  tb_iret
def t_X4_awake_41 : am_T := tb_iinc 4 1 <|
  tb_head 19
def t_X4_awake_19 : am_T := tb_iload 4 <|
  tb_aload 2 <|
  tb_getI 3 14 <|
  tb_ic (fun x y => y ≤ x) (t_X4_awake_47) <|
  tb_aload 2 <|
  tb_iload 4 <|
  tb_iload 1 <|
  tb_callV 3 sp_X3_isAwake 3 <|
  tb_if (fun x => x = 0) (t_X4_awake_41) <|
  tb_iinc 3 1 <|
  t_X4_awake_41
def t_X4_awake_9 : am_T := tb_aload 0 <|
  tb_callV 4 sp_X4_currentThreads 1 <|
  tb_astore 2 <|
  tb_const 0 <|
  tb_istore 3 <|
  tb_const 0 <|
  tb_istore 4 <|
  tb_head 19
def t_X4_awake_0 : am_T := tb_iload 1 <|
  tb_callS sp_X4_isTime 1 <|
  tb_if (fun x => x ≠ 0) (t_X4_awake_9) <|
  tb_const (-1) <|
  tb_iret
def h_X4_awake : am_Hd := fun h => if h = 0 then t_X4_awake_0 else if h = 19 then t_X4_awake_19 else tb_bad
theorem h_X4_awake_0 : h_X4_awake 0 = t_X4_awake_0 := rfl
theorem h_X4_awake_19 : h_X4_awake 19 = t_X4_awake_19 := rfl
def rm_X4_awake : Room := { frames := 6, cells := 0, slots := 0, locals := 133 }
def sp_X4_awake : am_sp := fun as M Q => as.length ≤ 5 ∧ am_OK h_X4_awake Q 0 (am_in 5 as) M
theorem s_X4_awake_47 {G : am_G} {bc bs : Nat} (X : am_Cx G cX4_awake RX4 "awake" rm_X4_awake (some .int) 5 bc bs true) : am_S G 47 (t_X4_awake_47) := by
  unfold t_X4_awake_47
  refine as_iload_n (pc := 47) X dX4_awake_47 rfl ?_
  exact as_iret (pc := 48) X ⟨rfl, rfl⟩ rfl dX4_awake_48
theorem s_X4_awake_41 {G : am_G} {bc bs : Nat} (X : am_Cx G cX4_awake RX4 "awake" rm_X4_awake (some .int) 5 bc bs true) : am_S G 41 (t_X4_awake_41) := by
  unfold t_X4_awake_41
  refine as_iinc (pc := 41) X dX4_awake_41 (by decide) (by decide) ?_
  exact as_goto (pc := 44) X 19 dX4_awake_44 (by decide) (as_head)
theorem s_X4_awake_19 {G : am_G} {bc bs : Nat} (X : am_Cx G cX4_awake RX4 "awake" rm_X4_awake (some .int) 5 bc bs true) : am_S G 19 (t_X4_awake_19) := by
  unfold t_X4_awake_19
  refine as_iload (pc := 19) X dX4_awake_19 ?_
  refine as_aload_n (pc := 21) X dX4_awake_21 rfl ?_
  refine as_getI (ci := 3) (j := 14) (pc := 22) X (Cn := RX3) (Tf := TX3) (N := 17) rfl rfl (by decide) iw_X3 aw_181 rfl dX4_awake_22 ?_
  refine as_ic_ge (pc := 25) X 47 dX4_awake_25 (by decide) (s_X4_awake_47 X) ?_
  refine as_aload_n (pc := 28) X dX4_awake_28 rfl ?_
  refine as_iload (pc := 29) X dX4_awake_29 ?_
  refine as_iload_n (pc := 31) X dX4_awake_31 rfl ?_
  refine as_callV (ci := 3) (np := 2) (ix := 235) (pc := 32) X ct_X3_isAwake (Cn := (RX3, TX3, 17)) rfl ⟨rfl, rfl⟩ aw_644 aw_645 aw_646 aw_647 aw_60 (by decide +kernel) (by decide) dX4_awake_32 ?_
  refine as_if_eq (pc := 35) X 41 dX4_awake_35 (by decide) (s_X4_awake_41 X) ?_
  refine as_iinc (pc := 38) X dX4_awake_38 (by decide) (by decide) ?_
  exact s_X4_awake_41 X
theorem s_X4_awake_9 {G : am_G} {bc bs : Nat} (X : am_Cx G cX4_awake RX4 "awake" rm_X4_awake (some .int) 5 bc bs true) : am_S G 9 (t_X4_awake_9) := by
  unfold t_X4_awake_9
  refine as_aload_n (pc := 9) X dX4_awake_9 rfl ?_
  refine as_callV (ci := 4) (np := 0) (ix := 116) (pc := 10) X ct_X4_currentThreads (Cn := (RX4, TX4, 7)) rfl ⟨rfl, rfl⟩ aw_389 aw_391 aw_2 aw_392 aw_59 (by decide +kernel) (by decide) dX4_awake_10 ?_
  refine as_astore_n (pc := 13) X dX4_awake_13 rfl ?_ (by decide)
  refine as_iconst (pc := 14) X dX4_awake_14 (by decide) ?_
  refine as_istore_n (pc := 15) X dX4_awake_15 rfl ?_ (by decide)
  refine as_iconst (pc := 16) X dX4_awake_16 (by decide) ?_
  refine as_istore (pc := 17) X dX4_awake_17 ?_ (by decide)
  exact as_head
theorem s_X4_awake_0 {G : am_G} {bc bs : Nat} (X : am_Cx G cX4_awake RX4 "awake" rm_X4_awake (some .int) 5 bc bs true) : am_S G 0 (t_X4_awake_0) := by
  unfold t_X4_awake_0
  refine as_iload_n (pc := 0) X dX4_awake_0 rfl ?_
  refine as_callS (np := 1) (ix := 52) (pc := 1) X ct_X4_isTime ⟨rfl, rfl⟩ aw_306 aw_307 aw_308 aw_59 (by decide +kernel) (by decide) dX4_awake_1 ?_
  refine as_if_ne (pc := 4) X 9 dX4_awake_4 (by decide) (s_X4_awake_9 X) ?_
  refine as_iconst (pc := 7) X dX4_awake_7 (by decide) ?_
  exact as_iret (pc := 8) X ⟨rfl, rfl⟩ rfl dX4_awake_8
theorem s_X4_awake {G : am_G} {bc bs : Nat} (X : am_Cx G cX4_awake RX4 "awake" rm_X4_awake (some .int) 5 bc bs true) (h : Nat) : am_S G h (h_X4_awake h) := by
  unfold h_X4_awake
  split
  · next e => rw [e]; exact s_X4_awake_0 X
  split
  · next e => rw [e]; exact s_X4_awake_19 X
  exact as_bad
theorem ct_X4_awake : am_Ct yX4_awake cX4_awake 5 (some .int) rm_X4_awake sp_X4_awake := am_met (own := RX4) (nm := "awake") (by decide) rfl rfl (Or.inr (Or.inl rfl)) (fun _ _ => h_X4_awake) (fun _ _ _ X => s_X4_awake X) (fun _ _ _ _ h => h)
-- X5_awake
theorem dX5_awake_0 : decode cX5_awake 0 = .ok (.iload_n 1, 1) := by decide +kernel
theorem dX5_awake_1 : decode cX5_awake 1 = .ok (.iconst 0, 1) := by decide +kernel
theorem dX5_awake_2 : decode cX5_awake 2 = .ok (.ldc 64, 2) := by decide +kernel
theorem dX5_awake_4 : decode cX5_awake 4 = .ok (.invokestatic 60, 3) := by decide +kernel
theorem dX5_awake_7 : decode cX5_awake 7 = .ok (.ifCond .ne 5, 3) := by decide +kernel
theorem dX5_awake_10 : decode cX5_awake 10 = .ok (.iconst (-1), 1) := by decide +kernel
theorem dX5_awake_11 : decode cX5_awake 11 = .ok (.ireturn, 1) := by decide +kernel
theorem dX5_awake_12 : decode cX5_awake 12 = .ok (.aload_n 0, 1) := by decide +kernel
theorem dX5_awake_13 : decode cX5_awake 13 = .ok (.aload_n 0, 1) := by decide +kernel
theorem dX5_awake_14 : decode cX5_awake 14 = .ok (.getfield 7, 3) := by decide +kernel
theorem dX5_awake_17 : decode cX5_awake 17 = .ok (.invokevirtual 145, 3) := by decide +kernel
theorem dX5_awake_20 : decode cX5_awake 20 = .ok (.iconst 0, 1) := by decide +kernel
theorem dX5_awake_21 : decode cX5_awake 21 = .ok (.istore_n 2, 1) := by decide +kernel
theorem dX5_awake_22 : decode cX5_awake 22 = .ok (.iconst 0, 1) := by decide +kernel
theorem dX5_awake_23 : decode cX5_awake 23 = .ok (.istore_n 3, 1) := by decide +kernel
theorem dX5_awake_24 : decode cX5_awake 24 = .ok (.iload_n 3, 1) := by decide +kernel
theorem dX5_awake_25 : decode cX5_awake 25 = .ok (.aload_n 0, 1) := by decide +kernel
theorem dX5_awake_26 : decode cX5_awake 26 = .ok (.getfield 7, 3) := by decide +kernel
theorem dX5_awake_29 : decode cX5_awake 29 = .ok (.bipush 9, 2) := by decide +kernel
theorem dX5_awake_31 : decode cX5_awake 31 = .ok (.iaload, 1) := by decide +kernel
theorem dX5_awake_32 : decode cX5_awake 32 = .ok (.if_icmp .ge 50, 3) := by decide +kernel
theorem dX5_awake_35 : decode cX5_awake 35 = .ok (.iload_n 2, 1) := by decide +kernel
theorem dX5_awake_36 : decode cX5_awake 36 = .ok (.aload_n 0, 1) := by decide +kernel
theorem dX5_awake_37 : decode cX5_awake 37 = .ok (.getfield 7, 3) := by decide +kernel
theorem dX5_awake_40 : decode cX5_awake 40 = .ok (.iload_n 3, 1) := by decide +kernel
theorem dX5_awake_41 : decode cX5_awake 41 = .ok (.iconst 0, 1) := by decide +kernel
theorem dX5_awake_42 : decode cX5_awake 42 = .ok (.invokestatic 71, 3) := by decide +kernel
theorem dX5_awake_45 : decode cX5_awake 45 = .ok (.iload_n 1, 1) := by decide +kernel
theorem dX5_awake_46 : decode cX5_awake 46 = .ok (.aload_n 0, 1) := by decide +kernel
theorem dX5_awake_47 : decode cX5_awake 47 = .ok (.getfield 7, 3) := by decide +kernel
theorem dX5_awake_50 : decode cX5_awake 50 = .ok (.iconst 0, 1) := by decide +kernel
theorem dX5_awake_51 : decode cX5_awake 51 = .ok (.iaload, 1) := by decide +kernel
theorem dX5_awake_52 : decode cX5_awake 52 = .ok (.isub, 1) := by decide +kernel
theorem dX5_awake_53 : decode cX5_awake 53 = .ok (.iconst 1, 1) := by decide +kernel
theorem dX5_awake_54 : decode cX5_awake 54 = .ok (.iadd, 1) := by decide +kernel
theorem dX5_awake_55 : decode cX5_awake 55 = .ok (.iload_n 1, 1) := by decide +kernel
theorem dX5_awake_56 : decode cX5_awake 56 = .ok (.invokestatic 60, 3) := by decide +kernel
theorem dX5_awake_59 : decode cX5_awake 59 = .ok (.ifCond .eq 14, 3) := by decide +kernel
theorem dX5_awake_62 : decode cX5_awake 62 = .ok (.iconst 1, 1) := by decide +kernel
theorem dX5_awake_63 : decode cX5_awake 63 = .ok (.aload_n 0, 1) := by decide +kernel
theorem dX5_awake_64 : decode cX5_awake 64 = .ok (.getfield 37, 3) := by decide +kernel
theorem dX5_awake_67 : decode cX5_awake 67 = .ok (.iload_n 3, 1) := by decide +kernel
theorem dX5_awake_68 : decode cX5_awake 68 = .ok (.iaload, 1) := by decide +kernel
theorem dX5_awake_69 : decode cX5_awake 69 = .ok (.ishl, 1) := by decide +kernel
theorem dX5_awake_70 : decode cX5_awake 70 = .ok (.goto 4, 3) := by decide +kernel
theorem dX5_awake_73 : decode cX5_awake 73 = .ok (.iconst 0, 1) := by decide +kernel
theorem dX5_awake_74 : decode cX5_awake 74 = .ok (.ior, 1) := by decide +kernel
theorem dX5_awake_75 : decode cX5_awake 75 = .ok (.istore_n 2, 1) := by decide +kernel
theorem dX5_awake_76 : decode cX5_awake 76 = .ok (.iinc 3 1, 3) := by decide +kernel
theorem dX5_awake_79 : decode cX5_awake 79 = .ok (.goto (-55), 3) := by decide +kernel
theorem dX5_awake_82 : decode cX5_awake 82 = .ok (.iconst 0, 1) := by decide +kernel
theorem dX5_awake_83 : decode cX5_awake 83 = .ok (.istore_n 3, 1) := by decide +kernel
theorem dX5_awake_84 : decode cX5_awake 84 = .ok (.iconst 0, 1) := by decide +kernel
theorem dX5_awake_85 : decode cX5_awake 85 = .ok (.istore 4, 2) := by decide +kernel
theorem dX5_awake_87 : decode cX5_awake 87 = .ok (.iload 4, 2) := by decide +kernel
theorem dX5_awake_89 : decode cX5_awake 89 = .ok (.aload_n 0, 1) := by decide +kernel
theorem dX5_awake_90 : decode cX5_awake 90 = .ok (.getfield 117, 3) := by decide +kernel
theorem dX5_awake_93 : decode cX5_awake 93 = .ok (.if_icmp .ge 18, 3) := by decide +kernel
theorem dX5_awake_96 : decode cX5_awake 96 = .ok (.iload_n 3, 1) := by decide +kernel
theorem dX5_awake_97 : decode cX5_awake 97 = .ok (.iload_n 2, 1) := by decide +kernel
theorem dX5_awake_98 : decode cX5_awake 98 = .ok (.iload 4, 2) := by decide +kernel
theorem dX5_awake_100 : decode cX5_awake 100 = .ok (.ishr, 1) := by decide +kernel
theorem dX5_awake_101 : decode cX5_awake 101 = .ok (.iconst 1, 1) := by decide +kernel
theorem dX5_awake_102 : decode cX5_awake 102 = .ok (.iand, 1) := by decide +kernel
theorem dX5_awake_103 : decode cX5_awake 103 = .ok (.iadd, 1) := by decide +kernel
theorem dX5_awake_104 : decode cX5_awake 104 = .ok (.istore_n 3, 1) := by decide +kernel
theorem dX5_awake_105 : decode cX5_awake 105 = .ok (.iinc 4 1, 3) := by decide +kernel
theorem dX5_awake_108 : decode cX5_awake 108 = .ok (.goto (-21), 3) := by decide +kernel
theorem dX5_awake_111 : decode cX5_awake 111 = .ok (.iload_n 3, 1) := by decide +kernel
theorem dX5_awake_112 : decode cX5_awake 112 = .ok (.ireturn, 1) := by decide +kernel
def t_X5_awake_111 : am_T := tb_iload 3 <|
  tb_iret
def t_X5_awake_87 : am_T := tb_iload 4 <|
  tb_aload 0 <|
  tb_getI 5 14 <|
  tb_ic (fun x y => y ≤ x) (t_X5_awake_111) <|
  tb_iload 3 <|
  tb_iload 2 <|
  tb_iload 4 <|
  tb_bin (fun x y => x >>> (y &&& 31)) <|
  tb_const 1 <|
  tb_bin (fun x y => x &&& y) <|
  tb_bin (fun x y => x + y) <|
  tb_istore 3 <|
  tb_iinc 4 1 <|
  tb_head 87
def t_X5_awake_82 : am_T := tb_const 0 <|
  tb_istore 3 <|
  tb_const 0 <|
  tb_istore 4 <|
  tb_head 87
def t_X5_awake_74 : am_T := tb_bin (fun x y => x ||| y) <|
  tb_istore 2 <|
  tb_iinc 3 1 <|
  tb_head 24
def t_X5_awake_73 : am_T := tb_const 0 <|
  t_X5_awake_74
def t_X5_awake_24 : am_T := tb_iload 3 <|
  tb_aload 0 <|
  tb_getR 5 0 <|
  tb_const 9 <|
  tb_iald <|
  tb_ic (fun x y => y ≤ x) (t_X5_awake_82) <|
  tb_iload 2 <|
  tb_aload 0 <|
  tb_getR 5 0 <|
  tb_iload 3 <|
  tb_const 0 <|
  tb_callS sp_X5_of 3 <|
  tb_iload 1 <|
  tb_aload 0 <|
  tb_getR 5 0 <|
  tb_const 0 <|
  tb_iald <|
  tb_bin (fun x y => x - y) <|
  tb_const 1 <|
  tb_bin (fun x y => x + y) <|
  tb_iload 1 <|
  tb_callS sp_X5_in 3 <|
  tb_if (fun x => x = 0) (t_X5_awake_73) <|
  tb_const 1 <|
  tb_aload 0 <|
  tb_getR 5 11 <|
  tb_iload 3 <|
  tb_iald <|
  tb_bin (fun x y => x <<< (y &&& 31)) <|
  t_X5_awake_74
def t_X5_awake_12 : am_T := tb_aload 0 <|
  tb_aload 0 <|
  tb_getR 5 0 <|
  tb_callV 5 sp_X5_lays 2 <|
  tb_const 0 <|
  tb_istore 2 <|
  tb_const 0 <|
  tb_istore 3 <|
  tb_head 24
def t_X5_awake_0 : am_T := tb_iload 1 <|
  tb_const 0 <|
  tb_const (100000) <|
  tb_callS sp_X5_in 3 <|
  tb_if (fun x => x ≠ 0) (t_X5_awake_12) <|
  tb_const (-1) <|
  tb_iret
def h_X5_awake : am_Hd := fun h => if h = 0 then t_X5_awake_0 else if h = 24 then t_X5_awake_24 else if h = 87 then t_X5_awake_87 else tb_bad
theorem h_X5_awake_0 : h_X5_awake 0 = t_X5_awake_0 := rfl
theorem h_X5_awake_24 : h_X5_awake 24 = t_X5_awake_24 := rfl
theorem h_X5_awake_87 : h_X5_awake 87 = t_X5_awake_87 := rfl
def rm_X5_awake : Room := { frames := 6, cells := 0, slots := 0, locals := 145 }
def sp_X5_awake : am_sp := fun as M Q => as.length ≤ 5 ∧ am_OK h_X5_awake Q 0 (am_in 5 as) M
theorem s_X5_awake_111 {G : am_G} {bc bs : Nat} (X : am_Cx G cX5_awake RX5 "awake" rm_X5_awake (some .int) 5 bc bs true) : am_S G 111 (t_X5_awake_111) := by
  unfold t_X5_awake_111
  refine as_iload_n (pc := 111) X dX5_awake_111 rfl ?_
  exact as_iret (pc := 112) X ⟨rfl, rfl⟩ rfl dX5_awake_112
theorem s_X5_awake_87 {G : am_G} {bc bs : Nat} (X : am_Cx G cX5_awake RX5 "awake" rm_X5_awake (some .int) 5 bc bs true) : am_S G 87 (t_X5_awake_87) := by
  unfold t_X5_awake_87
  refine as_iload (pc := 87) X dX5_awake_87 ?_
  refine as_aload_n (pc := 89) X dX5_awake_89 rfl ?_
  refine as_getI (ci := 5) (j := 14) (pc := 90) X (Cn := RX5) (Tf := TX5) (N := 21) rfl rfl (by decide) iw_X5 aw_752 rfl dX5_awake_90 ?_
  refine as_ic_ge (pc := 93) X 111 dX5_awake_93 (by decide) (s_X5_awake_111 X) ?_
  refine as_iload_n (pc := 96) X dX5_awake_96 rfl ?_
  refine as_iload_n (pc := 97) X dX5_awake_97 rfl ?_
  refine as_iload (pc := 98) X dX5_awake_98 ?_
  refine as_ishr (pc := 100) X dX5_awake_100 ?_
  refine as_iconst (pc := 101) X dX5_awake_101 (by decide) ?_
  refine as_iand (pc := 102) X dX5_awake_102 ?_
  refine as_iadd (pc := 103) X dX5_awake_103 ?_
  refine as_istore_n (pc := 104) X dX5_awake_104 rfl ?_ (by decide)
  refine as_iinc (pc := 105) X dX5_awake_105 (by decide) (by decide) ?_
  exact as_goto (pc := 108) X 87 dX5_awake_108 (by decide) (as_head)
theorem s_X5_awake_82 {G : am_G} {bc bs : Nat} (X : am_Cx G cX5_awake RX5 "awake" rm_X5_awake (some .int) 5 bc bs true) : am_S G 82 (t_X5_awake_82) := by
  unfold t_X5_awake_82
  refine as_iconst (pc := 82) X dX5_awake_82 (by decide) ?_
  refine as_istore_n (pc := 83) X dX5_awake_83 rfl ?_ (by decide)
  refine as_iconst (pc := 84) X dX5_awake_84 (by decide) ?_
  refine as_istore (pc := 85) X dX5_awake_85 ?_ (by decide)
  exact as_head
theorem s_X5_awake_74 {G : am_G} {bc bs : Nat} (X : am_Cx G cX5_awake RX5 "awake" rm_X5_awake (some .int) 5 bc bs true) : am_S G 74 (t_X5_awake_74) := by
  unfold t_X5_awake_74
  refine as_ior (pc := 74) X dX5_awake_74 ?_
  refine as_istore_n (pc := 75) X dX5_awake_75 rfl ?_ (by decide)
  refine as_iinc (pc := 76) X dX5_awake_76 (by decide) (by decide) ?_
  exact as_goto (pc := 79) X 24 dX5_awake_79 (by decide) (as_head)
theorem s_X5_awake_73 {G : am_G} {bc bs : Nat} (X : am_Cx G cX5_awake RX5 "awake" rm_X5_awake (some .int) 5 bc bs true) : am_S G 73 (t_X5_awake_73) := by
  unfold t_X5_awake_73
  refine as_iconst (pc := 73) X dX5_awake_73 (by decide) ?_
  exact s_X5_awake_74 X
theorem s_X5_awake_24 {G : am_G} {bc bs : Nat} (X : am_Cx G cX5_awake RX5 "awake" rm_X5_awake (some .int) 5 bc bs true) : am_S G 24 (t_X5_awake_24) := by
  unfold t_X5_awake_24
  refine as_iload_n (pc := 24) X dX5_awake_24 rfl ?_
  refine as_aload_n (pc := 25) X dX5_awake_25 rfl ?_
  refine as_getR (ci := 5) (j := 0) (pc := 26) X (Cn := RX5) (Tf := TX5) (N := 21) rfl rfl (by decide) iw_X5 aw_738 rfl dX5_awake_26 ?_
  refine as_bipush (pc := 29) X dX5_awake_29 (by decide) ?_
  refine as_iald (pc := 31) X dX5_awake_31 ?_
  refine as_ic_ge (pc := 32) X 82 dX5_awake_32 (by decide) (s_X5_awake_82 X) ?_
  refine as_iload_n (pc := 35) X dX5_awake_35 rfl ?_
  refine as_aload_n (pc := 36) X dX5_awake_36 rfl ?_
  refine as_getR (ci := 5) (j := 0) (pc := 37) X (Cn := RX5) (Tf := TX5) (N := 21) rfl rfl (by decide) iw_X5 aw_738 rfl dX5_awake_37 ?_
  refine as_iload_n (pc := 40) X dX5_awake_40 rfl ?_
  refine as_iconst (pc := 41) X dX5_awake_41 (by decide) ?_
  refine as_callS (np := 3) (ix := 71) (pc := 42) X ct_X5_of ⟨rfl, rfl⟩ aw_873 aw_874 aw_875 aw_65 (by decide +kernel) (by decide) dX5_awake_42 ?_
  refine as_iload_n (pc := 45) X dX5_awake_45 rfl ?_
  refine as_aload_n (pc := 46) X dX5_awake_46 rfl ?_
  refine as_getR (ci := 5) (j := 0) (pc := 47) X (Cn := RX5) (Tf := TX5) (N := 21) rfl rfl (by decide) iw_X5 aw_738 rfl dX5_awake_47 ?_
  refine as_iconst (pc := 50) X dX5_awake_50 (by decide) ?_
  refine as_iald (pc := 51) X dX5_awake_51 ?_
  refine as_isub (pc := 52) X dX5_awake_52 ?_
  refine as_iconst (pc := 53) X dX5_awake_53 (by decide) ?_
  refine as_iadd (pc := 54) X dX5_awake_54 ?_
  refine as_iload_n (pc := 55) X dX5_awake_55 rfl ?_
  refine as_callS (np := 3) (ix := 60) (pc := 56) X ct_X5_in ⟨rfl, rfl⟩ aw_806 aw_807 aw_808 aw_65 (by decide +kernel) (by decide) dX5_awake_56 ?_
  refine as_if_eq (pc := 59) X 73 dX5_awake_59 (by decide) (s_X5_awake_73 X) ?_
  refine as_iconst (pc := 62) X dX5_awake_62 (by decide) ?_
  refine as_aload_n (pc := 63) X dX5_awake_63 rfl ?_
  refine as_getR (ci := 5) (j := 11) (pc := 64) X (Cn := RX5) (Tf := TX5) (N := 21) rfl rfl (by decide) iw_X5 aw_749 rfl dX5_awake_64 ?_
  refine as_iload_n (pc := 67) X dX5_awake_67 rfl ?_
  refine as_iald (pc := 68) X dX5_awake_68 ?_
  refine as_ishl (pc := 69) X dX5_awake_69 ?_
  exact as_goto (pc := 70) X 74 dX5_awake_70 (by decide) (s_X5_awake_74 X)
theorem s_X5_awake_12 {G : am_G} {bc bs : Nat} (X : am_Cx G cX5_awake RX5 "awake" rm_X5_awake (some .int) 5 bc bs true) : am_S G 12 (t_X5_awake_12) := by
  unfold t_X5_awake_12
  refine as_aload_n (pc := 12) X dX5_awake_12 rfl ?_
  refine as_aload_n (pc := 13) X dX5_awake_13 rfl ?_
  refine as_getR (ci := 5) (j := 0) (pc := 14) X (Cn := RX5) (Tf := TX5) (N := 21) rfl rfl (by decide) iw_X5 aw_738 rfl dX5_awake_14 ?_
  refine as_callV (ci := 5) (np := 1) (ix := 145) (pc := 17) X ct_X5_lays (Cn := (RX5, TX5, 21)) rfl ⟨rfl, rfl⟩ aw_861 aw_863 aw_29 aw_864 aw_65 (by decide +kernel) (by decide) dX5_awake_17 ?_
  refine as_iconst (pc := 20) X dX5_awake_20 (by decide) ?_
  refine as_istore_n (pc := 21) X dX5_awake_21 rfl ?_ (by decide)
  refine as_iconst (pc := 22) X dX5_awake_22 (by decide) ?_
  refine as_istore_n (pc := 23) X dX5_awake_23 rfl ?_ (by decide)
  exact as_head
theorem s_X5_awake_0 {G : am_G} {bc bs : Nat} (X : am_Cx G cX5_awake RX5 "awake" rm_X5_awake (some .int) 5 bc bs true) : am_S G 0 (t_X5_awake_0) := by
  unfold t_X5_awake_0
  refine as_iload_n (pc := 0) X dX5_awake_0 rfl ?_
  refine as_iconst (pc := 1) X dX5_awake_1 (by decide) ?_
  refine as_ldc (pc := 2) X dX5_awake_2 aw_809 ?_
  refine as_callS (np := 3) (ix := 60) (pc := 4) X ct_X5_in ⟨rfl, rfl⟩ aw_806 aw_807 aw_808 aw_65 (by decide +kernel) (by decide) dX5_awake_4 ?_
  refine as_if_ne (pc := 7) X 12 dX5_awake_7 (by decide) (s_X5_awake_12 X) ?_
  refine as_iconst (pc := 10) X dX5_awake_10 (by decide) ?_
  exact as_iret (pc := 11) X ⟨rfl, rfl⟩ rfl dX5_awake_11
theorem s_X5_awake {G : am_G} {bc bs : Nat} (X : am_Cx G cX5_awake RX5 "awake" rm_X5_awake (some .int) 5 bc bs true) (h : Nat) : am_S G h (h_X5_awake h) := by
  unfold h_X5_awake
  split
  · next e => rw [e]; exact s_X5_awake_0 X
  split
  · next e => rw [e]; exact s_X5_awake_24 X
  split
  · next e => rw [e]; exact s_X5_awake_87 X
  exact as_bad
theorem ct_X5_awake : am_Ct yX5_awake cX5_awake 5 (some .int) rm_X5_awake sp_X5_awake := am_met (own := RX5) (nm := "awake") (by decide) rfl rfl (Or.inr (Or.inl rfl)) (fun _ _ => h_X5_awake) (fun _ _ _ X => s_X5_awake X) (fun _ _ _ _ h => h)
-- X4_otherThreadCount
theorem dX4_otherThreadCount_0 : decode cX4_otherThreadCount 0 = .ok (.aload_n 0, 1) := by decide +kernel
theorem dX4_otherThreadCount_1 : decode cX4_otherThreadCount 1 = .ok (.getfield 39, 3) := by decide +kernel
theorem dX4_otherThreadCount_4 : decode cX4_otherThreadCount 4 = .ok (.invokevirtual 244, 3) := by decide +kernel
theorem dX4_otherThreadCount_7 : decode cX4_otherThreadCount 7 = .ok (.aload_n 0, 1) := by decide +kernel
theorem dX4_otherThreadCount_8 : decode cX4_otherThreadCount 8 = .ok (.getfield 39, 3) := by decide +kernel
theorem dX4_otherThreadCount_11 : decode cX4_otherThreadCount 11 = .ok (.invokevirtual 253, 3) := by decide +kernel
theorem dX4_otherThreadCount_14 : decode cX4_otherThreadCount 14 = .ok (.aload_n 0, 1) := by decide +kernel
theorem dX4_otherThreadCount_15 : decode cX4_otherThreadCount 15 = .ok (.getfield 39, 3) := by decide +kernel
theorem dX4_otherThreadCount_18 : decode cX4_otherThreadCount 18 = .ok (.getfield 158, 3) := by decide +kernel
theorem dX4_otherThreadCount_21 : decode cX4_otherThreadCount 21 = .ok (.ireturn, 1) := by decide +kernel
def t_X4_otherThreadCount_0 : am_T := tb_aload 0 <|
  tb_getR 4 5 <|
  tb_callV 3 sp_X3_rateAll 1 <|
  tb_aload 0 <|
  tb_getR 4 5 <|
  tb_callV 3 sp_X3_follow 1 <|
  tb_aload 0 <|
  tb_getR 4 5 <|
  tb_getI 3 14 <|
  tb_iret
def h_X4_otherThreadCount : am_Hd := fun h => if h = 0 then t_X4_otherThreadCount_0 else tb_bad
theorem h_X4_otherThreadCount_0 : h_X4_otherThreadCount 0 = t_X4_otherThreadCount_0 := rfl
def rm_X4_otherThreadCount : Room := { frames := 5, cells := 0, slots := 0, locals := 113 }
def sp_X4_otherThreadCount : am_sp := fun as M Q => as.length ≤ 1 ∧ am_OK h_X4_otherThreadCount Q 0 (am_in 1 as) M
theorem s_X4_otherThreadCount_0 {G : am_G} {bc bs : Nat} (X : am_Cx G cX4_otherThreadCount RX4 "otherThreadCount" rm_X4_otherThreadCount (some .int) 1 bc bs true) : am_S G 0 (t_X4_otherThreadCount_0) := by
  unfold t_X4_otherThreadCount_0
  refine as_aload_n (pc := 0) X dX4_otherThreadCount_0 rfl ?_
  refine as_getR (ci := 4) (j := 5) (pc := 1) X (Cn := RX4) (Tf := TX4) (N := 7) rfl rfl (by decide) iw_X4 aw_279 rfl dX4_otherThreadCount_1 ?_
  refine as_callV (ci := 3) (np := 0) (ix := 244) (pc := 4) X ct_X3_rateAll (Cn := (RX3, TX3, 17)) rfl ⟨rfl, rfl⟩ aw_393 aw_394 aw_395 aw_396 aw_60 (by decide +kernel) (by decide) dX4_otherThreadCount_4 ?_
  refine as_aload_n (pc := 7) X dX4_otherThreadCount_7 rfl ?_
  refine as_getR (ci := 4) (j := 5) (pc := 8) X (Cn := RX4) (Tf := TX4) (N := 7) rfl rfl (by decide) iw_X4 aw_279 rfl dX4_otherThreadCount_8 ?_
  refine as_callV (ci := 3) (np := 0) (ix := 253) (pc := 11) X ct_X3_follow (Cn := (RX3, TX3, 17)) rfl ⟨rfl, rfl⟩ aw_451 aw_452 aw_453 aw_454 aw_60 (by decide +kernel) (by decide) dX4_otherThreadCount_11 ?_
  refine as_aload_n (pc := 14) X dX4_otherThreadCount_14 rfl ?_
  refine as_getR (ci := 4) (j := 5) (pc := 15) X (Cn := RX4) (Tf := TX4) (N := 7) rfl rfl (by decide) iw_X4 aw_279 rfl dX4_otherThreadCount_15 ?_
  refine as_getI (ci := 3) (j := 14) (pc := 18) X (Cn := RX3) (Tf := TX3) (N := 17) rfl rfl (by decide) iw_X3 aw_181 rfl dX4_otherThreadCount_18 ?_
  exact as_iret (pc := 21) X ⟨rfl, rfl⟩ rfl dX4_otherThreadCount_21
theorem s_X4_otherThreadCount {G : am_G} {bc bs : Nat} (X : am_Cx G cX4_otherThreadCount RX4 "otherThreadCount" rm_X4_otherThreadCount (some .int) 1 bc bs true) (h : Nat) : am_S G h (h_X4_otherThreadCount h) := by
  unfold h_X4_otherThreadCount
  split
  · next e => rw [e]; exact s_X4_otherThreadCount_0 X
  exact as_bad
theorem ct_X4_otherThreadCount : am_Ct yX4_otherThreadCount cX4_otherThreadCount 1 (some .int) rm_X4_otherThreadCount sp_X4_otherThreadCount := am_met (own := RX4) (nm := "otherThreadCount") (by decide) rfl rfl (Or.inr (Or.inl rfl)) (fun _ _ => h_X4_otherThreadCount) (fun _ _ _ X => s_X4_otherThreadCount X) (fun _ _ _ _ h => h)
-- X4_threadsWith
theorem dX4_threadsWith_0 : decode cX4_threadsWith 0 = .ok (.iload_n 1, 1) := by decide +kernel
theorem dX4_threadsWith_1 : decode cX4_threadsWith 1 = .ok (.iload_n 2, 1) := by decide +kernel
theorem dX4_threadsWith_2 : decode cX4_threadsWith 2 = .ok (.invokestatic 152, 3) := by decide +kernel
theorem dX4_threadsWith_5 : decode cX4_threadsWith 5 = .ok (.ifCond .ne 5, 3) := by decide +kernel
theorem dX4_threadsWith_8 : decode cX4_threadsWith 8 = .ok (.iconst (-1), 1) := by decide +kernel
theorem dX4_threadsWith_9 : decode cX4_threadsWith 9 = .ok (.ireturn, 1) := by decide +kernel
theorem dX4_threadsWith_10 : decode cX4_threadsWith 10 = .ok (.aload_n 0, 1) := by decide +kernel
theorem dX4_threadsWith_11 : decode cX4_threadsWith 11 = .ok (.getfield 42, 3) := by decide +kernel
theorem dX4_threadsWith_14 : decode cX4_threadsWith 14 = .ok (.aload_n 0, 1) := by decide +kernel
theorem dX4_threadsWith_15 : decode cX4_threadsWith 15 = .ok (.getfield 20, 3) := by decide +kernel
theorem dX4_threadsWith_18 : decode cX4_threadsWith 18 = .ok (.invokevirtual 238, 3) := by decide +kernel
theorem dX4_threadsWith_21 : decode cX4_threadsWith 21 = .ok (.aload_n 0, 1) := by decide +kernel
theorem dX4_threadsWith_22 : decode cX4_threadsWith 22 = .ok (.getfield 42, 3) := by decide +kernel
theorem dX4_threadsWith_25 : decode cX4_threadsWith 25 = .ok (.getfield 155, 3) := by decide +kernel
theorem dX4_threadsWith_28 : decode cX4_threadsWith 28 = .ok (.iload_n 1, 1) := by decide +kernel
theorem dX4_threadsWith_29 : decode cX4_threadsWith 29 = .ok (.iload_n 2, 1) := by decide +kernel
theorem dX4_threadsWith_30 : decode cX4_threadsWith 30 = .ok (.iastore, 1) := by decide +kernel
theorem dX4_threadsWith_31 : decode cX4_threadsWith 31 = .ok (.aload_n 0, 1) := by decide +kernel
theorem dX4_threadsWith_32 : decode cX4_threadsWith 32 = .ok (.invokevirtual 241, 3) := by decide +kernel
theorem dX4_threadsWith_35 : decode cX4_threadsWith 35 = .ok (.ireturn, 1) := by decide +kernel
def t_X4_threadsWith_10 : am_T := tb_aload 0 <|
  tb_getR 4 6 <|
  tb_aload 0 <|
  tb_getR 4 1 <|
  tb_callV 1 sp_X1_copyFrom 2 <|
  tb_aload 0 <|
  tb_getR 4 6 <|
  tb_getR 1 13 <|
  tb_iload 1 <|
  tb_iload 2 <|
  tb_iast <|
  tb_aload 0 <|
  tb_callV 4 sp_X4_otherThreadCount 1 <|
  tb_iret
def t_X4_threadsWith_0 : am_T := tb_iload 1 <|
  tb_iload 2 <|
  tb_callS sp_X4_isSettingValue 2 <|
  tb_if (fun x => x ≠ 0) (t_X4_threadsWith_10) <|
  tb_const (-1) <|
  tb_iret
def h_X4_threadsWith : am_Hd := fun h => if h = 0 then t_X4_threadsWith_0 else tb_bad
theorem h_X4_threadsWith_0 : h_X4_threadsWith 0 = t_X4_threadsWith_0 := rfl
def rm_X4_threadsWith : Room := { frames := 6, cells := 0, slots := 0, locals := 133 }
def sp_X4_threadsWith : am_sp := fun as M Q => as.length ≤ 3 ∧ am_OK h_X4_threadsWith Q 0 (am_in 3 as) M
theorem s_X4_threadsWith_10 {G : am_G} {bc bs : Nat} (X : am_Cx G cX4_threadsWith RX4 "threadsWith" rm_X4_threadsWith (some .int) 3 bc bs true) : am_S G 10 (t_X4_threadsWith_10) := by
  unfold t_X4_threadsWith_10
  refine as_aload_n (pc := 10) X dX4_threadsWith_10 rfl ?_
  refine as_getR (ci := 4) (j := 6) (pc := 11) X (Cn := RX4) (Tf := TX4) (N := 7) rfl rfl (by decide) iw_X4 aw_280 rfl dX4_threadsWith_11 ?_
  refine as_aload_n (pc := 14) X dX4_threadsWith_14 rfl ?_
  refine as_getR (ci := 4) (j := 1) (pc := 15) X (Cn := RX4) (Tf := TX4) (N := 7) rfl rfl (by decide) iw_X4 aw_275 rfl dX4_threadsWith_15 ?_
  refine as_callV (ci := 1) (np := 1) (ix := 238) (pc := 18) X ct_X1_copyFrom (Cn := (RX1, TX1, 14)) rfl ⟨rfl, rfl⟩ aw_652 aw_335 aw_336 aw_337 aw_61 (by decide +kernel) (by decide) dX4_threadsWith_18 ?_
  refine as_aload_n (pc := 21) X dX4_threadsWith_21 rfl ?_
  refine as_getR (ci := 4) (j := 6) (pc := 22) X (Cn := RX4) (Tf := TX4) (N := 7) rfl rfl (by decide) iw_X4 aw_280 rfl dX4_threadsWith_22 ?_
  refine as_getR (ci := 1) (j := 13) (pc := 25) X (Cn := RX1) (Tf := TX1) (N := 14) rfl rfl (by decide) iw_X1 aw_128 rfl dX4_threadsWith_25 ?_
  refine as_iload_n (pc := 28) X dX4_threadsWith_28 rfl ?_
  refine as_iload_n (pc := 29) X dX4_threadsWith_29 rfl ?_
  refine as_iast (pc := 30) X dX4_threadsWith_30 ?_
  refine as_aload_n (pc := 31) X dX4_threadsWith_31 rfl ?_
  refine as_callV (ci := 4) (np := 0) (ix := 241) (pc := 32) X ct_X4_otherThreadCount (Cn := (RX4, TX4, 7)) rfl ⟨rfl, rfl⟩ aw_653 aw_655 aw_17 aw_656 aw_59 (by decide +kernel) (by decide) dX4_threadsWith_32 ?_
  exact as_iret (pc := 35) X ⟨rfl, rfl⟩ rfl dX4_threadsWith_35
theorem s_X4_threadsWith_0 {G : am_G} {bc bs : Nat} (X : am_Cx G cX4_threadsWith RX4 "threadsWith" rm_X4_threadsWith (some .int) 3 bc bs true) : am_S G 0 (t_X4_threadsWith_0) := by
  unfold t_X4_threadsWith_0
  refine as_iload_n (pc := 0) X dX4_threadsWith_0 rfl ?_
  refine as_iload_n (pc := 1) X dX4_threadsWith_1 rfl ?_
  refine as_callS (np := 2) (ix := 152) (pc := 2) X ct_X4_isSettingValue ⟨rfl, rfl⟩ aw_519 aw_520 aw_521 aw_59 (by decide +kernel) (by decide) dX4_threadsWith_2 ?_
  refine as_if_ne (pc := 5) X 10 dX4_threadsWith_5 (by decide) (s_X4_threadsWith_10 X) ?_
  refine as_iconst (pc := 8) X dX4_threadsWith_8 (by decide) ?_
  exact as_iret (pc := 9) X ⟨rfl, rfl⟩ rfl dX4_threadsWith_9
theorem s_X4_threadsWith {G : am_G} {bc bs : Nat} (X : am_Cx G cX4_threadsWith RX4 "threadsWith" rm_X4_threadsWith (some .int) 3 bc bs true) (h : Nat) : am_S G h (h_X4_threadsWith h) := by
  unfold h_X4_threadsWith
  split
  · next e => rw [e]; exact s_X4_threadsWith_0 X
  exact as_bad
theorem ct_X4_threadsWith : am_Ct yX4_threadsWith cX4_threadsWith 3 (some .int) rm_X4_threadsWith sp_X4_threadsWith := am_met (own := RX4) (nm := "threadsWith") (by decide) rfl rfl (Or.inr (Or.inl rfl)) (fun _ _ => h_X4_threadsWith) (fun _ _ _ X => s_X4_threadsWith X) (fun _ _ _ _ h => h)
-- X5_begins
theorem dX5_begins_0 : decode cX5_begins 0 = .ok (.iconst 0, 1) := by decide +kernel
theorem dX5_begins_1 : decode cX5_begins 1 = .ok (.istore_n 1, 1) := by decide +kernel
theorem dX5_begins_2 : decode cX5_begins 2 = .ok (.iload_n 1, 1) := by decide +kernel
theorem dX5_begins_3 : decode cX5_begins 3 = .ok (.sipush 227, 3) := by decide +kernel
theorem dX5_begins_6 : decode cX5_begins 6 = .ok (.if_icmp .ge 21, 3) := by decide +kernel
theorem dX5_begins_9 : decode cX5_begins 9 = .ok (.aload_n 0, 1) := by decide +kernel
theorem dX5_begins_10 : decode cX5_begins 10 = .ok (.getfield 13, 3) := by decide +kernel
theorem dX5_begins_13 : decode cX5_begins 13 = .ok (.iload_n 1, 1) := by decide +kernel
theorem dX5_begins_14 : decode cX5_begins 14 = .ok (.aload_n 0, 1) := by decide +kernel
theorem dX5_begins_15 : decode cX5_begins 15 = .ok (.getfield 7, 3) := by decide +kernel
theorem dX5_begins_18 : decode cX5_begins 18 = .ok (.iload_n 1, 1) := by decide +kernel
theorem dX5_begins_19 : decode cX5_begins 19 = .ok (.iaload, 1) := by decide +kernel
theorem dX5_begins_20 : decode cX5_begins 20 = .ok (.iastore, 1) := by decide +kernel
theorem dX5_begins_21 : decode cX5_begins 21 = .ok (.iinc 1 1, 3) := by decide +kernel
theorem dX5_begins_24 : decode cX5_begins 24 = .ok (.goto (-22), 3) := by decide +kernel
theorem dX5_begins_27 : decode cX5_begins 27 = .ok (.return_, 1) := by decide +kernel
def t_X5_begins_27 : am_T := tb_ret
def t_X5_begins_2 : am_T := tb_iload 1 <|
  tb_const 227 <|
  tb_ic (fun x y => y ≤ x) (t_X5_begins_27) <|
  tb_aload 0 <|
  tb_getR 5 1 <|
  tb_iload 1 <|
  tb_aload 0 <|
  tb_getR 5 0 <|
  tb_iload 1 <|
  tb_iald <|
  tb_iast <|
  tb_iinc 1 1 <|
  tb_head 2
def t_X5_begins_0 : am_T := tb_const 0 <|
  tb_istore 1 <|
  tb_head 2
def h_X5_begins : am_Hd := fun h => if h = 0 then t_X5_begins_0 else if h = 2 then t_X5_begins_2 else tb_bad
theorem h_X5_begins_0 : h_X5_begins 0 = t_X5_begins_0 := rfl
theorem h_X5_begins_2 : h_X5_begins 2 = t_X5_begins_2 := rfl
def rm_X5_begins : Room := { frames := 0, cells := 0, slots := 0, locals := 0 }
def sp_X5_begins : am_sp := fun as M Q => as.length ≤ 2 ∧ am_OK h_X5_begins Q 0 (am_in 2 as) M
theorem s_X5_begins_27 {G : am_G} {bc bs : Nat} (X : am_Cx G cX5_begins RX5 "begins" rm_X5_begins none 2 bc bs true) : am_S G 27 (t_X5_begins_27) := by
  unfold t_X5_begins_27
  exact as_ret (pc := 27) X ⟨rfl, rfl⟩ rfl dX5_begins_27
theorem s_X5_begins_2 {G : am_G} {bc bs : Nat} (X : am_Cx G cX5_begins RX5 "begins" rm_X5_begins none 2 bc bs true) : am_S G 2 (t_X5_begins_2) := by
  unfold t_X5_begins_2
  refine as_iload_n (pc := 2) X dX5_begins_2 rfl ?_
  refine as_sipush (pc := 3) X dX5_begins_3 (by decide) ?_
  refine as_ic_ge (pc := 6) X 27 dX5_begins_6 (by decide) (s_X5_begins_27 X) ?_
  refine as_aload_n (pc := 9) X dX5_begins_9 rfl ?_
  refine as_getR (ci := 5) (j := 1) (pc := 10) X (Cn := RX5) (Tf := TX5) (N := 21) rfl rfl (by decide) iw_X5 aw_739 rfl dX5_begins_10 ?_
  refine as_iload_n (pc := 13) X dX5_begins_13 rfl ?_
  refine as_aload_n (pc := 14) X dX5_begins_14 rfl ?_
  refine as_getR (ci := 5) (j := 0) (pc := 15) X (Cn := RX5) (Tf := TX5) (N := 21) rfl rfl (by decide) iw_X5 aw_738 rfl dX5_begins_15 ?_
  refine as_iload_n (pc := 18) X dX5_begins_18 rfl ?_
  refine as_iald (pc := 19) X dX5_begins_19 ?_
  refine as_iast (pc := 20) X dX5_begins_20 ?_
  refine as_iinc (pc := 21) X dX5_begins_21 (by decide) (by decide) ?_
  exact as_goto (pc := 24) X 2 dX5_begins_24 (by decide) (as_head)
theorem s_X5_begins_0 {G : am_G} {bc bs : Nat} (X : am_Cx G cX5_begins RX5 "begins" rm_X5_begins none 2 bc bs true) : am_S G 0 (t_X5_begins_0) := by
  unfold t_X5_begins_0
  refine as_iconst (pc := 0) X dX5_begins_0 (by decide) ?_
  refine as_istore_n (pc := 1) X dX5_begins_1 rfl ?_ (by decide)
  exact as_head
theorem s_X5_begins {G : am_G} {bc bs : Nat} (X : am_Cx G cX5_begins RX5 "begins" rm_X5_begins none 2 bc bs true) (h : Nat) : am_S G h (h_X5_begins h) := by
  unfold h_X5_begins
  split
  · next e => rw [e]; exact s_X5_begins_0 X
  split
  · next e => rw [e]; exact s_X5_begins_2 X
  exact as_bad
theorem ct_X5_begins : am_Ct yX5_begins cX5_begins 2 none rm_X5_begins sp_X5_begins := am_met (own := RX5) (nm := "begins") (by decide) rfl rfl (Or.inl rfl) (fun _ _ => h_X5_begins) (fun _ _ _ X => s_X5_begins X) (fun _ _ _ _ h => h)
-- X5_threadsWith
theorem dX5_threadsWith_0 : decode cX5_threadsWith 0 = .ok (.iload_n 1, 1) := by decide +kernel
theorem dX5_threadsWith_1 : decode cX5_threadsWith 1 = .ok (.iload_n 2, 1) := by decide +kernel
theorem dX5_threadsWith_2 : decode cX5_threadsWith 2 = .ok (.invokestatic 158, 3) := by decide +kernel
theorem dX5_threadsWith_5 : decode cX5_threadsWith 5 = .ok (.ifCond .ne 5, 3) := by decide +kernel
theorem dX5_threadsWith_8 : decode cX5_threadsWith 8 = .ok (.iconst (-1), 1) := by decide +kernel
theorem dX5_threadsWith_9 : decode cX5_threadsWith 9 = .ok (.ireturn, 1) := by decide +kernel
theorem dX5_threadsWith_10 : decode cX5_threadsWith 10 = .ok (.aload_n 0, 1) := by decide +kernel
theorem dX5_threadsWith_11 : decode cX5_threadsWith 11 = .ok (.invokevirtual 199, 3) := by decide +kernel
theorem dX5_threadsWith_14 : decode cX5_threadsWith 14 = .ok (.aload_n 0, 1) := by decide +kernel
theorem dX5_threadsWith_15 : decode cX5_threadsWith 15 = .ok (.getfield 13, 3) := by decide +kernel
theorem dX5_threadsWith_18 : decode cX5_threadsWith 18 = .ok (.iload_n 1, 1) := by decide +kernel
theorem dX5_threadsWith_19 : decode cX5_threadsWith 19 = .ok (.iload_n 2, 1) := by decide +kernel
theorem dX5_threadsWith_20 : decode cX5_threadsWith 20 = .ok (.iastore, 1) := by decide +kernel
theorem dX5_threadsWith_21 : decode cX5_threadsWith 21 = .ok (.aload_n 0, 1) := by decide +kernel
theorem dX5_threadsWith_22 : decode cX5_threadsWith 22 = .ok (.aload_n 0, 1) := by decide +kernel
theorem dX5_threadsWith_23 : decode cX5_threadsWith 23 = .ok (.getfield 13, 3) := by decide +kernel
theorem dX5_threadsWith_26 : decode cX5_threadsWith 26 = .ok (.invokevirtual 145, 3) := by decide +kernel
theorem dX5_threadsWith_29 : decode cX5_threadsWith 29 = .ok (.aload_n 0, 1) := by decide +kernel
theorem dX5_threadsWith_30 : decode cX5_threadsWith 30 = .ok (.getfield 117, 3) := by decide +kernel
theorem dX5_threadsWith_33 : decode cX5_threadsWith 33 = .ok (.ireturn, 1) := by decide +kernel
def t_X5_threadsWith_10 : am_T := tb_aload 0 <|
  tb_callV 5 sp_X5_begins 1 <|
  tb_aload 0 <|
  tb_getR 5 1 <|
  tb_iload 1 <|
  tb_iload 2 <|
  tb_iast <|
  tb_aload 0 <|
  tb_aload 0 <|
  tb_getR 5 1 <|
  tb_callV 5 sp_X5_lays 2 <|
  tb_aload 0 <|
  tb_getI 5 14 <|
  tb_iret
def t_X5_threadsWith_0 : am_T := tb_iload 1 <|
  tb_iload 2 <|
  tb_callS sp_X5_isSetting 2 <|
  tb_if (fun x => x ≠ 0) (t_X5_threadsWith_10) <|
  tb_const (-1) <|
  tb_iret
def h_X5_threadsWith : am_Hd := fun h => if h = 0 then t_X5_threadsWith_0 else tb_bad
theorem h_X5_threadsWith_0 : h_X5_threadsWith 0 = t_X5_threadsWith_0 := rfl
def rm_X5_threadsWith : Room := { frames := 6, cells := 0, slots := 0, locals := 145 }
def sp_X5_threadsWith : am_sp := fun as M Q => as.length ≤ 3 ∧ am_OK h_X5_threadsWith Q 0 (am_in 3 as) M
theorem s_X5_threadsWith_10 {G : am_G} {bc bs : Nat} (X : am_Cx G cX5_threadsWith RX5 "threadsWith" rm_X5_threadsWith (some .int) 3 bc bs true) : am_S G 10 (t_X5_threadsWith_10) := by
  unfold t_X5_threadsWith_10
  refine as_aload_n (pc := 10) X dX5_threadsWith_10 rfl ?_
  refine as_callV (ci := 5) (np := 0) (ix := 199) (pc := 11) X ct_X5_begins (Cn := (RX5, TX5, 21)) rfl ⟨rfl, rfl⟩ aw_1038 aw_1040 aw_52 aw_1041 aw_65 (by decide +kernel) (by decide) dX5_threadsWith_11 ?_
  refine as_aload_n (pc := 14) X dX5_threadsWith_14 rfl ?_
  refine as_getR (ci := 5) (j := 1) (pc := 15) X (Cn := RX5) (Tf := TX5) (N := 21) rfl rfl (by decide) iw_X5 aw_739 rfl dX5_threadsWith_15 ?_
  refine as_iload_n (pc := 18) X dX5_threadsWith_18 rfl ?_
  refine as_iload_n (pc := 19) X dX5_threadsWith_19 rfl ?_
  refine as_iast (pc := 20) X dX5_threadsWith_20 ?_
  refine as_aload_n (pc := 21) X dX5_threadsWith_21 rfl ?_
  refine as_aload_n (pc := 22) X dX5_threadsWith_22 rfl ?_
  refine as_getR (ci := 5) (j := 1) (pc := 23) X (Cn := RX5) (Tf := TX5) (N := 21) rfl rfl (by decide) iw_X5 aw_739 rfl dX5_threadsWith_23 ?_
  refine as_callV (ci := 5) (np := 1) (ix := 145) (pc := 26) X ct_X5_lays (Cn := (RX5, TX5, 21)) rfl ⟨rfl, rfl⟩ aw_861 aw_863 aw_29 aw_864 aw_65 (by decide +kernel) (by decide) dX5_threadsWith_26 ?_
  refine as_aload_n (pc := 29) X dX5_threadsWith_29 rfl ?_
  refine as_getI (ci := 5) (j := 14) (pc := 30) X (Cn := RX5) (Tf := TX5) (N := 21) rfl rfl (by decide) iw_X5 aw_752 rfl dX5_threadsWith_30 ?_
  exact as_iret (pc := 33) X ⟨rfl, rfl⟩ rfl dX5_threadsWith_33
theorem s_X5_threadsWith_0 {G : am_G} {bc bs : Nat} (X : am_Cx G cX5_threadsWith RX5 "threadsWith" rm_X5_threadsWith (some .int) 3 bc bs true) : am_S G 0 (t_X5_threadsWith_0) := by
  unfold t_X5_threadsWith_0
  refine as_iload_n (pc := 0) X dX5_threadsWith_0 rfl ?_
  refine as_iload_n (pc := 1) X dX5_threadsWith_1 rfl ?_
  refine as_callS (np := 2) (ix := 158) (pc := 2) X ct_X5_isSetting ⟨rfl, rfl⟩ aw_940 aw_941 aw_942 aw_65 (by decide +kernel) (by decide) dX5_threadsWith_2 ?_
  refine as_if_ne (pc := 5) X 10 dX5_threadsWith_5 (by decide) (s_X5_threadsWith_10 X) ?_
  refine as_iconst (pc := 8) X dX5_threadsWith_8 (by decide) ?_
  exact as_iret (pc := 9) X ⟨rfl, rfl⟩ rfl dX5_threadsWith_9
theorem s_X5_threadsWith {G : am_G} {bc bs : Nat} (X : am_Cx G cX5_threadsWith RX5 "threadsWith" rm_X5_threadsWith (some .int) 3 bc bs true) (h : Nat) : am_S G h (h_X5_threadsWith h) := by
  unfold h_X5_threadsWith
  split
  · next e => rw [e]; exact s_X5_threadsWith_0 X
  exact as_bad
theorem ct_X5_threadsWith : am_Ct yX5_threadsWith cX5_threadsWith 3 (some .int) rm_X5_threadsWith sp_X5_threadsWith := am_met (own := RX5) (nm := "threadsWith") (by decide) rfl rfl (Or.inr (Or.inl rfl)) (fun _ _ => h_X5_threadsWith) (fun _ _ _ X => s_X5_threadsWith X) (fun _ _ _ _ h => h)
-- X4_threadsWithout
theorem dX4_threadsWithout_0 : decode cX4_threadsWithout 0 = .ok (.aload_n 0, 1) := by decide +kernel
theorem dX4_threadsWithout_1 : decode cX4_threadsWithout 1 = .ok (.getfield 20, 3) := by decide +kernel
theorem dX4_threadsWithout_4 : decode cX4_threadsWithout 4 = .ok (.iload_n 1, 1) := by decide +kernel
theorem dX4_threadsWithout_5 : decode cX4_threadsWithout 5 = .ok (.invokevirtual 93, 3) := by decide +kernel
theorem dX4_threadsWithout_8 : decode cX4_threadsWithout 8 = .ok (.ifCond .ne 5, 3) := by decide +kernel
theorem dX4_threadsWithout_11 : decode cX4_threadsWithout 11 = .ok (.iconst (-1), 1) := by decide +kernel
theorem dX4_threadsWithout_12 : decode cX4_threadsWithout 12 = .ok (.ireturn, 1) := by decide +kernel
theorem dX4_threadsWithout_13 : decode cX4_threadsWithout 13 = .ok (.aload_n 0, 1) := by decide +kernel
theorem dX4_threadsWithout_14 : decode cX4_threadsWithout 14 = .ok (.getfield 42, 3) := by decide +kernel
theorem dX4_threadsWithout_17 : decode cX4_threadsWithout 17 = .ok (.aload_n 0, 1) := by decide +kernel
theorem dX4_threadsWithout_18 : decode cX4_threadsWithout 18 = .ok (.getfield 20, 3) := by decide +kernel
theorem dX4_threadsWithout_21 : decode cX4_threadsWithout 21 = .ok (.invokevirtual 238, 3) := by decide +kernel
theorem dX4_threadsWithout_24 : decode cX4_threadsWithout 24 = .ok (.aload_n 0, 1) := by decide +kernel
theorem dX4_threadsWithout_25 : decode cX4_threadsWithout 25 = .ok (.getfield 42, 3) := by decide +kernel
theorem dX4_threadsWithout_28 : decode cX4_threadsWithout 28 = .ok (.iload_n 1, 1) := by decide +kernel
theorem dX4_threadsWithout_29 : decode cX4_threadsWithout 29 = .ok (.invokevirtual 96, 3) := by decide +kernel
theorem dX4_threadsWithout_32 : decode cX4_threadsWithout 32 = .ok (.aload_n 0, 1) := by decide +kernel
theorem dX4_threadsWithout_33 : decode cX4_threadsWithout 33 = .ok (.invokevirtual 241, 3) := by decide +kernel
theorem dX4_threadsWithout_36 : decode cX4_threadsWithout 36 = .ok (.ireturn, 1) := by decide +kernel
def t_X4_threadsWithout_13 : am_T := tb_aload 0 <|
  tb_getR 4 6 <|
  tb_aload 0 <|
  tb_getR 4 1 <|
  tb_callV 1 sp_X1_copyFrom 2 <|
  tb_aload 0 <|
  tb_getR 4 6 <|
  tb_iload 1 <|
  tb_callV 1 sp_X1_removeLine 2 <|
  tb_aload 0 <|
  tb_callV 4 sp_X4_otherThreadCount 1 <|
  tb_iret
def t_X4_threadsWithout_0 : am_T := tb_aload 0 <|
  tb_getR 4 1 <|
  tb_iload 1 <|
  tb_callV 1 sp_X1_isLine 2 <|
  tb_if (fun x => x ≠ 0) (t_X4_threadsWithout_13) <|
  tb_const (-1) <|
  tb_iret
def h_X4_threadsWithout : am_Hd := fun h => if h = 0 then t_X4_threadsWithout_0 else tb_bad
theorem h_X4_threadsWithout_0 : h_X4_threadsWithout 0 = t_X4_threadsWithout_0 := rfl
def rm_X4_threadsWithout : Room := { frames := 6, cells := 0, slots := 0, locals := 133 }
def sp_X4_threadsWithout : am_sp := fun as M Q => as.length ≤ 2 ∧ am_OK h_X4_threadsWithout Q 0 (am_in 2 as) M
theorem s_X4_threadsWithout_13 {G : am_G} {bc bs : Nat} (X : am_Cx G cX4_threadsWithout RX4 "threadsWithout" rm_X4_threadsWithout (some .int) 2 bc bs true) : am_S G 13 (t_X4_threadsWithout_13) := by
  unfold t_X4_threadsWithout_13
  refine as_aload_n (pc := 13) X dX4_threadsWithout_13 rfl ?_
  refine as_getR (ci := 4) (j := 6) (pc := 14) X (Cn := RX4) (Tf := TX4) (N := 7) rfl rfl (by decide) iw_X4 aw_280 rfl dX4_threadsWithout_14 ?_
  refine as_aload_n (pc := 17) X dX4_threadsWithout_17 rfl ?_
  refine as_getR (ci := 4) (j := 1) (pc := 18) X (Cn := RX4) (Tf := TX4) (N := 7) rfl rfl (by decide) iw_X4 aw_275 rfl dX4_threadsWithout_18 ?_
  refine as_callV (ci := 1) (np := 1) (ix := 238) (pc := 21) X ct_X1_copyFrom (Cn := (RX1, TX1, 14)) rfl ⟨rfl, rfl⟩ aw_652 aw_335 aw_336 aw_337 aw_61 (by decide +kernel) (by decide) dX4_threadsWithout_21 ?_
  refine as_aload_n (pc := 24) X dX4_threadsWithout_24 rfl ?_
  refine as_getR (ci := 4) (j := 6) (pc := 25) X (Cn := RX4) (Tf := TX4) (N := 7) rfl rfl (by decide) iw_X4 aw_280 rfl dX4_threadsWithout_25 ?_
  refine as_iload_n (pc := 28) X dX4_threadsWithout_28 rfl ?_
  refine as_callV (ci := 1) (np := 1) (ix := 96) (pc := 29) X ct_X1_removeLine (Cn := (RX1, TX1, 14)) rfl ⟨rfl, rfl⟩ aw_374 aw_375 aw_376 aw_377 aw_61 (by decide +kernel) (by decide) dX4_threadsWithout_29 ?_
  refine as_aload_n (pc := 32) X dX4_threadsWithout_32 rfl ?_
  refine as_callV (ci := 4) (np := 0) (ix := 241) (pc := 33) X ct_X4_otherThreadCount (Cn := (RX4, TX4, 7)) rfl ⟨rfl, rfl⟩ aw_653 aw_655 aw_17 aw_656 aw_59 (by decide +kernel) (by decide) dX4_threadsWithout_33 ?_
  exact as_iret (pc := 36) X ⟨rfl, rfl⟩ rfl dX4_threadsWithout_36
theorem s_X4_threadsWithout_0 {G : am_G} {bc bs : Nat} (X : am_Cx G cX4_threadsWithout RX4 "threadsWithout" rm_X4_threadsWithout (some .int) 2 bc bs true) : am_S G 0 (t_X4_threadsWithout_0) := by
  unfold t_X4_threadsWithout_0
  refine as_aload_n (pc := 0) X dX4_threadsWithout_0 rfl ?_
  refine as_getR (ci := 4) (j := 1) (pc := 1) X (Cn := RX4) (Tf := TX4) (N := 7) rfl rfl (by decide) iw_X4 aw_275 rfl dX4_threadsWithout_1 ?_
  refine as_iload_n (pc := 4) X dX4_threadsWithout_4 rfl ?_
  refine as_callV (ci := 1) (np := 1) (ix := 93) (pc := 5) X ct_X1_isLine (Cn := (RX1, TX1, 14)) rfl ⟨rfl, rfl⟩ aw_370 aw_371 aw_372 aw_373 aw_61 (by decide +kernel) (by decide) dX4_threadsWithout_5 ?_
  refine as_if_ne (pc := 8) X 13 dX4_threadsWithout_8 (by decide) (s_X4_threadsWithout_13 X) ?_
  refine as_iconst (pc := 11) X dX4_threadsWithout_11 (by decide) ?_
  exact as_iret (pc := 12) X ⟨rfl, rfl⟩ rfl dX4_threadsWithout_12
theorem s_X4_threadsWithout {G : am_G} {bc bs : Nat} (X : am_Cx G cX4_threadsWithout RX4 "threadsWithout" rm_X4_threadsWithout (some .int) 2 bc bs true) (h : Nat) : am_S G h (h_X4_threadsWithout h) := by
  unfold h_X4_threadsWithout
  split
  · next e => rw [e]; exact s_X4_threadsWithout_0 X
  exact as_bad
theorem ct_X4_threadsWithout : am_Ct yX4_threadsWithout cX4_threadsWithout 2 (some .int) rm_X4_threadsWithout sp_X4_threadsWithout := am_met (own := RX4) (nm := "threadsWithout") (by decide) rfl rfl (Or.inr (Or.inl rfl)) (fun _ _ => h_X4_threadsWithout) (fun _ _ _ X => s_X4_threadsWithout X) (fun _ _ _ _ h => h)
-- X5_threadsWithout
theorem dX5_threadsWithout_0 : decode cX5_threadsWithout 0 = .ok (.aload_n 0, 1) := by decide +kernel
theorem dX5_threadsWithout_1 : decode cX5_threadsWithout 1 = .ok (.iload_n 1, 1) := by decide +kernel
theorem dX5_threadsWithout_2 : decode cX5_threadsWithout 2 = .ok (.invokevirtual 138, 3) := by decide +kernel
theorem dX5_threadsWithout_5 : decode cX5_threadsWithout 5 = .ok (.ifCond .ne 5, 3) := by decide +kernel
theorem dX5_threadsWithout_8 : decode cX5_threadsWithout 8 = .ok (.iconst (-1), 1) := by decide +kernel
theorem dX5_threadsWithout_9 : decode cX5_threadsWithout 9 = .ok (.ireturn, 1) := by decide +kernel
theorem dX5_threadsWithout_10 : decode cX5_threadsWithout 10 = .ok (.aload_n 0, 1) := by decide +kernel
theorem dX5_threadsWithout_11 : decode cX5_threadsWithout 11 = .ok (.invokevirtual 199, 3) := by decide +kernel
theorem dX5_threadsWithout_14 : decode cX5_threadsWithout 14 = .ok (.aload_n 0, 1) := by decide +kernel
theorem dX5_threadsWithout_15 : decode cX5_threadsWithout 15 = .ok (.getfield 13, 3) := by decide +kernel
theorem dX5_threadsWithout_18 : decode cX5_threadsWithout 18 = .ok (.iload_n 1, 1) := by decide +kernel
theorem dX5_threadsWithout_19 : decode cX5_threadsWithout 19 = .ok (.invokestatic 142, 3) := by decide +kernel
theorem dX5_threadsWithout_22 : decode cX5_threadsWithout 22 = .ok (.aload_n 0, 1) := by decide +kernel
theorem dX5_threadsWithout_23 : decode cX5_threadsWithout 23 = .ok (.aload_n 0, 1) := by decide +kernel
theorem dX5_threadsWithout_24 : decode cX5_threadsWithout 24 = .ok (.getfield 13, 3) := by decide +kernel
theorem dX5_threadsWithout_27 : decode cX5_threadsWithout 27 = .ok (.invokevirtual 145, 3) := by decide +kernel
theorem dX5_threadsWithout_30 : decode cX5_threadsWithout 30 = .ok (.aload_n 0, 1) := by decide +kernel
theorem dX5_threadsWithout_31 : decode cX5_threadsWithout 31 = .ok (.getfield 117, 3) := by decide +kernel
theorem dX5_threadsWithout_34 : decode cX5_threadsWithout 34 = .ok (.ireturn, 1) := by decide +kernel
def t_X5_threadsWithout_10 : am_T := tb_aload 0 <|
  tb_callV 5 sp_X5_begins 1 <|
  tb_aload 0 <|
  tb_getR 5 1 <|
  tb_iload 1 <|
  tb_callS sp_X5_drops 2 <|
  tb_aload 0 <|
  tb_aload 0 <|
  tb_getR 5 1 <|
  tb_callV 5 sp_X5_lays 2 <|
  tb_aload 0 <|
  tb_getI 5 14 <|
  tb_iret
def t_X5_threadsWithout_0 : am_T := tb_aload 0 <|
  tb_iload 1 <|
  tb_callV 5 sp_X5_isLine 2 <|
  tb_if (fun x => x ≠ 0) (t_X5_threadsWithout_10) <|
  tb_const (-1) <|
  tb_iret
def h_X5_threadsWithout : am_Hd := fun h => if h = 0 then t_X5_threadsWithout_0 else tb_bad
theorem h_X5_threadsWithout_0 : h_X5_threadsWithout 0 = t_X5_threadsWithout_0 := rfl
def rm_X5_threadsWithout : Room := { frames := 6, cells := 0, slots := 0, locals := 145 }
def sp_X5_threadsWithout : am_sp := fun as M Q => as.length ≤ 2 ∧ am_OK h_X5_threadsWithout Q 0 (am_in 2 as) M
theorem s_X5_threadsWithout_10 {G : am_G} {bc bs : Nat} (X : am_Cx G cX5_threadsWithout RX5 "threadsWithout" rm_X5_threadsWithout (some .int) 2 bc bs true) : am_S G 10 (t_X5_threadsWithout_10) := by
  unfold t_X5_threadsWithout_10
  refine as_aload_n (pc := 10) X dX5_threadsWithout_10 rfl ?_
  refine as_callV (ci := 5) (np := 0) (ix := 199) (pc := 11) X ct_X5_begins (Cn := (RX5, TX5, 21)) rfl ⟨rfl, rfl⟩ aw_1038 aw_1040 aw_52 aw_1041 aw_65 (by decide +kernel) (by decide) dX5_threadsWithout_11 ?_
  refine as_aload_n (pc := 14) X dX5_threadsWithout_14 rfl ?_
  refine as_getR (ci := 5) (j := 1) (pc := 15) X (Cn := RX5) (Tf := TX5) (N := 21) rfl rfl (by decide) iw_X5 aw_739 rfl dX5_threadsWithout_15 ?_
  refine as_iload_n (pc := 18) X dX5_threadsWithout_18 rfl ?_
  refine as_callS (np := 2) (ix := 142) (pc := 19) X ct_X5_drops ⟨rfl, rfl⟩ aw_848 aw_849 aw_850 aw_65 (by decide +kernel) (by decide) dX5_threadsWithout_19 ?_
  refine as_aload_n (pc := 22) X dX5_threadsWithout_22 rfl ?_
  refine as_aload_n (pc := 23) X dX5_threadsWithout_23 rfl ?_
  refine as_getR (ci := 5) (j := 1) (pc := 24) X (Cn := RX5) (Tf := TX5) (N := 21) rfl rfl (by decide) iw_X5 aw_739 rfl dX5_threadsWithout_24 ?_
  refine as_callV (ci := 5) (np := 1) (ix := 145) (pc := 27) X ct_X5_lays (Cn := (RX5, TX5, 21)) rfl ⟨rfl, rfl⟩ aw_861 aw_863 aw_29 aw_864 aw_65 (by decide +kernel) (by decide) dX5_threadsWithout_27 ?_
  refine as_aload_n (pc := 30) X dX5_threadsWithout_30 rfl ?_
  refine as_getI (ci := 5) (j := 14) (pc := 31) X (Cn := RX5) (Tf := TX5) (N := 21) rfl rfl (by decide) iw_X5 aw_752 rfl dX5_threadsWithout_31 ?_
  exact as_iret (pc := 34) X ⟨rfl, rfl⟩ rfl dX5_threadsWithout_34
theorem s_X5_threadsWithout_0 {G : am_G} {bc bs : Nat} (X : am_Cx G cX5_threadsWithout RX5 "threadsWithout" rm_X5_threadsWithout (some .int) 2 bc bs true) : am_S G 0 (t_X5_threadsWithout_0) := by
  unfold t_X5_threadsWithout_0
  refine as_aload_n (pc := 0) X dX5_threadsWithout_0 rfl ?_
  refine as_iload_n (pc := 1) X dX5_threadsWithout_1 rfl ?_
  refine as_callV (ci := 5) (np := 1) (ix := 138) (pc := 2) X ct_X5_isLine (Cn := (RX5, TX5, 21)) rfl ⟨rfl, rfl⟩ aw_844 aw_846 aw_28 aw_847 aw_65 (by decide +kernel) (by decide) dX5_threadsWithout_2 ?_
  refine as_if_ne (pc := 5) X 10 dX5_threadsWithout_5 (by decide) (s_X5_threadsWithout_10 X) ?_
  refine as_iconst (pc := 8) X dX5_threadsWithout_8 (by decide) ?_
  exact as_iret (pc := 9) X ⟨rfl, rfl⟩ rfl dX5_threadsWithout_9
theorem s_X5_threadsWithout {G : am_G} {bc bs : Nat} (X : am_Cx G cX5_threadsWithout RX5 "threadsWithout" rm_X5_threadsWithout (some .int) 2 bc bs true) (h : Nat) : am_S G h (h_X5_threadsWithout h) := by
  unfold h_X5_threadsWithout
  split
  · next e => rw [e]; exact s_X5_threadsWithout_0 X
  exact as_bad
theorem ct_X5_threadsWithout : am_Ct yX5_threadsWithout cX5_threadsWithout 2 (some .int) rm_X5_threadsWithout sp_X5_threadsWithout := am_met (own := RX5) (nm := "threadsWithout") (by decide) rfl rfl (Or.inr (Or.inl rfl)) (fun _ _ => h_X5_threadsWithout) (fun _ _ _ X => s_X5_threadsWithout X) (fun _ _ _ _ h => h)
-- X3_scoreMatters
theorem dX3_scoreMatters_0 : decode cX3_scoreMatters 0 = .ok (.iconst 0, 1) := by decide +kernel
theorem dX3_scoreMatters_1 : decode cX3_scoreMatters 1 = .ok (.istore_n 2, 1) := by decide +kernel
theorem dX3_scoreMatters_2 : decode cX3_scoreMatters 2 = .ok (.iload_n 2, 1) := by decide +kernel
theorem dX3_scoreMatters_3 : decode cX3_scoreMatters 3 = .ok (.aload_n 0, 1) := by decide +kernel
theorem dX3_scoreMatters_4 : decode cX3_scoreMatters 4 = .ok (.getfield 12, 3) := by decide +kernel
theorem dX3_scoreMatters_7 : decode cX3_scoreMatters 7 = .ok (.getfield 71, 3) := by decide +kernel
theorem dX3_scoreMatters_10 : decode cX3_scoreMatters 10 = .ok (.if_icmp .ge 89, 3) := by decide +kernel
theorem dX3_scoreMatters_13 : decode cX3_scoreMatters 13 = .ok (.aload_n 0, 1) := by decide +kernel
theorem dX3_scoreMatters_14 : decode cX3_scoreMatters 14 = .ok (.getfield 37, 3) := by decide +kernel
theorem dX3_scoreMatters_17 : decode cX3_scoreMatters 17 = .ok (.iload_n 2, 1) := by decide +kernel
theorem dX3_scoreMatters_18 : decode cX3_scoreMatters 18 = .ok (.iaload, 1) := by decide +kernel
theorem dX3_scoreMatters_19 : decode cX3_scoreMatters 19 = .ok (.iconst (-1), 1) := by decide +kernel
theorem dX3_scoreMatters_20 : decode cX3_scoreMatters 20 = .ok (.if_icmp .eq 20, 3) := by decide +kernel
theorem dX3_scoreMatters_23 : decode cX3_scoreMatters 23 = .ok (.aload_n 0, 1) := by decide +kernel
theorem dX3_scoreMatters_24 : decode cX3_scoreMatters 24 = .ok (.iload_n 2, 1) := by decide +kernel
theorem dX3_scoreMatters_25 : decode cX3_scoreMatters 25 = .ok (.aload_n 0, 1) := by decide +kernel
theorem dX3_scoreMatters_26 : decode cX3_scoreMatters 26 = .ok (.getfield 37, 3) := by decide +kernel
theorem dX3_scoreMatters_29 : decode cX3_scoreMatters 29 = .ok (.iload_n 2, 1) := by decide +kernel
theorem dX3_scoreMatters_30 : decode cX3_scoreMatters 30 = .ok (.iaload, 1) := by decide +kernel
theorem dX3_scoreMatters_31 : decode cX3_scoreMatters 31 = .ok (.invokevirtual 137, 3) := by decide +kernel
theorem dX3_scoreMatters_34 : decode cX3_scoreMatters 34 = .ok (.iload_n 1, 1) := by decide +kernel
theorem dX3_scoreMatters_35 : decode cX3_scoreMatters 35 = .ok (.if_icmp .ne 5, 3) := by decide +kernel
theorem dX3_scoreMatters_38 : decode cX3_scoreMatters 38 = .ok (.iconst 1, 1) := by decide +kernel
theorem dX3_scoreMatters_39 : decode cX3_scoreMatters 39 = .ok (.ireturn, 1) := by decide +kernel
theorem dX3_scoreMatters_40 : decode cX3_scoreMatters 40 = .ok (.iconst 0, 1) := by decide +kernel
theorem dX3_scoreMatters_41 : decode cX3_scoreMatters 41 = .ok (.istore_n 3, 1) := by decide +kernel
theorem dX3_scoreMatters_42 : decode cX3_scoreMatters 42 = .ok (.aload_n 0, 1) := by decide +kernel
theorem dX3_scoreMatters_43 : decode cX3_scoreMatters 43 = .ok (.getfield 40, 3) := by decide +kernel
theorem dX3_scoreMatters_46 : decode cX3_scoreMatters 46 = .ok (.iload_n 2, 1) := by decide +kernel
theorem dX3_scoreMatters_47 : decode cX3_scoreMatters 47 = .ok (.iaload, 1) := by decide +kernel
theorem dX3_scoreMatters_48 : decode cX3_scoreMatters 48 = .ok (.ifCond .eq 45, 3) := by decide +kernel
theorem dX3_scoreMatters_51 : decode cX3_scoreMatters 51 = .ok (.iload_n 3, 1) := by decide +kernel
theorem dX3_scoreMatters_52 : decode cX3_scoreMatters 52 = .ok (.aload_n 0, 1) := by decide +kernel
theorem dX3_scoreMatters_53 : decode cX3_scoreMatters 53 = .ok (.getfield 12, 3) := by decide +kernel
theorem dX3_scoreMatters_56 : decode cX3_scoreMatters 56 = .ok (.getfield 71, 3) := by decide +kernel
theorem dX3_scoreMatters_59 : decode cX3_scoreMatters 59 = .ok (.if_icmp .ge 34, 3) := by decide +kernel
theorem dX3_scoreMatters_62 : decode cX3_scoreMatters 62 = .ok (.aload_n 0, 1) := by decide +kernel
theorem dX3_scoreMatters_63 : decode cX3_scoreMatters 63 = .ok (.getfield 40, 3) := by decide +kernel
theorem dX3_scoreMatters_66 : decode cX3_scoreMatters 66 = .ok (.iload_n 2, 1) := by decide +kernel
theorem dX3_scoreMatters_67 : decode cX3_scoreMatters 67 = .ok (.iaload, 1) := by decide +kernel
theorem dX3_scoreMatters_68 : decode cX3_scoreMatters 68 = .ok (.iload_n 3, 1) := by decide +kernel
theorem dX3_scoreMatters_69 : decode cX3_scoreMatters 69 = .ok (.invokestatic 119, 3) := by decide +kernel
theorem dX3_scoreMatters_72 : decode cX3_scoreMatters 72 = .ok (.ifCond .eq 15, 3) := by decide +kernel
theorem dX3_scoreMatters_75 : decode cX3_scoreMatters 75 = .ok (.aload_n 0, 1) := by decide +kernel
theorem dX3_scoreMatters_76 : decode cX3_scoreMatters 76 = .ok (.iload_n 2, 1) := by decide +kernel
theorem dX3_scoreMatters_77 : decode cX3_scoreMatters 77 = .ok (.iload_n 3, 1) := by decide +kernel
theorem dX3_scoreMatters_78 : decode cX3_scoreMatters 78 = .ok (.invokevirtual 137, 3) := by decide +kernel
theorem dX3_scoreMatters_81 : decode cX3_scoreMatters 81 = .ok (.iload_n 1, 1) := by decide +kernel
theorem dX3_scoreMatters_82 : decode cX3_scoreMatters 82 = .ok (.if_icmp .ne 5, 3) := by decide +kernel
theorem dX3_scoreMatters_85 : decode cX3_scoreMatters 85 = .ok (.iconst 1, 1) := by decide +kernel
theorem dX3_scoreMatters_86 : decode cX3_scoreMatters 86 = .ok (.ireturn, 1) := by decide +kernel
theorem dX3_scoreMatters_87 : decode cX3_scoreMatters 87 = .ok (.iinc 3 1, 3) := by decide +kernel
theorem dX3_scoreMatters_90 : decode cX3_scoreMatters 90 = .ok (.goto (-48), 3) := by decide +kernel
theorem dX3_scoreMatters_93 : decode cX3_scoreMatters 93 = .ok (.iinc 2 1, 3) := by decide +kernel
theorem dX3_scoreMatters_96 : decode cX3_scoreMatters 96 = .ok (.goto (-94), 3) := by decide +kernel
theorem dX3_scoreMatters_99 : decode cX3_scoreMatters 99 = .ok (.iconst 0, 1) := by decide +kernel
theorem dX3_scoreMatters_100 : decode cX3_scoreMatters 100 = .ok (.ireturn, 1) := by decide +kernel
def t_X3_scoreMatters_99 : am_T := tb_const 0 <|
  tb_zret
def t_X3_scoreMatters_93 : am_T := tb_iinc 2 1 <|
  tb_head 2
def t_X3_scoreMatters_87 : am_T := tb_iinc 3 1 <|
  tb_head 42
def t_X3_scoreMatters_42 : am_T := tb_aload 0 <|
  tb_getR 3 8 <|
  tb_iload 2 <|
  tb_iald <|
  tb_if (fun x => x = 0) (t_X3_scoreMatters_93) <|
  tb_iload 3 <|
  tb_aload 0 <|
  tb_getR 3 0 <|
  tb_getI 1 4 <|
  tb_ic (fun x y => y ≤ x) (t_X3_scoreMatters_93) <|
  tb_aload 0 <|
  tb_getR 3 8 <|
  tb_iload 2 <|
  tb_iald <|
  tb_iload 3 <|
  tb_callS sp_X4_isIn 2 <|
  tb_if (fun x => x = 0) (t_X3_scoreMatters_87) <|
  tb_aload 0 <|
  tb_iload 2 <|
  tb_iload 3 <|
  tb_callV 3 sp_X3_scoreFor 3 <|
  tb_iload 1 <|
  tb_ic (fun x y => x ≠ y) (t_X3_scoreMatters_87) <|
  tb_const 1 <|
  tb_zret
def t_X3_scoreMatters_40 : am_T := tb_const 0 <|
  tb_istore 3 <|
  tb_head 42
def t_X3_scoreMatters_2 : am_T := tb_iload 2 <|
  tb_aload 0 <|
  tb_getR 3 0 <|
  tb_getI 1 4 <|
  tb_ic (fun x y => y ≤ x) (t_X3_scoreMatters_99) <|
  tb_aload 0 <|
  tb_getR 3 7 <|
  tb_iload 2 <|
  tb_iald <|
  tb_const (-1) <|
  tb_ic (fun x y => x = y) (t_X3_scoreMatters_40) <|
  tb_aload 0 <|
  tb_iload 2 <|
  tb_aload 0 <|
  tb_getR 3 7 <|
  tb_iload 2 <|
  tb_iald <|
  tb_callV 3 sp_X3_scoreFor 3 <|
  tb_iload 1 <|
  tb_ic (fun x y => x ≠ y) (t_X3_scoreMatters_40) <|
  tb_const 1 <|
  tb_zret
def t_X3_scoreMatters_0 : am_T := tb_const 0 <|
  tb_istore 2 <|
  tb_head 2
def h_X3_scoreMatters : am_Hd := fun h => if h = 0 then t_X3_scoreMatters_0 else if h = 2 then t_X3_scoreMatters_2 else if h = 42 then t_X3_scoreMatters_42 else tb_bad
theorem h_X3_scoreMatters_0 : h_X3_scoreMatters 0 = t_X3_scoreMatters_0 := rfl
theorem h_X3_scoreMatters_2 : h_X3_scoreMatters 2 = t_X3_scoreMatters_2 := rfl
theorem h_X3_scoreMatters_42 : h_X3_scoreMatters 42 = t_X3_scoreMatters_42 := rfl
def rm_X3_scoreMatters : Room := { frames := 1, cells := 0, slots := 0, locals := 22 }
def sp_X3_scoreMatters : am_sp := fun as M Q => as.length ≤ 4 ∧ am_OK h_X3_scoreMatters Q 0 (am_in 4 as) M
theorem s_X3_scoreMatters_99 {G : am_G} {bc bs : Nat} (X : am_Cx G cX3_scoreMatters RX3 "scoreMatters" rm_X3_scoreMatters (some .boolean) 4 bc bs true) : am_S G 99 (t_X3_scoreMatters_99) := by
  unfold t_X3_scoreMatters_99
  refine as_iconst (pc := 99) X dX3_scoreMatters_99 (by decide) ?_
  exact as_zret (pc := 100) X ⟨rfl, rfl⟩ rfl dX3_scoreMatters_100
theorem s_X3_scoreMatters_93 {G : am_G} {bc bs : Nat} (X : am_Cx G cX3_scoreMatters RX3 "scoreMatters" rm_X3_scoreMatters (some .boolean) 4 bc bs true) : am_S G 93 (t_X3_scoreMatters_93) := by
  unfold t_X3_scoreMatters_93
  refine as_iinc (pc := 93) X dX3_scoreMatters_93 (by decide) (by decide) ?_
  exact as_goto (pc := 96) X 2 dX3_scoreMatters_96 (by decide) (as_head)
theorem s_X3_scoreMatters_87 {G : am_G} {bc bs : Nat} (X : am_Cx G cX3_scoreMatters RX3 "scoreMatters" rm_X3_scoreMatters (some .boolean) 4 bc bs true) : am_S G 87 (t_X3_scoreMatters_87) := by
  unfold t_X3_scoreMatters_87
  refine as_iinc (pc := 87) X dX3_scoreMatters_87 (by decide) (by decide) ?_
  exact as_goto (pc := 90) X 42 dX3_scoreMatters_90 (by decide) (as_head)
theorem s_X3_scoreMatters_42 {G : am_G} {bc bs : Nat} (X : am_Cx G cX3_scoreMatters RX3 "scoreMatters" rm_X3_scoreMatters (some .boolean) 4 bc bs true) : am_S G 42 (t_X3_scoreMatters_42) := by
  unfold t_X3_scoreMatters_42
  refine as_aload_n (pc := 42) X dX3_scoreMatters_42 rfl ?_
  refine as_getR (ci := 3) (j := 8) (pc := 43) X (Cn := RX3) (Tf := TX3) (N := 17) rfl rfl (by decide) iw_X3 aw_171 rfl dX3_scoreMatters_43 ?_
  refine as_iload_n (pc := 46) X dX3_scoreMatters_46 rfl ?_
  refine as_iald (pc := 47) X dX3_scoreMatters_47 ?_
  refine as_if_eq (pc := 48) X 93 dX3_scoreMatters_48 (by decide) (s_X3_scoreMatters_93 X) ?_
  refine as_iload_n (pc := 51) X dX3_scoreMatters_51 rfl ?_
  refine as_aload_n (pc := 52) X dX3_scoreMatters_52 rfl ?_
  refine as_getR (ci := 3) (j := 0) (pc := 53) X (Cn := RX3) (Tf := TX3) (N := 17) rfl rfl (by decide) iw_X3 aw_159 rfl dX3_scoreMatters_53 ?_
  refine as_getI (ci := 1) (j := 4) (pc := 56) X (Cn := RX1) (Tf := TX1) (N := 14) rfl rfl (by decide) iw_X1 aw_99 rfl dX3_scoreMatters_56 ?_
  refine as_ic_ge (pc := 59) X 93 dX3_scoreMatters_59 (by decide) (s_X3_scoreMatters_93 X) ?_
  refine as_aload_n (pc := 62) X dX3_scoreMatters_62 rfl ?_
  refine as_getR (ci := 3) (j := 8) (pc := 63) X (Cn := RX3) (Tf := TX3) (N := 17) rfl rfl (by decide) iw_X3 aw_171 rfl dX3_scoreMatters_63 ?_
  refine as_iload_n (pc := 66) X dX3_scoreMatters_66 rfl ?_
  refine as_iald (pc := 67) X dX3_scoreMatters_67 ?_
  refine as_iload_n (pc := 68) X dX3_scoreMatters_68 rfl ?_
  refine as_callSN (np := 2) (ix := 119) (pc := 69) X ct_X4_isIn ⟨rfl, rfl⟩ (host := RX4) (by simp [am_NW]) aw_406 aw_407 aw_59 (by decide +kernel) (by decide) dX3_scoreMatters_69 ?_
  refine as_if_eq (pc := 72) X 87 dX3_scoreMatters_72 (by decide) (s_X3_scoreMatters_87 X) ?_
  refine as_aload_n (pc := 75) X dX3_scoreMatters_75 rfl ?_
  refine as_iload_n (pc := 76) X dX3_scoreMatters_76 rfl ?_
  refine as_iload_n (pc := 77) X dX3_scoreMatters_77 rfl ?_
  refine as_callV (ci := 3) (np := 2) (ix := 137) (pc := 78) X ct_X3_scoreFor (Cn := (RX3, TX3, 17)) rfl ⟨rfl, rfl⟩ aw_443 aw_444 aw_445 aw_446 aw_60 (by decide +kernel) (by decide) dX3_scoreMatters_78 ?_
  refine as_iload_n (pc := 81) X dX3_scoreMatters_81 rfl ?_
  refine as_ic_ne (pc := 82) X 87 dX3_scoreMatters_82 (by decide) (s_X3_scoreMatters_87 X) ?_
  refine as_iconst (pc := 85) X dX3_scoreMatters_85 (by decide) ?_
  exact as_zret (pc := 86) X ⟨rfl, rfl⟩ rfl dX3_scoreMatters_86
theorem s_X3_scoreMatters_40 {G : am_G} {bc bs : Nat} (X : am_Cx G cX3_scoreMatters RX3 "scoreMatters" rm_X3_scoreMatters (some .boolean) 4 bc bs true) : am_S G 40 (t_X3_scoreMatters_40) := by
  unfold t_X3_scoreMatters_40
  refine as_iconst (pc := 40) X dX3_scoreMatters_40 (by decide) ?_
  refine as_istore_n (pc := 41) X dX3_scoreMatters_41 rfl ?_ (by decide)
  exact as_head
theorem s_X3_scoreMatters_2 {G : am_G} {bc bs : Nat} (X : am_Cx G cX3_scoreMatters RX3 "scoreMatters" rm_X3_scoreMatters (some .boolean) 4 bc bs true) : am_S G 2 (t_X3_scoreMatters_2) := by
  unfold t_X3_scoreMatters_2
  refine as_iload_n (pc := 2) X dX3_scoreMatters_2 rfl ?_
  refine as_aload_n (pc := 3) X dX3_scoreMatters_3 rfl ?_
  refine as_getR (ci := 3) (j := 0) (pc := 4) X (Cn := RX3) (Tf := TX3) (N := 17) rfl rfl (by decide) iw_X3 aw_159 rfl dX3_scoreMatters_4 ?_
  refine as_getI (ci := 1) (j := 4) (pc := 7) X (Cn := RX1) (Tf := TX1) (N := 14) rfl rfl (by decide) iw_X1 aw_99 rfl dX3_scoreMatters_7 ?_
  refine as_ic_ge (pc := 10) X 99 dX3_scoreMatters_10 (by decide) (s_X3_scoreMatters_99 X) ?_
  refine as_aload_n (pc := 13) X dX3_scoreMatters_13 rfl ?_
  refine as_getR (ci := 3) (j := 7) (pc := 14) X (Cn := RX3) (Tf := TX3) (N := 17) rfl rfl (by decide) iw_X3 aw_170 rfl dX3_scoreMatters_14 ?_
  refine as_iload_n (pc := 17) X dX3_scoreMatters_17 rfl ?_
  refine as_iald (pc := 18) X dX3_scoreMatters_18 ?_
  refine as_iconst (pc := 19) X dX3_scoreMatters_19 (by decide) ?_
  refine as_ic_eq (pc := 20) X 40 dX3_scoreMatters_20 (by decide) (s_X3_scoreMatters_40 X) ?_
  refine as_aload_n (pc := 23) X dX3_scoreMatters_23 rfl ?_
  refine as_iload_n (pc := 24) X dX3_scoreMatters_24 rfl ?_
  refine as_aload_n (pc := 25) X dX3_scoreMatters_25 rfl ?_
  refine as_getR (ci := 3) (j := 7) (pc := 26) X (Cn := RX3) (Tf := TX3) (N := 17) rfl rfl (by decide) iw_X3 aw_170 rfl dX3_scoreMatters_26 ?_
  refine as_iload_n (pc := 29) X dX3_scoreMatters_29 rfl ?_
  refine as_iald (pc := 30) X dX3_scoreMatters_30 ?_
  refine as_callV (ci := 3) (np := 2) (ix := 137) (pc := 31) X ct_X3_scoreFor (Cn := (RX3, TX3, 17)) rfl ⟨rfl, rfl⟩ aw_443 aw_444 aw_445 aw_446 aw_60 (by decide +kernel) (by decide) dX3_scoreMatters_31 ?_
  refine as_iload_n (pc := 34) X dX3_scoreMatters_34 rfl ?_
  refine as_ic_ne (pc := 35) X 40 dX3_scoreMatters_35 (by decide) (s_X3_scoreMatters_40 X) ?_
  refine as_iconst (pc := 38) X dX3_scoreMatters_38 (by decide) ?_
  exact as_zret (pc := 39) X ⟨rfl, rfl⟩ rfl dX3_scoreMatters_39
theorem s_X3_scoreMatters_0 {G : am_G} {bc bs : Nat} (X : am_Cx G cX3_scoreMatters RX3 "scoreMatters" rm_X3_scoreMatters (some .boolean) 4 bc bs true) : am_S G 0 (t_X3_scoreMatters_0) := by
  unfold t_X3_scoreMatters_0
  refine as_iconst (pc := 0) X dX3_scoreMatters_0 (by decide) ?_
  refine as_istore_n (pc := 1) X dX3_scoreMatters_1 rfl ?_ (by decide)
  exact as_head
theorem s_X3_scoreMatters {G : am_G} {bc bs : Nat} (X : am_Cx G cX3_scoreMatters RX3 "scoreMatters" rm_X3_scoreMatters (some .boolean) 4 bc bs true) (h : Nat) : am_S G h (h_X3_scoreMatters h) := by
  unfold h_X3_scoreMatters
  split
  · next e => rw [e]; exact s_X3_scoreMatters_0 X
  split
  · next e => rw [e]; exact s_X3_scoreMatters_2 X
  split
  · next e => rw [e]; exact s_X3_scoreMatters_42 X
  exact as_bad
theorem ct_X3_scoreMatters : am_Ct yX3_scoreMatters cX3_scoreMatters 4 (some .boolean) rm_X3_scoreMatters sp_X3_scoreMatters := am_met (own := RX3) (nm := "scoreMatters") (by decide) rfl rfl (Or.inr (Or.inr (Or.inl rfl))) (fun _ _ => h_X3_scoreMatters) (fun _ _ _ X => s_X3_scoreMatters X) (fun _ _ _ _ h => h)
-- X4_parting
theorem dX4_parting_0 : decode cX4_parting 0 = .ok (.aload_n 0, 1) := by decide +kernel
theorem dX4_parting_1 : decode cX4_parting 1 = .ok (.getfield 20, 3) := by decide +kernel
theorem dX4_parting_4 : decode cX4_parting 4 = .ok (.iload_n 1, 1) := by decide +kernel
theorem dX4_parting_5 : decode cX4_parting 5 = .ok (.invokevirtual 93, 3) := by decide +kernel
theorem dX4_parting_8 : decode cX4_parting 8 = .ok (.ifCond .eq 19, 3) := by decide +kernel
theorem dX4_parting_11 : decode cX4_parting 11 = .ok (.aload_n 0, 1) := by decide +kernel
theorem dX4_parting_12 : decode cX4_parting 12 = .ok (.getfield 20, 3) := by decide +kernel
theorem dX4_parting_15 : decode cX4_parting 15 = .ok (.iload_n 2, 1) := by decide +kernel
theorem dX4_parting_16 : decode cX4_parting 16 = .ok (.invokevirtual 93, 3) := by decide +kernel
theorem dX4_parting_19 : decode cX4_parting 19 = .ok (.ifCond .eq 8, 3) := by decide +kernel
theorem dX4_parting_22 : decode cX4_parting 22 = .ok (.iload_n 1, 1) := by decide +kernel
theorem dX4_parting_23 : decode cX4_parting 23 = .ok (.iload_n 2, 1) := by decide +kernel
theorem dX4_parting_24 : decode cX4_parting 24 = .ok (.if_icmp .ne 5, 3) := by decide +kernel
theorem dX4_parting_27 : decode cX4_parting 27 = .ok (.iconst (-1), 1) := by decide +kernel
theorem dX4_parting_28 : decode cX4_parting 28 = .ok (.ireturn, 1) := by decide +kernel
theorem dX4_parting_29 : decode cX4_parting 29 = .ok (.aload_n 0, 1) := by decide +kernel
theorem dX4_parting_30 : decode cX4_parting 30 = .ok (.getfield 42, 3) := by decide +kernel
theorem dX4_parting_33 : decode cX4_parting 33 = .ok (.aload_n 0, 1) := by decide +kernel
theorem dX4_parting_34 : decode cX4_parting 34 = .ok (.getfield 20, 3) := by decide +kernel
theorem dX4_parting_37 : decode cX4_parting 37 = .ok (.invokevirtual 238, 3) := by decide +kernel
theorem dX4_parting_40 : decode cX4_parting 40 = .ok (.aload_n 0, 1) := by decide +kernel
theorem dX4_parting_41 : decode cX4_parting 41 = .ok (.getfield 39, 3) := by decide +kernel
theorem dX4_parting_44 : decode cX4_parting 44 = .ok (.invokevirtual 244, 3) := by decide +kernel
theorem dX4_parting_47 : decode cX4_parting 47 = .ok (.iconst 0, 1) := by decide +kernel
theorem dX4_parting_48 : decode cX4_parting 48 = .ok (.istore_n 3, 1) := by decide +kernel
theorem dX4_parting_49 : decode cX4_parting 49 = .ok (.iload_n 3, 1) := by decide +kernel
theorem dX4_parting_50 : decode cX4_parting 50 = .ok (.getstatic 247, 3) := by decide +kernel
theorem dX4_parting_53 : decode cX4_parting 53 = .ok (.iconst 1, 1) := by decide +kernel
theorem dX4_parting_54 : decode cX4_parting 54 = .ok (.iaload, 1) := by decide +kernel
theorem dX4_parting_55 : decode cX4_parting 55 = .ok (.if_icmp .gt 66, 3) := by decide +kernel
theorem dX4_parting_58 : decode cX4_parting 58 = .ok (.iload_n 3, 1) := by decide +kernel
theorem dX4_parting_59 : decode cX4_parting 59 = .ok (.ifCond .eq 16, 3) := by decide +kernel
theorem dX4_parting_62 : decode cX4_parting 62 = .ok (.aload_n 0, 1) := by decide +kernel
theorem dX4_parting_63 : decode cX4_parting 63 = .ok (.getfield 39, 3) := by decide +kernel
theorem dX4_parting_66 : decode cX4_parting 66 = .ok (.iload_n 3, 1) := by decide +kernel
theorem dX4_parting_67 : decode cX4_parting 67 = .ok (.iconst 1, 1) := by decide +kernel
theorem dX4_parting_68 : decode cX4_parting 68 = .ok (.isub, 1) := by decide +kernel
theorem dX4_parting_69 : decode cX4_parting 69 = .ok (.invokevirtual 250, 3) := by decide +kernel
theorem dX4_parting_72 : decode cX4_parting 72 = .ok (.ifCond .eq 43, 3) := by decide +kernel
theorem dX4_parting_75 : decode cX4_parting 75 = .ok (.aload_n 0, 1) := by decide +kernel
theorem dX4_parting_76 : decode cX4_parting 76 = .ok (.getfield 42, 3) := by decide +kernel
theorem dX4_parting_79 : decode cX4_parting 79 = .ok (.getfield 155, 3) := by decide +kernel
theorem dX4_parting_82 : decode cX4_parting 82 = .ok (.iconst 1, 1) := by decide +kernel
theorem dX4_parting_83 : decode cX4_parting 83 = .ok (.iload_n 3, 1) := by decide +kernel
theorem dX4_parting_84 : decode cX4_parting 84 = .ok (.iastore, 1) := by decide +kernel
theorem dX4_parting_85 : decode cX4_parting 85 = .ok (.aload_n 0, 1) := by decide +kernel
theorem dX4_parting_86 : decode cX4_parting 86 = .ok (.getfield 39, 3) := by decide +kernel
theorem dX4_parting_89 : decode cX4_parting 89 = .ok (.invokevirtual 253, 3) := by decide +kernel
theorem dX4_parting_92 : decode cX4_parting 92 = .ok (.aload_n 0, 1) := by decide +kernel
theorem dX4_parting_93 : decode cX4_parting 93 = .ok (.getfield 39, 3) := by decide +kernel
theorem dX4_parting_96 : decode cX4_parting 96 = .ok (.getfield 123, 3) := by decide +kernel
theorem dX4_parting_99 : decode cX4_parting 99 = .ok (.iload_n 1, 1) := by decide +kernel
theorem dX4_parting_100 : decode cX4_parting 100 = .ok (.iaload, 1) := by decide +kernel
theorem dX4_parting_101 : decode cX4_parting 101 = .ok (.aload_n 0, 1) := by decide +kernel
theorem dX4_parting_102 : decode cX4_parting 102 = .ok (.getfield 39, 3) := by decide +kernel
theorem dX4_parting_105 : decode cX4_parting 105 = .ok (.getfield 123, 3) := by decide +kernel
theorem dX4_parting_108 : decode cX4_parting 108 = .ok (.iload_n 2, 1) := by decide +kernel
theorem dX4_parting_109 : decode cX4_parting 109 = .ok (.iaload, 1) := by decide +kernel
theorem dX4_parting_110 : decode cX4_parting 110 = .ok (.if_icmp .eq 5, 3) := by decide +kernel
theorem dX4_parting_113 : decode cX4_parting 113 = .ok (.iload_n 3, 1) := by decide +kernel
theorem dX4_parting_114 : decode cX4_parting 114 = .ok (.ireturn, 1) := by decide +kernel
theorem dX4_parting_115 : decode cX4_parting 115 = .ok (.iinc 3 1, 3) := by decide +kernel
theorem dX4_parting_118 : decode cX4_parting 118 = .ok (.goto (-69), 3) := by decide +kernel
theorem dX4_parting_121 : decode cX4_parting 121 = .ok (.bipush (-4), 2) := by decide +kernel
theorem dX4_parting_123 : decode cX4_parting 123 = .ok (.ireturn, 1) := by decide +kernel
def t_X4_parting_121 : am_T := tb_const (-4) <|
  tb_iret
def t_X4_parting_115 : am_T := tb_iinc 3 1 <|
  tb_head 49
def t_X4_parting_75 : am_T := tb_aload 0 <|
  tb_getR 4 6 <|
  tb_getR 1 13 <|
  tb_const 1 <|
  tb_iload 3 <|
  tb_iast <|
  tb_aload 0 <|
  tb_getR 4 5 <|
  tb_callV 3 sp_X3_follow 1 <|
  tb_aload 0 <|
  tb_getR 4 5 <|
  tb_getR 3 13 <|
  tb_iload 1 <|
  tb_iald <|
  tb_aload 0 <|
  tb_getR 4 5 <|
  tb_getR 3 13 <|
  tb_iload 2 <|
  tb_iald <|
  tb_ic (fun x y => x = y) (t_X4_parting_115) <|
  tb_iload 3 <|
  tb_iret
def t_X4_parting_49 : am_T := tb_iload 3 <|
  tb_stat 2 <|
  tb_const 1 <|
  tb_iald <|
  tb_ic (fun x y => y < x) (t_X4_parting_121) <|
  tb_iload 3 <|
  tb_if (fun x => x = 0) (t_X4_parting_75) <|
  tb_aload 0 <|
  tb_getR 4 5 <|
  tb_iload 3 <|
  tb_const 1 <|
  tb_bin (fun x y => x - y) <|
  tb_callV 3 sp_X3_scoreMatters 2 <|
  tb_if (fun x => x = 0) (t_X4_parting_115) <|
  t_X4_parting_75
def t_X4_parting_29 : am_T := tb_aload 0 <|
  tb_getR 4 6 <|
  tb_aload 0 <|
  tb_getR 4 1 <|
  tb_callV 1 sp_X1_copyFrom 2 <|
  tb_aload 0 <|
  tb_getR 4 5 <|
  tb_callV 3 sp_X3_rateAll 1 <|
  tb_const 0 <|
  tb_istore 3 <|
  tb_head 49
def t_X4_parting_27 : am_T := tb_const (-1) <|
  tb_iret
def t_X4_parting_0 : am_T := tb_aload 0 <|
  tb_getR 4 1 <|
  tb_iload 1 <|
  tb_callV 1 sp_X1_isLine 2 <|
  tb_if (fun x => x = 0) (t_X4_parting_27) <|
  tb_aload 0 <|
  tb_getR 4 1 <|
  tb_iload 2 <|
  tb_callV 1 sp_X1_isLine 2 <|
  tb_if (fun x => x = 0) (t_X4_parting_27) <|
  tb_iload 1 <|
  tb_iload 2 <|
  tb_ic (fun x y => x ≠ y) (t_X4_parting_29) <|
  t_X4_parting_27
def h_X4_parting : am_Hd := fun h => if h = 0 then t_X4_parting_0 else if h = 49 then t_X4_parting_49 else tb_bad
theorem h_X4_parting_0 : h_X4_parting 0 = t_X4_parting_0 := rfl
theorem h_X4_parting_49 : h_X4_parting 49 = t_X4_parting_49 := rfl
def rm_X4_parting : Room := { frames := 5, cells := 0, slots := 0, locals := 113 }
def sp_X4_parting : am_sp := fun as M Q => as.length ≤ 4 ∧ am_OK h_X4_parting Q 0 (am_in 4 as) M
theorem s_X4_parting_121 {G : am_G} {bc bs : Nat} (X : am_Cx G cX4_parting RX4 "parting" rm_X4_parting (some .int) 4 bc bs true) : am_S G 121 (t_X4_parting_121) := by
  unfold t_X4_parting_121
  refine as_bipush (pc := 121) X dX4_parting_121 (by decide) ?_
  exact as_iret (pc := 123) X ⟨rfl, rfl⟩ rfl dX4_parting_123
theorem s_X4_parting_115 {G : am_G} {bc bs : Nat} (X : am_Cx G cX4_parting RX4 "parting" rm_X4_parting (some .int) 4 bc bs true) : am_S G 115 (t_X4_parting_115) := by
  unfold t_X4_parting_115
  refine as_iinc (pc := 115) X dX4_parting_115 (by decide) (by decide) ?_
  exact as_goto (pc := 118) X 49 dX4_parting_118 (by decide) (as_head)
theorem s_X4_parting_75 {G : am_G} {bc bs : Nat} (X : am_Cx G cX4_parting RX4 "parting" rm_X4_parting (some .int) 4 bc bs true) : am_S G 75 (t_X4_parting_75) := by
  unfold t_X4_parting_75
  refine as_aload_n (pc := 75) X dX4_parting_75 rfl ?_
  refine as_getR (ci := 4) (j := 6) (pc := 76) X (Cn := RX4) (Tf := TX4) (N := 7) rfl rfl (by decide) iw_X4 aw_280 rfl dX4_parting_76 ?_
  refine as_getR (ci := 1) (j := 13) (pc := 79) X (Cn := RX1) (Tf := TX1) (N := 14) rfl rfl (by decide) iw_X1 aw_128 rfl dX4_parting_79 ?_
  refine as_iconst (pc := 82) X dX4_parting_82 (by decide) ?_
  refine as_iload_n (pc := 83) X dX4_parting_83 rfl ?_
  refine as_iast (pc := 84) X dX4_parting_84 ?_
  refine as_aload_n (pc := 85) X dX4_parting_85 rfl ?_
  refine as_getR (ci := 4) (j := 5) (pc := 86) X (Cn := RX4) (Tf := TX4) (N := 7) rfl rfl (by decide) iw_X4 aw_279 rfl dX4_parting_86 ?_
  refine as_callV (ci := 3) (np := 0) (ix := 253) (pc := 89) X ct_X3_follow (Cn := (RX3, TX3, 17)) rfl ⟨rfl, rfl⟩ aw_451 aw_452 aw_453 aw_454 aw_60 (by decide +kernel) (by decide) dX4_parting_89 ?_
  refine as_aload_n (pc := 92) X dX4_parting_92 rfl ?_
  refine as_getR (ci := 4) (j := 5) (pc := 93) X (Cn := RX4) (Tf := TX4) (N := 7) rfl rfl (by decide) iw_X4 aw_279 rfl dX4_parting_93 ?_
  refine as_getR (ci := 3) (j := 13) (pc := 96) X (Cn := RX3) (Tf := TX3) (N := 17) rfl rfl (by decide) iw_X3 aw_179 rfl dX4_parting_96 ?_
  refine as_iload_n (pc := 99) X dX4_parting_99 rfl ?_
  refine as_iald (pc := 100) X dX4_parting_100 ?_
  refine as_aload_n (pc := 101) X dX4_parting_101 rfl ?_
  refine as_getR (ci := 4) (j := 5) (pc := 102) X (Cn := RX4) (Tf := TX4) (N := 7) rfl rfl (by decide) iw_X4 aw_279 rfl dX4_parting_102 ?_
  refine as_getR (ci := 3) (j := 13) (pc := 105) X (Cn := RX3) (Tf := TX3) (N := 17) rfl rfl (by decide) iw_X3 aw_179 rfl dX4_parting_105 ?_
  refine as_iload_n (pc := 108) X dX4_parting_108 rfl ?_
  refine as_iald (pc := 109) X dX4_parting_109 ?_
  refine as_ic_eq (pc := 110) X 115 dX4_parting_110 (by decide) (s_X4_parting_115 X) ?_
  refine as_iload_n (pc := 113) X dX4_parting_113 rfl ?_
  exact as_iret (pc := 114) X ⟨rfl, rfl⟩ rfl dX4_parting_114
theorem s_X4_parting_49 {G : am_G} {bc bs : Nat} (X : am_Cx G cX4_parting RX4 "parting" rm_X4_parting (some .int) 4 bc bs true) : am_S G 49 (t_X4_parting_49) := by
  unfold t_X4_parting_49
  refine as_iload_n (pc := 49) X dX4_parting_49 rfl ?_
  refine as_stat2 (pc := 50) X aw_524 dX4_parting_50 ?_
  refine as_iconst (pc := 53) X dX4_parting_53 (by decide) ?_
  refine as_iald (pc := 54) X dX4_parting_54 ?_
  refine as_ic_gt (pc := 55) X 121 dX4_parting_55 (by decide) (s_X4_parting_121 X) ?_
  refine as_iload_n (pc := 58) X dX4_parting_58 rfl ?_
  refine as_if_eq (pc := 59) X 75 dX4_parting_59 (by decide) (s_X4_parting_75 X) ?_
  refine as_aload_n (pc := 62) X dX4_parting_62 rfl ?_
  refine as_getR (ci := 4) (j := 5) (pc := 63) X (Cn := RX4) (Tf := TX4) (N := 7) rfl rfl (by decide) iw_X4 aw_279 rfl dX4_parting_63 ?_
  refine as_iload_n (pc := 66) X dX4_parting_66 rfl ?_
  refine as_iconst (pc := 67) X dX4_parting_67 (by decide) ?_
  refine as_isub (pc := 68) X dX4_parting_68 ?_
  refine as_callV (ci := 3) (np := 1) (ix := 250) (pc := 69) X ct_X3_scoreMatters (Cn := (RX3, TX3, 17)) rfl ⟨rfl, rfl⟩ aw_665 aw_666 aw_667 aw_668 aw_60 (by decide +kernel) (by decide) dX4_parting_69 ?_
  refine as_if_eq (pc := 72) X 115 dX4_parting_72 (by decide) (s_X4_parting_115 X) ?_
  exact s_X4_parting_75 X
theorem s_X4_parting_29 {G : am_G} {bc bs : Nat} (X : am_Cx G cX4_parting RX4 "parting" rm_X4_parting (some .int) 4 bc bs true) : am_S G 29 (t_X4_parting_29) := by
  unfold t_X4_parting_29
  refine as_aload_n (pc := 29) X dX4_parting_29 rfl ?_
  refine as_getR (ci := 4) (j := 6) (pc := 30) X (Cn := RX4) (Tf := TX4) (N := 7) rfl rfl (by decide) iw_X4 aw_280 rfl dX4_parting_30 ?_
  refine as_aload_n (pc := 33) X dX4_parting_33 rfl ?_
  refine as_getR (ci := 4) (j := 1) (pc := 34) X (Cn := RX4) (Tf := TX4) (N := 7) rfl rfl (by decide) iw_X4 aw_275 rfl dX4_parting_34 ?_
  refine as_callV (ci := 1) (np := 1) (ix := 238) (pc := 37) X ct_X1_copyFrom (Cn := (RX1, TX1, 14)) rfl ⟨rfl, rfl⟩ aw_652 aw_335 aw_336 aw_337 aw_61 (by decide +kernel) (by decide) dX4_parting_37 ?_
  refine as_aload_n (pc := 40) X dX4_parting_40 rfl ?_
  refine as_getR (ci := 4) (j := 5) (pc := 41) X (Cn := RX4) (Tf := TX4) (N := 7) rfl rfl (by decide) iw_X4 aw_279 rfl dX4_parting_41 ?_
  refine as_callV (ci := 3) (np := 0) (ix := 244) (pc := 44) X ct_X3_rateAll (Cn := (RX3, TX3, 17)) rfl ⟨rfl, rfl⟩ aw_393 aw_394 aw_395 aw_396 aw_60 (by decide +kernel) (by decide) dX4_parting_44 ?_
  refine as_iconst (pc := 47) X dX4_parting_47 (by decide) ?_
  refine as_istore_n (pc := 48) X dX4_parting_48 rfl ?_ (by decide)
  exact as_head
theorem s_X4_parting_27 {G : am_G} {bc bs : Nat} (X : am_Cx G cX4_parting RX4 "parting" rm_X4_parting (some .int) 4 bc bs true) : am_S G 27 (t_X4_parting_27) := by
  unfold t_X4_parting_27
  refine as_iconst (pc := 27) X dX4_parting_27 (by decide) ?_
  exact as_iret (pc := 28) X ⟨rfl, rfl⟩ rfl dX4_parting_28
theorem s_X4_parting_0 {G : am_G} {bc bs : Nat} (X : am_Cx G cX4_parting RX4 "parting" rm_X4_parting (some .int) 4 bc bs true) : am_S G 0 (t_X4_parting_0) := by
  unfold t_X4_parting_0
  refine as_aload_n (pc := 0) X dX4_parting_0 rfl ?_
  refine as_getR (ci := 4) (j := 1) (pc := 1) X (Cn := RX4) (Tf := TX4) (N := 7) rfl rfl (by decide) iw_X4 aw_275 rfl dX4_parting_1 ?_
  refine as_iload_n (pc := 4) X dX4_parting_4 rfl ?_
  refine as_callV (ci := 1) (np := 1) (ix := 93) (pc := 5) X ct_X1_isLine (Cn := (RX1, TX1, 14)) rfl ⟨rfl, rfl⟩ aw_370 aw_371 aw_372 aw_373 aw_61 (by decide +kernel) (by decide) dX4_parting_5 ?_
  refine as_if_eq (pc := 8) X 27 dX4_parting_8 (by decide) (s_X4_parting_27 X) ?_
  refine as_aload_n (pc := 11) X dX4_parting_11 rfl ?_
  refine as_getR (ci := 4) (j := 1) (pc := 12) X (Cn := RX4) (Tf := TX4) (N := 7) rfl rfl (by decide) iw_X4 aw_275 rfl dX4_parting_12 ?_
  refine as_iload_n (pc := 15) X dX4_parting_15 rfl ?_
  refine as_callV (ci := 1) (np := 1) (ix := 93) (pc := 16) X ct_X1_isLine (Cn := (RX1, TX1, 14)) rfl ⟨rfl, rfl⟩ aw_370 aw_371 aw_372 aw_373 aw_61 (by decide +kernel) (by decide) dX4_parting_16 ?_
  refine as_if_eq (pc := 19) X 27 dX4_parting_19 (by decide) (s_X4_parting_27 X) ?_
  refine as_iload_n (pc := 22) X dX4_parting_22 rfl ?_
  refine as_iload_n (pc := 23) X dX4_parting_23 rfl ?_
  refine as_ic_ne (pc := 24) X 29 dX4_parting_24 (by decide) (s_X4_parting_29 X) ?_
  exact s_X4_parting_27 X
theorem s_X4_parting {G : am_G} {bc bs : Nat} (X : am_Cx G cX4_parting RX4 "parting" rm_X4_parting (some .int) 4 bc bs true) (h : Nat) : am_S G h (h_X4_parting h) := by
  unfold h_X4_parting
  split
  · next e => rw [e]; exact s_X4_parting_0 X
  split
  · next e => rw [e]; exact s_X4_parting_49 X
  exact as_bad
theorem ct_X4_parting : am_Ct yX4_parting cX4_parting 4 (some .int) rm_X4_parting sp_X4_parting := am_met (own := RX4) (nm := "parting") (by decide) rfl rfl (Or.inr (Or.inl rfl)) (fun _ _ => h_X4_parting) (fun _ _ _ X => s_X4_parting X) (fun _ _ _ _ h => h)
-- X5_parting
theorem dX5_parting_0 : decode cX5_parting 0 = .ok (.aload_n 0, 1) := by decide +kernel
theorem dX5_parting_1 : decode cX5_parting 1 = .ok (.iload_n 1, 1) := by decide +kernel
theorem dX5_parting_2 : decode cX5_parting 2 = .ok (.invokevirtual 138, 3) := by decide +kernel
theorem dX5_parting_5 : decode cX5_parting 5 = .ok (.ifCond .eq 16, 3) := by decide +kernel
theorem dX5_parting_8 : decode cX5_parting 8 = .ok (.aload_n 0, 1) := by decide +kernel
theorem dX5_parting_9 : decode cX5_parting 9 = .ok (.iload_n 2, 1) := by decide +kernel
theorem dX5_parting_10 : decode cX5_parting 10 = .ok (.invokevirtual 138, 3) := by decide +kernel
theorem dX5_parting_13 : decode cX5_parting 13 = .ok (.ifCond .eq 8, 3) := by decide +kernel
theorem dX5_parting_16 : decode cX5_parting 16 = .ok (.iload_n 1, 1) := by decide +kernel
theorem dX5_parting_17 : decode cX5_parting 17 = .ok (.iload_n 2, 1) := by decide +kernel
theorem dX5_parting_18 : decode cX5_parting 18 = .ok (.if_icmp .ne 5, 3) := by decide +kernel
theorem dX5_parting_21 : decode cX5_parting 21 = .ok (.iconst (-1), 1) := by decide +kernel
theorem dX5_parting_22 : decode cX5_parting 22 = .ok (.ireturn, 1) := by decide +kernel
theorem dX5_parting_23 : decode cX5_parting 23 = .ok (.aload_n 0, 1) := by decide +kernel
theorem dX5_parting_24 : decode cX5_parting 24 = .ok (.invokevirtual 199, 3) := by decide +kernel
theorem dX5_parting_27 : decode cX5_parting 27 = .ok (.aload_n 0, 1) := by decide +kernel
theorem dX5_parting_28 : decode cX5_parting 28 = .ok (.aload_n 0, 1) := by decide +kernel
theorem dX5_parting_29 : decode cX5_parting 29 = .ok (.getfield 13, 3) := by decide +kernel
theorem dX5_parting_32 : decode cX5_parting 32 = .ok (.invokevirtual 120, 3) := by decide +kernel
theorem dX5_parting_35 : decode cX5_parting 35 = .ok (.iconst 0, 1) := by decide +kernel
theorem dX5_parting_36 : decode cX5_parting 36 = .ok (.istore_n 3, 1) := by decide +kernel
theorem dX5_parting_37 : decode cX5_parting 37 = .ok (.iload_n 3, 1) := by decide +kernel
theorem dX5_parting_38 : decode cX5_parting 38 = .ok (.sipush 200, 3) := by decide +kernel
theorem dX5_parting_41 : decode cX5_parting 41 = .ok (.if_icmp .gt 41, 3) := by decide +kernel
theorem dX5_parting_44 : decode cX5_parting 44 = .ok (.aload_n 0, 1) := by decide +kernel
theorem dX5_parting_45 : decode cX5_parting 45 = .ok (.getfield 13, 3) := by decide +kernel
theorem dX5_parting_48 : decode cX5_parting 48 = .ok (.iconst 1, 1) := by decide +kernel
theorem dX5_parting_49 : decode cX5_parting 49 = .ok (.iload_n 3, 1) := by decide +kernel
theorem dX5_parting_50 : decode cX5_parting 50 = .ok (.iastore, 1) := by decide +kernel
theorem dX5_parting_51 : decode cX5_parting 51 = .ok (.aload_n 0, 1) := by decide +kernel
theorem dX5_parting_52 : decode cX5_parting 52 = .ok (.aload_n 0, 1) := by decide +kernel
theorem dX5_parting_53 : decode cX5_parting 53 = .ok (.getfield 13, 3) := by decide +kernel
theorem dX5_parting_56 : decode cX5_parting 56 = .ok (.invokevirtual 123, 3) := by decide +kernel
theorem dX5_parting_59 : decode cX5_parting 59 = .ok (.aload_n 0, 1) := by decide +kernel
theorem dX5_parting_60 : decode cX5_parting 60 = .ok (.getfield 37, 3) := by decide +kernel
theorem dX5_parting_63 : decode cX5_parting 63 = .ok (.iload_n 1, 1) := by decide +kernel
theorem dX5_parting_64 : decode cX5_parting 64 = .ok (.iaload, 1) := by decide +kernel
theorem dX5_parting_65 : decode cX5_parting 65 = .ok (.aload_n 0, 1) := by decide +kernel
theorem dX5_parting_66 : decode cX5_parting 66 = .ok (.getfield 37, 3) := by decide +kernel
theorem dX5_parting_69 : decode cX5_parting 69 = .ok (.iload_n 2, 1) := by decide +kernel
theorem dX5_parting_70 : decode cX5_parting 70 = .ok (.iaload, 1) := by decide +kernel
theorem dX5_parting_71 : decode cX5_parting 71 = .ok (.if_icmp .eq 5, 3) := by decide +kernel
theorem dX5_parting_74 : decode cX5_parting 74 = .ok (.iload_n 3, 1) := by decide +kernel
theorem dX5_parting_75 : decode cX5_parting 75 = .ok (.ireturn, 1) := by decide +kernel
theorem dX5_parting_76 : decode cX5_parting 76 = .ok (.iinc 3 1, 3) := by decide +kernel
theorem dX5_parting_79 : decode cX5_parting 79 = .ok (.goto (-42), 3) := by decide +kernel
theorem dX5_parting_82 : decode cX5_parting 82 = .ok (.bipush (-4), 2) := by decide +kernel
theorem dX5_parting_84 : decode cX5_parting 84 = .ok (.ireturn, 1) := by decide +kernel
def t_X5_parting_82 : am_T := tb_const (-4) <|
  tb_iret
def t_X5_parting_76 : am_T := tb_iinc 3 1 <|
  tb_head 37
def t_X5_parting_37 : am_T := tb_iload 3 <|
  tb_const 200 <|
  tb_ic (fun x y => y < x) (t_X5_parting_82) <|
  tb_aload 0 <|
  tb_getR 5 1 <|
  tb_const 1 <|
  tb_iload 3 <|
  tb_iast <|
  tb_aload 0 <|
  tb_aload 0 <|
  tb_getR 5 1 <|
  tb_callV 5 sp_X5_laysThreads 2 <|
  tb_aload 0 <|
  tb_getR 5 11 <|
  tb_iload 1 <|
  tb_iald <|
  tb_aload 0 <|
  tb_getR 5 11 <|
  tb_iload 2 <|
  tb_iald <|
  tb_ic (fun x y => x = y) (t_X5_parting_76) <|
  tb_iload 3 <|
  tb_iret
def t_X5_parting_23 : am_T := tb_aload 0 <|
  tb_callV 5 sp_X5_begins 1 <|
  tb_aload 0 <|
  tb_aload 0 <|
  tb_getR 5 1 <|
  tb_callV 5 sp_X5_laysScores 2 <|
  tb_const 0 <|
  tb_istore 3 <|
  tb_head 37
def t_X5_parting_21 : am_T := tb_const (-1) <|
  tb_iret
def t_X5_parting_0 : am_T := tb_aload 0 <|
  tb_iload 1 <|
  tb_callV 5 sp_X5_isLine 2 <|
  tb_if (fun x => x = 0) (t_X5_parting_21) <|
  tb_aload 0 <|
  tb_iload 2 <|
  tb_callV 5 sp_X5_isLine 2 <|
  tb_if (fun x => x = 0) (t_X5_parting_21) <|
  tb_iload 1 <|
  tb_iload 2 <|
  tb_ic (fun x y => x ≠ y) (t_X5_parting_23) <|
  t_X5_parting_21
def h_X5_parting : am_Hd := fun h => if h = 0 then t_X5_parting_0 else if h = 37 then t_X5_parting_37 else tb_bad
theorem h_X5_parting_0 : h_X5_parting 0 = t_X5_parting_0 := rfl
theorem h_X5_parting_37 : h_X5_parting 37 = t_X5_parting_37 := rfl
def rm_X5_parting : Room := { frames := 5, cells := 0, slots := 0, locals := 124 }
def sp_X5_parting : am_sp := fun as M Q => as.length ≤ 4 ∧ am_OK h_X5_parting Q 0 (am_in 4 as) M
theorem s_X5_parting_82 {G : am_G} {bc bs : Nat} (X : am_Cx G cX5_parting RX5 "parting" rm_X5_parting (some .int) 4 bc bs true) : am_S G 82 (t_X5_parting_82) := by
  unfold t_X5_parting_82
  refine as_bipush (pc := 82) X dX5_parting_82 (by decide) ?_
  exact as_iret (pc := 84) X ⟨rfl, rfl⟩ rfl dX5_parting_84
theorem s_X5_parting_76 {G : am_G} {bc bs : Nat} (X : am_Cx G cX5_parting RX5 "parting" rm_X5_parting (some .int) 4 bc bs true) : am_S G 76 (t_X5_parting_76) := by
  unfold t_X5_parting_76
  refine as_iinc (pc := 76) X dX5_parting_76 (by decide) (by decide) ?_
  exact as_goto (pc := 79) X 37 dX5_parting_79 (by decide) (as_head)
theorem s_X5_parting_37 {G : am_G} {bc bs : Nat} (X : am_Cx G cX5_parting RX5 "parting" rm_X5_parting (some .int) 4 bc bs true) : am_S G 37 (t_X5_parting_37) := by
  unfold t_X5_parting_37
  refine as_iload_n (pc := 37) X dX5_parting_37 rfl ?_
  refine as_sipush (pc := 38) X dX5_parting_38 (by decide) ?_
  refine as_ic_gt (pc := 41) X 82 dX5_parting_41 (by decide) (s_X5_parting_82 X) ?_
  refine as_aload_n (pc := 44) X dX5_parting_44 rfl ?_
  refine as_getR (ci := 5) (j := 1) (pc := 45) X (Cn := RX5) (Tf := TX5) (N := 21) rfl rfl (by decide) iw_X5 aw_739 rfl dX5_parting_45 ?_
  refine as_iconst (pc := 48) X dX5_parting_48 (by decide) ?_
  refine as_iload_n (pc := 49) X dX5_parting_49 rfl ?_
  refine as_iast (pc := 50) X dX5_parting_50 ?_
  refine as_aload_n (pc := 51) X dX5_parting_51 rfl ?_
  refine as_aload_n (pc := 52) X dX5_parting_52 rfl ?_
  refine as_getR (ci := 5) (j := 1) (pc := 53) X (Cn := RX5) (Tf := TX5) (N := 21) rfl rfl (by decide) iw_X5 aw_739 rfl dX5_parting_53 ?_
  refine as_callV (ci := 5) (np := 1) (ix := 123) (pc := 56) X ct_X5_laysThreads (Cn := (RX5, TX5, 21)) rfl ⟨rfl, rfl⟩ aw_886 aw_888 aw_33 aw_889 aw_65 (by decide +kernel) (by decide) dX5_parting_56 ?_
  refine as_aload_n (pc := 59) X dX5_parting_59 rfl ?_
  refine as_getR (ci := 5) (j := 11) (pc := 60) X (Cn := RX5) (Tf := TX5) (N := 21) rfl rfl (by decide) iw_X5 aw_749 rfl dX5_parting_60 ?_
  refine as_iload_n (pc := 63) X dX5_parting_63 rfl ?_
  refine as_iald (pc := 64) X dX5_parting_64 ?_
  refine as_aload_n (pc := 65) X dX5_parting_65 rfl ?_
  refine as_getR (ci := 5) (j := 11) (pc := 66) X (Cn := RX5) (Tf := TX5) (N := 21) rfl rfl (by decide) iw_X5 aw_749 rfl dX5_parting_66 ?_
  refine as_iload_n (pc := 69) X dX5_parting_69 rfl ?_
  refine as_iald (pc := 70) X dX5_parting_70 ?_
  refine as_ic_eq (pc := 71) X 76 dX5_parting_71 (by decide) (s_X5_parting_76 X) ?_
  refine as_iload_n (pc := 74) X dX5_parting_74 rfl ?_
  exact as_iret (pc := 75) X ⟨rfl, rfl⟩ rfl dX5_parting_75
theorem s_X5_parting_23 {G : am_G} {bc bs : Nat} (X : am_Cx G cX5_parting RX5 "parting" rm_X5_parting (some .int) 4 bc bs true) : am_S G 23 (t_X5_parting_23) := by
  unfold t_X5_parting_23
  refine as_aload_n (pc := 23) X dX5_parting_23 rfl ?_
  refine as_callV (ci := 5) (np := 0) (ix := 199) (pc := 24) X ct_X5_begins (Cn := (RX5, TX5, 21)) rfl ⟨rfl, rfl⟩ aw_1038 aw_1040 aw_52 aw_1041 aw_65 (by decide +kernel) (by decide) dX5_parting_24 ?_
  refine as_aload_n (pc := 27) X dX5_parting_27 rfl ?_
  refine as_aload_n (pc := 28) X dX5_parting_28 rfl ?_
  refine as_getR (ci := 5) (j := 1) (pc := 29) X (Cn := RX5) (Tf := TX5) (N := 21) rfl rfl (by decide) iw_X5 aw_739 rfl dX5_parting_29 ?_
  refine as_callV (ci := 5) (np := 1) (ix := 120) (pc := 32) X ct_X5_laysScores (Cn := (RX5, TX5, 21)) rfl ⟨rfl, rfl⟩ aw_865 aw_867 aw_30 aw_868 aw_65 (by decide +kernel) (by decide) dX5_parting_32 ?_
  refine as_iconst (pc := 35) X dX5_parting_35 (by decide) ?_
  refine as_istore_n (pc := 36) X dX5_parting_36 rfl ?_ (by decide)
  exact as_head
theorem s_X5_parting_21 {G : am_G} {bc bs : Nat} (X : am_Cx G cX5_parting RX5 "parting" rm_X5_parting (some .int) 4 bc bs true) : am_S G 21 (t_X5_parting_21) := by
  unfold t_X5_parting_21
  refine as_iconst (pc := 21) X dX5_parting_21 (by decide) ?_
  exact as_iret (pc := 22) X ⟨rfl, rfl⟩ rfl dX5_parting_22
theorem s_X5_parting_0 {G : am_G} {bc bs : Nat} (X : am_Cx G cX5_parting RX5 "parting" rm_X5_parting (some .int) 4 bc bs true) : am_S G 0 (t_X5_parting_0) := by
  unfold t_X5_parting_0
  refine as_aload_n (pc := 0) X dX5_parting_0 rfl ?_
  refine as_iload_n (pc := 1) X dX5_parting_1 rfl ?_
  refine as_callV (ci := 5) (np := 1) (ix := 138) (pc := 2) X ct_X5_isLine (Cn := (RX5, TX5, 21)) rfl ⟨rfl, rfl⟩ aw_844 aw_846 aw_28 aw_847 aw_65 (by decide +kernel) (by decide) dX5_parting_2 ?_
  refine as_if_eq (pc := 5) X 21 dX5_parting_5 (by decide) (s_X5_parting_21 X) ?_
  refine as_aload_n (pc := 8) X dX5_parting_8 rfl ?_
  refine as_iload_n (pc := 9) X dX5_parting_9 rfl ?_
  refine as_callV (ci := 5) (np := 1) (ix := 138) (pc := 10) X ct_X5_isLine (Cn := (RX5, TX5, 21)) rfl ⟨rfl, rfl⟩ aw_844 aw_846 aw_28 aw_847 aw_65 (by decide +kernel) (by decide) dX5_parting_10 ?_
  refine as_if_eq (pc := 13) X 21 dX5_parting_13 (by decide) (s_X5_parting_21 X) ?_
  refine as_iload_n (pc := 16) X dX5_parting_16 rfl ?_
  refine as_iload_n (pc := 17) X dX5_parting_17 rfl ?_
  refine as_ic_ne (pc := 18) X 23 dX5_parting_18 (by decide) (s_X5_parting_23 X) ?_
  exact s_X5_parting_21 X
theorem s_X5_parting {G : am_G} {bc bs : Nat} (X : am_Cx G cX5_parting RX5 "parting" rm_X5_parting (some .int) 4 bc bs true) (h : Nat) : am_S G h (h_X5_parting h) := by
  unfold h_X5_parting
  split
  · next e => rw [e]; exact s_X5_parting_0 X
  split
  · next e => rw [e]; exact s_X5_parting_37 X
  exact as_bad
theorem ct_X5_parting : am_Ct yX5_parting cX5_parting 4 (some .int) rm_X5_parting sp_X5_parting := am_met (own := RX5) (nm := "parting") (by decide) rfl rfl (Or.inr (Or.inl rfl)) (fun _ _ => h_X5_parting) (fun _ _ _ X => s_X5_parting X) (fun _ _ _ _ h => h)
-- X2_add
theorem dX2_add_0 : decode cX2_add 0 = .ok (.aload_n 0, 1) := by decide +kernel
theorem dX2_add_1 : decode cX2_add 1 = .ok (.getfield 9, 3) := by decide +kernel
theorem dX2_add_4 : decode cX2_add 4 = .ok (.bipush 80, 2) := by decide +kernel
theorem dX2_add_6 : decode cX2_add 6 = .ok (.if_icmp .ge 23, 3) := by decide +kernel
theorem dX2_add_9 : decode cX2_add 9 = .ok (.aload_n 0, 1) := by decide +kernel
theorem dX2_add_10 : decode cX2_add 10 = .ok (.getfield 15, 3) := by decide +kernel
theorem dX2_add_13 : decode cX2_add 13 = .ok (.aload_n 0, 1) := by decide +kernel
theorem dX2_add_14 : decode cX2_add 14 = .ok (.getfield 9, 3) := by decide +kernel
theorem dX2_add_17 : decode cX2_add 17 = .ok (.iload_n 1, 1) := by decide +kernel
theorem dX2_add_18 : decode cX2_add 18 = .ok (.castore, 1) := by decide +kernel
theorem dX2_add_19 : decode cX2_add 19 = .ok (.aload_n 0, 1) := by decide +kernel
theorem dX2_add_20 : decode cX2_add 20 = .ok (.dup, 1) := by decide +kernel
theorem dX2_add_21 : decode cX2_add 21 = .ok (.getfield 9, 3) := by decide +kernel
theorem dX2_add_24 : decode cX2_add 24 = .ok (.iconst 1, 1) := by decide +kernel
theorem dX2_add_25 : decode cX2_add 25 = .ok (.iadd, 1) := by decide +kernel
theorem dX2_add_26 : decode cX2_add 26 = .ok (.putfield 9, 3) := by decide +kernel
theorem dX2_add_29 : decode cX2_add 29 = .ok (.return_, 1) := by decide +kernel
def t_X2_add_29 : am_T := tb_ret
def t_X2_add_0 : am_T := tb_aload 0 <|
  tb_getI 2 0 <|
  tb_const 80 <|
  tb_ic (fun x y => y ≤ x) (t_X2_add_29) <|
  tb_aload 0 <|
  tb_getR 2 1 <|
  tb_aload 0 <|
  tb_getI 2 0 <|
  tb_iload 1 <|
  tb_cast <|
  tb_aload 0 <|
  tb_dup <|
  tb_getI 2 0 <|
  tb_const 1 <|
  tb_bin (fun x y => x + y) <|
  tb_putI 2 0 <|
  t_X2_add_29
def h_X2_add : am_Hd := fun h => if h = 0 then t_X2_add_0 else tb_bad
theorem h_X2_add_0 : h_X2_add 0 = t_X2_add_0 := rfl
def rm_X2_add : Room := { frames := 0, cells := 0, slots := 0, locals := 0 }
def sp_X2_add : am_sp := fun as M Q => as.length ≤ 2 ∧ am_OK h_X2_add Q 0 (am_in 2 as) M
theorem s_X2_add_29 {G : am_G} {bc bs : Nat} (X : am_Cx G cX2_add RX2 "add" rm_X2_add none 2 bc bs true) : am_S G 29 (t_X2_add_29) := by
  unfold t_X2_add_29
  exact as_ret (pc := 29) X ⟨rfl, rfl⟩ rfl dX2_add_29
theorem s_X2_add_0 {G : am_G} {bc bs : Nat} (X : am_Cx G cX2_add RX2 "add" rm_X2_add none 2 bc bs true) : am_S G 0 (t_X2_add_0) := by
  unfold t_X2_add_0
  refine as_aload_n (pc := 0) X dX2_add_0 rfl ?_
  refine as_getI (ci := 2) (j := 0) (pc := 1) X (Cn := RX2) (Tf := TX2) (N := 8) rfl rfl (by decide) iw_X2 aw_244 rfl dX2_add_1 ?_
  refine as_bipush (pc := 4) X dX2_add_4 (by decide) ?_
  refine as_ic_ge (pc := 6) X 29 dX2_add_6 (by decide) (s_X2_add_29 X) ?_
  refine as_aload_n (pc := 9) X dX2_add_9 rfl ?_
  refine as_getR (ci := 2) (j := 1) (pc := 10) X (Cn := RX2) (Tf := TX2) (N := 8) rfl rfl (by decide) iw_X2 aw_246 rfl dX2_add_10 ?_
  refine as_aload_n (pc := 13) X dX2_add_13 rfl ?_
  refine as_getI (ci := 2) (j := 0) (pc := 14) X (Cn := RX2) (Tf := TX2) (N := 8) rfl rfl (by decide) iw_X2 aw_244 rfl dX2_add_14 ?_
  refine as_iload_n (pc := 17) X dX2_add_17 rfl ?_
  refine as_cast (pc := 18) X dX2_add_18 ?_
  refine as_aload_n (pc := 19) X dX2_add_19 rfl ?_
  refine as_dup (pc := 20) X dX2_add_20 ?_
  refine as_getI (ci := 2) (j := 0) (pc := 21) X (Cn := RX2) (Tf := TX2) (N := 8) rfl rfl (by decide) iw_X2 aw_244 rfl dX2_add_21 ?_
  refine as_iconst (pc := 24) X dX2_add_24 (by decide) ?_
  refine as_iadd (pc := 25) X dX2_add_25 ?_
  refine as_putI (ci := 2) (j := 0) (pc := 26) X (Cn := RX2) (Tf := TX2) (N := 8) rfl rfl (by decide) iw_X2 aw_244 tyX2 tyX2_ok nmX2 rfl rfl (by decide +kernel) dX2_add_26 ?_
  exact s_X2_add_29 X
theorem s_X2_add {G : am_G} {bc bs : Nat} (X : am_Cx G cX2_add RX2 "add" rm_X2_add none 2 bc bs true) (h : Nat) : am_S G h (h_X2_add h) := by
  unfold h_X2_add
  split
  · next e => rw [e]; exact s_X2_add_0 X
  exact as_bad
theorem ct_X2_add : am_Ct yX2_add cX2_add 2 none rm_X2_add sp_X2_add := am_met (own := RX2) (nm := "add") (by decide) rfl rfl (Or.inl rfl) (fun _ _ => h_X2_add) (fun _ _ _ X => s_X2_add X) (fun _ _ _ _ h => h)
-- X4_type
theorem dX4_type_0 : decode cX4_type 0 = .ok (.iload_n 1, 1) := by decide +kernel
theorem dX4_type_1 : decode cX4_type 1 = .ok (.bipush 32, 2) := by decide +kernel
theorem dX4_type_3 : decode cX4_type 3 = .ok (.if_icmp .lt 9, 3) := by decide +kernel
theorem dX4_type_6 : decode cX4_type 6 = .ok (.iload_n 1, 1) := by decide +kernel
theorem dX4_type_7 : decode cX4_type 7 = .ok (.bipush 126, 2) := by decide +kernel
theorem dX4_type_9 : decode cX4_type 9 = .ok (.if_icmp .le 5, 3) := by decide +kernel
theorem dX4_type_12 : decode cX4_type 12 = .ok (.iconst (-1), 1) := by decide +kernel
theorem dX4_type_13 : decode cX4_type 13 = .ok (.ireturn, 1) := by decide +kernel
theorem dX4_type_14 : decode cX4_type 14 = .ok (.aload_n 0, 1) := by decide +kernel
theorem dX4_type_15 : decode cX4_type 15 = .ok (.getfield 35, 3) := by decide +kernel
theorem dX4_type_18 : decode cX4_type 18 = .ok (.getfield 173, 3) := by decide +kernel
theorem dX4_type_21 : decode cX4_type 21 = .ok (.bipush 80, 2) := by decide +kernel
theorem dX4_type_23 : decode cX4_type 23 = .ok (.if_icmp .lt 6, 3) := by decide +kernel
theorem dX4_type_26 : decode cX4_type 26 = .ok (.bipush (-3), 2) := by decide +kernel
theorem dX4_type_28 : decode cX4_type 28 = .ok (.ireturn, 1) := by decide +kernel
theorem dX4_type_29 : decode cX4_type 29 = .ok (.aload_n 0, 1) := by decide +kernel
theorem dX4_type_30 : decode cX4_type 30 = .ok (.getfield 35, 3) := by decide +kernel
theorem dX4_type_33 : decode cX4_type 33 = .ok (.iload_n 1, 1) := by decide +kernel
theorem dX4_type_34 : decode cX4_type 34 = .ok (.i2c, 1) := by decide +kernel
theorem dX4_type_35 : decode cX4_type 35 = .ok (.invokevirtual 256, 3) := by decide +kernel
theorem dX4_type_38 : decode cX4_type 38 = .ok (.aload_n 0, 1) := by decide +kernel
theorem dX4_type_39 : decode cX4_type 39 = .ok (.getfield 35, 3) := by decide +kernel
theorem dX4_type_42 : decode cX4_type 42 = .ok (.getfield 173, 3) := by decide +kernel
theorem dX4_type_45 : decode cX4_type 45 = .ok (.ireturn, 1) := by decide +kernel
def t_X4_type_29 : am_T := tb_aload 0 <|
  tb_getR 4 4 <|
  tb_iload 1 <|
  tb_i2c <|
  tb_callV 2 sp_X2_add 2 <|
  tb_aload 0 <|
  tb_getR 4 4 <|
  tb_getI 2 0 <|
  tb_iret
def t_X4_type_14 : am_T := tb_aload 0 <|
  tb_getR 4 4 <|
  tb_getI 2 0 <|
  tb_const 80 <|
  tb_ic (fun x y => x < y) (t_X4_type_29) <|
  tb_const (-3) <|
  tb_iret
def t_X4_type_12 : am_T := tb_const (-1) <|
  tb_iret
def t_X4_type_0 : am_T := tb_iload 1 <|
  tb_const 32 <|
  tb_ic (fun x y => x < y) (t_X4_type_12) <|
  tb_iload 1 <|
  tb_const 126 <|
  tb_ic (fun x y => x ≤ y) (t_X4_type_14) <|
  t_X4_type_12
def h_X4_type : am_Hd := fun h => if h = 0 then t_X4_type_0 else tb_bad
theorem h_X4_type_0 : h_X4_type 0 = t_X4_type_0 := rfl
def rm_X4_type : Room := { frames := 1, cells := 0, slots := 0, locals := 21 }
def sp_X4_type : am_sp := fun as M Q => as.length ≤ 2 ∧ am_OK h_X4_type Q 0 (am_in 2 as) M
theorem s_X4_type_29 {G : am_G} {bc bs : Nat} (X : am_Cx G cX4_type RX4 "type" rm_X4_type (some .int) 2 bc bs true) : am_S G 29 (t_X4_type_29) := by
  unfold t_X4_type_29
  refine as_aload_n (pc := 29) X dX4_type_29 rfl ?_
  refine as_getR (ci := 4) (j := 4) (pc := 30) X (Cn := RX4) (Tf := TX4) (N := 7) rfl rfl (by decide) iw_X4 aw_278 rfl dX4_type_30 ?_
  refine as_iload_n (pc := 33) X dX4_type_33 rfl ?_
  refine as_i2c (pc := 34) X dX4_type_34 ?_
  refine as_callV (ci := 2) (np := 1) (ix := 256) (pc := 35) X ct_X2_add (Cn := (RX2, TX2, 8)) rfl ⟨rfl, rfl⟩ aw_673 aw_674 aw_675 aw_676 aw_64 (by decide +kernel) (by decide) dX4_type_35 ?_
  refine as_aload_n (pc := 38) X dX4_type_38 rfl ?_
  refine as_getR (ci := 4) (j := 4) (pc := 39) X (Cn := RX4) (Tf := TX4) (N := 7) rfl rfl (by decide) iw_X4 aw_278 rfl dX4_type_39 ?_
  refine as_getI (ci := 2) (j := 0) (pc := 42) X (Cn := RX2) (Tf := TX2) (N := 8) rfl rfl (by decide) iw_X2 aw_245 rfl dX4_type_42 ?_
  exact as_iret (pc := 45) X ⟨rfl, rfl⟩ rfl dX4_type_45
theorem s_X4_type_14 {G : am_G} {bc bs : Nat} (X : am_Cx G cX4_type RX4 "type" rm_X4_type (some .int) 2 bc bs true) : am_S G 14 (t_X4_type_14) := by
  unfold t_X4_type_14
  refine as_aload_n (pc := 14) X dX4_type_14 rfl ?_
  refine as_getR (ci := 4) (j := 4) (pc := 15) X (Cn := RX4) (Tf := TX4) (N := 7) rfl rfl (by decide) iw_X4 aw_278 rfl dX4_type_15 ?_
  refine as_getI (ci := 2) (j := 0) (pc := 18) X (Cn := RX2) (Tf := TX2) (N := 8) rfl rfl (by decide) iw_X2 aw_245 rfl dX4_type_18 ?_
  refine as_bipush (pc := 21) X dX4_type_21 (by decide) ?_
  refine as_ic_lt (pc := 23) X 29 dX4_type_23 (by decide) (s_X4_type_29 X) ?_
  refine as_bipush (pc := 26) X dX4_type_26 (by decide) ?_
  exact as_iret (pc := 28) X ⟨rfl, rfl⟩ rfl dX4_type_28
theorem s_X4_type_12 {G : am_G} {bc bs : Nat} (X : am_Cx G cX4_type RX4 "type" rm_X4_type (some .int) 2 bc bs true) : am_S G 12 (t_X4_type_12) := by
  unfold t_X4_type_12
  refine as_iconst (pc := 12) X dX4_type_12 (by decide) ?_
  exact as_iret (pc := 13) X ⟨rfl, rfl⟩ rfl dX4_type_13
theorem s_X4_type_0 {G : am_G} {bc bs : Nat} (X : am_Cx G cX4_type RX4 "type" rm_X4_type (some .int) 2 bc bs true) : am_S G 0 (t_X4_type_0) := by
  unfold t_X4_type_0
  refine as_iload_n (pc := 0) X dX4_type_0 rfl ?_
  refine as_bipush (pc := 1) X dX4_type_1 (by decide) ?_
  refine as_ic_lt (pc := 3) X 12 dX4_type_3 (by decide) (s_X4_type_12 X) ?_
  refine as_iload_n (pc := 6) X dX4_type_6 rfl ?_
  refine as_bipush (pc := 7) X dX4_type_7 (by decide) ?_
  refine as_ic_le (pc := 9) X 14 dX4_type_9 (by decide) (s_X4_type_14 X) ?_
  exact s_X4_type_12 X
theorem s_X4_type {G : am_G} {bc bs : Nat} (X : am_Cx G cX4_type RX4 "type" rm_X4_type (some .int) 2 bc bs true) (h : Nat) : am_S G h (h_X4_type h) := by
  unfold h_X4_type
  split
  · next e => rw [e]; exact s_X4_type_0 X
  exact as_bad
theorem ct_X4_type : am_Ct yX4_type cX4_type 2 (some .int) rm_X4_type sp_X4_type := am_met (own := RX4) (nm := "type") (by decide) rfl rfl (Or.inr (Or.inl rfl)) (fun _ _ => h_X4_type) (fun _ _ _ X => s_X4_type X) (fun _ _ _ _ h => h)
