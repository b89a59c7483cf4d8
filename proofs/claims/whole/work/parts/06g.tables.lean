-- X4_score
theorem dX4_score_0 : decode cX4_score 0 = .ok (.aload_n 0, 1) := by decide +kernel
theorem dX4_score_1 : decode cX4_score 1 = .ok (.getfield 20, 3) := by decide +kernel
theorem dX4_score_4 : decode cX4_score 4 = .ok (.iload_n 1, 1) := by decide +kernel
theorem dX4_score_5 : decode cX4_score 5 = .ok (.invokevirtual 93, 3) := by decide +kernel
theorem dX4_score_8 : decode cX4_score 8 = .ok (.ifCond .eq 14, 3) := by decide +kernel
theorem dX4_score_11 : decode cX4_score 11 = .ok (.aload_n 0, 1) := by decide +kernel
theorem dX4_score_12 : decode cX4_score 12 = .ok (.getfield 20, 3) := by decide +kernel
theorem dX4_score_15 : decode cX4_score 15 = .ok (.iload_n 2, 1) := by decide +kernel
theorem dX4_score_16 : decode cX4_score 16 = .ok (.invokevirtual 93, 3) := by decide +kernel
theorem dX4_score_19 : decode cX4_score 19 = .ok (.ifCond .ne 5, 3) := by decide +kernel
theorem dX4_score_22 : decode cX4_score 22 = .ok (.iconst (-1), 1) := by decide +kernel
theorem dX4_score_23 : decode cX4_score 23 = .ok (.ireturn, 1) := by decide +kernel
theorem dX4_score_24 : decode cX4_score 24 = .ok (.aload_n 0, 1) := by decide +kernel
theorem dX4_score_25 : decode cX4_score 25 = .ok (.getfield 20, 3) := by decide +kernel
theorem dX4_score_28 : decode cX4_score 28 = .ok (.iload_n 2, 1) := by decide +kernel
theorem dX4_score_29 : decode cX4_score 29 = .ok (.iload_n 1, 1) := by decide +kernel
theorem dX4_score_30 : decode cX4_score 30 = .ok (.invokevirtual 141, 3) := by decide +kernel
theorem dX4_score_33 : decode cX4_score 33 = .ok (.ifCond .ne 6, 3) := by decide +kernel
theorem dX4_score_36 : decode cX4_score 36 = .ok (.bipush (-2), 2) := by decide +kernel
theorem dX4_score_38 : decode cX4_score 38 = .ok (.ireturn, 1) := by decide +kernel
theorem dX4_score_39 : decode cX4_score 39 = .ok (.ldc 145, 2) := by decide +kernel
theorem dX4_score_41 : decode cX4_score 41 = .ok (.aload_n 0, 1) := by decide +kernel
theorem dX4_score_42 : decode cX4_score 42 = .ok (.invokevirtual 116, 3) := by decide +kernel
theorem dX4_score_45 : decode cX4_score 45 = .ok (.iload_n 1, 1) := by decide +kernel
theorem dX4_score_46 : decode cX4_score 46 = .ok (.iload_n 2, 1) := by decide +kernel
theorem dX4_score_47 : decode cX4_score 47 = .ok (.invokevirtual 146, 3) := by decide +kernel
theorem dX4_score_50 : decode cX4_score 50 = .ok (.iadd, 1) := by decide +kernel
theorem dX4_score_51 : decode cX4_score 51 = .ok (.ireturn, 1) := by decide +kernel
def t_X4_score_39 : am_T := tb_const (100000) <|
  tb_aload 0 <|
  tb_callV 4 sp_X4_currentThreads 1 <|
  tb_iload 1 <|
  tb_iload 2 <|
  tb_callV 3 sp_X3_scoreFor 3 <|
  tb_bin (fun x y => x + y) <|
  tb_iret
def t_X4_score_24 : am_T := tb_aload 0 <|
  tb_getR 4 1 <|
  tb_iload 2 <|
  tb_iload 1 <|
  tb_callV 1 sp_X1_isEarlier 3 <|
  tb_if (fun x => x ≠ 0) (t_X4_score_39) <|
  tb_const (-2) <|
  tb_iret
def t_X4_score_22 : am_T := tb_const (-1) <|
  tb_iret
def t_X4_score_0 : am_T := tb_aload 0 <|
  tb_getR 4 1 <|
  tb_iload 1 <|
  tb_callV 1 sp_X1_isLine 2 <|
  tb_if (fun x => x = 0) (t_X4_score_22) <|
  tb_aload 0 <|
  tb_getR 4 1 <|
  tb_iload 2 <|
  tb_callV 1 sp_X1_isLine 2 <|
  tb_if (fun x => x ≠ 0) (t_X4_score_24) <|
  t_X4_score_22
def h_X4_score : am_Hd := fun h => if h = 0 then t_X4_score_0 else tb_bad
theorem h_X4_score_0 : h_X4_score 0 = t_X4_score_0 := rfl
def rm_X4_score : Room := { frames := 6, cells := 0, slots := 0, locals := 133 }
def sp_X4_score : am_sp := fun as M Q => as.length ≤ 3 ∧ am_OK h_X4_score Q 0 (am_in 3 as) M
theorem s_X4_score_39 {G : am_G} {bc bs : Nat} (X : am_Cx G cX4_score RX4 "score" rm_X4_score (some .int) 3 bc bs true) : am_S G 39 (t_X4_score_39) := by
  unfold t_X4_score_39
  refine as_ldc (pc := 39) X dX4_score_39 aw_309 ?_
  refine as_aload_n (pc := 41) X dX4_score_41 rfl ?_
  refine as_callV (ci := 4) (np := 0) (ix := 116) (pc := 42) X ct_X4_currentThreads (Cn := (RX4, TX4, 7)) rfl ⟨rfl, rfl⟩ aw_389 aw_391 aw_2 aw_392 aw_59 (by decide +kernel) (by decide) dX4_score_42 ?_
  refine as_iload_n (pc := 45) X dX4_score_45 rfl ?_
  refine as_iload_n (pc := 46) X dX4_score_46 rfl ?_
  refine as_callV (ci := 3) (np := 2) (ix := 146) (pc := 47) X ct_X3_scoreFor (Cn := (RX3, TX3, 17)) rfl ⟨rfl, rfl⟩ aw_501 aw_444 aw_445 aw_446 aw_60 (by decide +kernel) (by decide) dX4_score_47 ?_
  refine as_iadd (pc := 50) X dX4_score_50 ?_
  exact as_iret (pc := 51) X ⟨rfl, rfl⟩ rfl dX4_score_51
theorem s_X4_score_24 {G : am_G} {bc bs : Nat} (X : am_Cx G cX4_score RX4 "score" rm_X4_score (some .int) 3 bc bs true) : am_S G 24 (t_X4_score_24) := by
  unfold t_X4_score_24
  refine as_aload_n (pc := 24) X dX4_score_24 rfl ?_
  refine as_getR (ci := 4) (j := 1) (pc := 25) X (Cn := RX4) (Tf := TX4) (N := 7) rfl rfl (by decide) iw_X4 aw_275 rfl dX4_score_25 ?_
  refine as_iload_n (pc := 28) X dX4_score_28 rfl ?_
  refine as_iload_n (pc := 29) X dX4_score_29 rfl ?_
  refine as_callV (ci := 1) (np := 2) (ix := 141) (pc := 30) X ct_X1_isEarlier (Cn := (RX1, TX1, 14)) rfl ⟨rfl, rfl⟩ aw_497 aw_498 aw_499 aw_500 aw_61 (by decide +kernel) (by decide) dX4_score_30 ?_
  refine as_if_ne (pc := 33) X 39 dX4_score_33 (by decide) (s_X4_score_39 X) ?_
  refine as_bipush (pc := 36) X dX4_score_36 (by decide) ?_
  exact as_iret (pc := 38) X ⟨rfl, rfl⟩ rfl dX4_score_38
theorem s_X4_score_22 {G : am_G} {bc bs : Nat} (X : am_Cx G cX4_score RX4 "score" rm_X4_score (some .int) 3 bc bs true) : am_S G 22 (t_X4_score_22) := by
  unfold t_X4_score_22
  refine as_iconst (pc := 22) X dX4_score_22 (by decide) ?_
  exact as_iret (pc := 23) X ⟨rfl, rfl⟩ rfl dX4_score_23
theorem s_X4_score_0 {G : am_G} {bc bs : Nat} (X : am_Cx G cX4_score RX4 "score" rm_X4_score (some .int) 3 bc bs true) : am_S G 0 (t_X4_score_0) := by
  unfold t_X4_score_0
  refine as_aload_n (pc := 0) X dX4_score_0 rfl ?_
  refine as_getR (ci := 4) (j := 1) (pc := 1) X (Cn := RX4) (Tf := TX4) (N := 7) rfl rfl (by decide) iw_X4 aw_275 rfl dX4_score_1 ?_
  refine as_iload_n (pc := 4) X dX4_score_4 rfl ?_
  refine as_callV (ci := 1) (np := 1) (ix := 93) (pc := 5) X ct_X1_isLine (Cn := (RX1, TX1, 14)) rfl ⟨rfl, rfl⟩ aw_370 aw_371 aw_372 aw_373 aw_61 (by decide +kernel) (by decide) dX4_score_5 ?_
  refine as_if_eq (pc := 8) X 22 dX4_score_8 (by decide) (s_X4_score_22 X) ?_
  refine as_aload_n (pc := 11) X dX4_score_11 rfl ?_
  refine as_getR (ci := 4) (j := 1) (pc := 12) X (Cn := RX4) (Tf := TX4) (N := 7) rfl rfl (by decide) iw_X4 aw_275 rfl dX4_score_12 ?_
  refine as_iload_n (pc := 15) X dX4_score_15 rfl ?_
  refine as_callV (ci := 1) (np := 1) (ix := 93) (pc := 16) X ct_X1_isLine (Cn := (RX1, TX1, 14)) rfl ⟨rfl, rfl⟩ aw_370 aw_371 aw_372 aw_373 aw_61 (by decide +kernel) (by decide) dX4_score_16 ?_
  refine as_if_ne (pc := 19) X 24 dX4_score_19 (by decide) (s_X4_score_24 X) ?_
  exact s_X4_score_22 X
theorem s_X4_score {G : am_G} {bc bs : Nat} (X : am_Cx G cX4_score RX4 "score" rm_X4_score (some .int) 3 bc bs true) (h : Nat) : am_S G h (h_X4_score h) := by
  unfold h_X4_score
  split
  · next e => rw [e]; exact s_X4_score_0 X
  exact as_bad
theorem ct_X4_score : am_Ct yX4_score cX4_score 3 (some .int) rm_X4_score sp_X4_score := am_met (own := RX4) (nm := "score") (by decide) rfl rfl (Or.inr (Or.inl rfl)) (fun _ _ => h_X4_score) (fun _ _ _ X => s_X4_score X) (fun _ _ _ _ h => h)
-- X5_score
theorem dX5_score_0 : decode cX5_score 0 = .ok (.aload_n 0, 1) := by decide +kernel
theorem dX5_score_1 : decode cX5_score 1 = .ok (.iload_n 1, 1) := by decide +kernel
theorem dX5_score_2 : decode cX5_score 2 = .ok (.invokevirtual 138, 3) := by decide +kernel
theorem dX5_score_5 : decode cX5_score 5 = .ok (.ifCond .eq 11, 3) := by decide +kernel
theorem dX5_score_8 : decode cX5_score 8 = .ok (.aload_n 0, 1) := by decide +kernel
theorem dX5_score_9 : decode cX5_score 9 = .ok (.iload_n 2, 1) := by decide +kernel
theorem dX5_score_10 : decode cX5_score 10 = .ok (.invokevirtual 138, 3) := by decide +kernel
theorem dX5_score_13 : decode cX5_score 13 = .ok (.ifCond .ne 5, 3) := by decide +kernel
theorem dX5_score_16 : decode cX5_score 16 = .ok (.iconst (-1), 1) := by decide +kernel
theorem dX5_score_17 : decode cX5_score 17 = .ok (.ireturn, 1) := by decide +kernel
theorem dX5_score_18 : decode cX5_score 18 = .ok (.aload_n 0, 1) := by decide +kernel
theorem dX5_score_19 : decode cX5_score 19 = .ok (.aload_n 0, 1) := by decide +kernel
theorem dX5_score_20 : decode cX5_score 20 = .ok (.getfield 7, 3) := by decide +kernel
theorem dX5_score_23 : decode cX5_score 23 = .ok (.invokevirtual 120, 3) := by decide +kernel
theorem dX5_score_26 : decode cX5_score 26 = .ok (.aload_n 0, 1) := by decide +kernel
theorem dX5_score_27 : decode cX5_score 27 = .ok (.getfield 25, 3) := by decide +kernel
theorem dX5_score_30 : decode cX5_score 30 = .ok (.iload_n 2, 1) := by decide +kernel
theorem dX5_score_31 : decode cX5_score 31 = .ok (.iaload, 1) := by decide +kernel
theorem dX5_score_32 : decode cX5_score 32 = .ok (.aload_n 0, 1) := by decide +kernel
theorem dX5_score_33 : decode cX5_score 33 = .ok (.getfield 25, 3) := by decide +kernel
theorem dX5_score_36 : decode cX5_score 36 = .ok (.iload_n 1, 1) := by decide +kernel
theorem dX5_score_37 : decode cX5_score 37 = .ok (.iaload, 1) := by decide +kernel
theorem dX5_score_38 : decode cX5_score 38 = .ok (.if_icmp .ge 20, 3) := by decide +kernel
theorem dX5_score_41 : decode cX5_score 41 = .ok (.ldc 64, 2) := by decide +kernel
theorem dX5_score_43 : decode cX5_score 43 = .ok (.aload_n 0, 1) := by decide +kernel
theorem dX5_score_44 : decode cX5_score 44 = .ok (.getfield 31, 3) := by decide +kernel
theorem dX5_score_47 : decode cX5_score 47 = .ok (.bipush 30, 2) := by decide +kernel
theorem dX5_score_49 : decode cX5_score 49 = .ok (.iload_n 1, 1) := by decide +kernel
theorem dX5_score_50 : decode cX5_score 50 = .ok (.imul, 1) := by decide +kernel
theorem dX5_score_51 : decode cX5_score 51 = .ok (.iload_n 2, 1) := by decide +kernel
theorem dX5_score_52 : decode cX5_score 52 = .ok (.iadd, 1) := by decide +kernel
theorem dX5_score_53 : decode cX5_score 53 = .ok (.iaload, 1) := by decide +kernel
theorem dX5_score_54 : decode cX5_score 54 = .ok (.iadd, 1) := by decide +kernel
theorem dX5_score_55 : decode cX5_score 55 = .ok (.goto 5, 3) := by decide +kernel
theorem dX5_score_58 : decode cX5_score 58 = .ok (.bipush (-2), 2) := by decide +kernel
theorem dX5_score_60 : decode cX5_score 60 = .ok (.ireturn, 1) := by decide +kernel
def t_X5_score_60 : am_T := tb_iret
def t_X5_score_58 : am_T := tb_const (-2) <|
  t_X5_score_60
def t_X5_score_18 : am_T := tb_aload 0 <|
  tb_aload 0 <|
  tb_getR 5 0 <|
  tb_callV 5 sp_X5_laysScores 2 <|
  tb_aload 0 <|
  tb_getR 5 7 <|
  tb_iload 2 <|
  tb_iald <|
  tb_aload 0 <|
  tb_getR 5 7 <|
  tb_iload 1 <|
  tb_iald <|
  tb_ic (fun x y => y ≤ x) (t_X5_score_58) <|
  tb_const (100000) <|
  tb_aload 0 <|
  tb_getR 5 9 <|
  tb_const 30 <|
  tb_iload 1 <|
  tb_bin (fun x y => x * y) <|
  tb_iload 2 <|
  tb_bin (fun x y => x + y) <|
  tb_iald <|
  tb_bin (fun x y => x + y) <|
  t_X5_score_60
def t_X5_score_16 : am_T := tb_const (-1) <|
  tb_iret
def t_X5_score_0 : am_T := tb_aload 0 <|
  tb_iload 1 <|
  tb_callV 5 sp_X5_isLine 2 <|
  tb_if (fun x => x = 0) (t_X5_score_16) <|
  tb_aload 0 <|
  tb_iload 2 <|
  tb_callV 5 sp_X5_isLine 2 <|
  tb_if (fun x => x ≠ 0) (t_X5_score_18) <|
  t_X5_score_16
def h_X5_score : am_Hd := fun h => if h = 0 then t_X5_score_0 else tb_bad
theorem h_X5_score_0 : h_X5_score 0 = t_X5_score_0 := rfl
def rm_X5_score : Room := { frames := 4, cells := 0, slots := 0, locals := 96 }
def sp_X5_score : am_sp := fun as M Q => as.length ≤ 3 ∧ am_OK h_X5_score Q 0 (am_in 3 as) M
theorem s_X5_score_60 {G : am_G} {bc bs : Nat} (X : am_Cx G cX5_score RX5 "score" rm_X5_score (some .int) 3 bc bs true) : am_S G 60 (t_X5_score_60) := by
  unfold t_X5_score_60
  exact as_iret (pc := 60) X ⟨rfl, rfl⟩ rfl dX5_score_60
theorem s_X5_score_58 {G : am_G} {bc bs : Nat} (X : am_Cx G cX5_score RX5 "score" rm_X5_score (some .int) 3 bc bs true) : am_S G 58 (t_X5_score_58) := by
  unfold t_X5_score_58
  refine as_bipush (pc := 58) X dX5_score_58 (by decide) ?_
  exact s_X5_score_60 X
theorem s_X5_score_18 {G : am_G} {bc bs : Nat} (X : am_Cx G cX5_score RX5 "score" rm_X5_score (some .int) 3 bc bs true) : am_S G 18 (t_X5_score_18) := by
  unfold t_X5_score_18
  refine as_aload_n (pc := 18) X dX5_score_18 rfl ?_
  refine as_aload_n (pc := 19) X dX5_score_19 rfl ?_
  refine as_getR (ci := 5) (j := 0) (pc := 20) X (Cn := RX5) (Tf := TX5) (N := 21) rfl rfl (by decide) iw_X5 aw_738 rfl dX5_score_20 ?_
  refine as_callV (ci := 5) (np := 1) (ix := 120) (pc := 23) X ct_X5_laysScores (Cn := (RX5, TX5, 21)) rfl ⟨rfl, rfl⟩ aw_865 aw_867 aw_30 aw_868 aw_65 (by decide +kernel) (by decide) dX5_score_23 ?_
  refine as_aload_n (pc := 26) X dX5_score_26 rfl ?_
  refine as_getR (ci := 5) (j := 7) (pc := 27) X (Cn := RX5) (Tf := TX5) (N := 21) rfl rfl (by decide) iw_X5 aw_745 rfl dX5_score_27 ?_
  refine as_iload_n (pc := 30) X dX5_score_30 rfl ?_
  refine as_iald (pc := 31) X dX5_score_31 ?_
  refine as_aload_n (pc := 32) X dX5_score_32 rfl ?_
  refine as_getR (ci := 5) (j := 7) (pc := 33) X (Cn := RX5) (Tf := TX5) (N := 21) rfl rfl (by decide) iw_X5 aw_745 rfl dX5_score_33 ?_
  refine as_iload_n (pc := 36) X dX5_score_36 rfl ?_
  refine as_iald (pc := 37) X dX5_score_37 ?_
  refine as_ic_ge (pc := 38) X 58 dX5_score_38 (by decide) (s_X5_score_58 X) ?_
  refine as_ldc (pc := 41) X dX5_score_41 aw_809 ?_
  refine as_aload_n (pc := 43) X dX5_score_43 rfl ?_
  refine as_getR (ci := 5) (j := 9) (pc := 44) X (Cn := RX5) (Tf := TX5) (N := 21) rfl rfl (by decide) iw_X5 aw_747 rfl dX5_score_44 ?_
  refine as_bipush (pc := 47) X dX5_score_47 (by decide) ?_
  refine as_iload_n (pc := 49) X dX5_score_49 rfl ?_
  refine as_imul (pc := 50) X dX5_score_50 ?_
  refine as_iload_n (pc := 51) X dX5_score_51 rfl ?_
  refine as_iadd (pc := 52) X dX5_score_52 ?_
  refine as_iald (pc := 53) X dX5_score_53 ?_
  refine as_iadd (pc := 54) X dX5_score_54 ?_
  exact as_goto (pc := 55) X 60 dX5_score_55 (by decide) (s_X5_score_60 X)
theorem s_X5_score_16 {G : am_G} {bc bs : Nat} (X : am_Cx G cX5_score RX5 "score" rm_X5_score (some .int) 3 bc bs true) : am_S G 16 (t_X5_score_16) := by
  unfold t_X5_score_16
  refine as_iconst (pc := 16) X dX5_score_16 (by decide) ?_
  exact as_iret (pc := 17) X ⟨rfl, rfl⟩ rfl dX5_score_17
theorem s_X5_score_0 {G : am_G} {bc bs : Nat} (X : am_Cx G cX5_score RX5 "score" rm_X5_score (some .int) 3 bc bs true) : am_S G 0 (t_X5_score_0) := by
  unfold t_X5_score_0
  refine as_aload_n (pc := 0) X dX5_score_0 rfl ?_
  refine as_iload_n (pc := 1) X dX5_score_1 rfl ?_
  refine as_callV (ci := 5) (np := 1) (ix := 138) (pc := 2) X ct_X5_isLine (Cn := (RX5, TX5, 21)) rfl ⟨rfl, rfl⟩ aw_844 aw_846 aw_28 aw_847 aw_65 (by decide +kernel) (by decide) dX5_score_2 ?_
  refine as_if_eq (pc := 5) X 16 dX5_score_5 (by decide) (s_X5_score_16 X) ?_
  refine as_aload_n (pc := 8) X dX5_score_8 rfl ?_
  refine as_iload_n (pc := 9) X dX5_score_9 rfl ?_
  refine as_callV (ci := 5) (np := 1) (ix := 138) (pc := 10) X ct_X5_isLine (Cn := (RX5, TX5, 21)) rfl ⟨rfl, rfl⟩ aw_844 aw_846 aw_28 aw_847 aw_65 (by decide +kernel) (by decide) dX5_score_10 ?_
  refine as_if_ne (pc := 13) X 18 dX5_score_13 (by decide) (s_X5_score_18 X) ?_
  exact s_X5_score_16 X
theorem s_X5_score {G : am_G} {bc bs : Nat} (X : am_Cx G cX5_score RX5 "score" rm_X5_score (some .int) 3 bc bs true) (h : Nat) : am_S G h (h_X5_score h) := by
  unfold h_X5_score
  split
  · next e => rw [e]; exact s_X5_score_0 X
  exact as_bad
theorem ct_X5_score : am_Ct yX5_score cX5_score 3 (some .int) rm_X5_score sp_X5_score := am_met (own := RX5) (nm := "score") (by decide) rfl rfl (Or.inr (Or.inl rfl)) (fun _ _ => h_X5_score) (fun _ _ _ X => s_X5_score X) (fun _ _ _ _ h => h)
-- X1_fixLike
theorem dX1_fixLike_0 : decode cX1_fixLike 0 = .ok (.iconst 0, 1) := by decide +kernel
theorem dX1_fixLike_1 : decode cX1_fixLike 1 = .ok (.istore 4, 2) := by decide +kernel
theorem dX1_fixLike_3 : decode cX1_fixLike 3 = .ok (.iload 4, 2) := by decide +kernel
theorem dX1_fixLike_5 : decode cX1_fixLike 5 = .ok (.aload_n 0, 1) := by decide +kernel
theorem dX1_fixLike_6 : decode cX1_fixLike 6 = .ok (.getfield 40, 3) := by decide +kernel
theorem dX1_fixLike_9 : decode cX1_fixLike 9 = .ok (.if_icmp .ge 45, 3) := by decide +kernel
theorem dX1_fixLike_12 : decode cX1_fixLike 12 = .ok (.aload_n 0, 1) := by decide +kernel
theorem dX1_fixLike_13 : decode cX1_fixLike 13 = .ok (.getfield 43, 3) := by decide +kernel
theorem dX1_fixLike_16 : decode cX1_fixLike 16 = .ok (.iload 4, 2) := by decide +kernel
theorem dX1_fixLike_18 : decode cX1_fixLike 18 = .ok (.iaload, 1) := by decide +kernel
theorem dX1_fixLike_19 : decode cX1_fixLike 19 = .ok (.iload_n 1, 1) := by decide +kernel
theorem dX1_fixLike_20 : decode cX1_fixLike 20 = .ok (.if_icmp .ne 28, 3) := by decide +kernel
theorem dX1_fixLike_23 : decode cX1_fixLike 23 = .ok (.aload_n 0, 1) := by decide +kernel
theorem dX1_fixLike_24 : decode cX1_fixLike 24 = .ok (.getfield 46, 3) := by decide +kernel
theorem dX1_fixLike_27 : decode cX1_fixLike 27 = .ok (.iload 4, 2) := by decide +kernel
theorem dX1_fixLike_29 : decode cX1_fixLike 29 = .ok (.iaload, 1) := by decide +kernel
theorem dX1_fixLike_30 : decode cX1_fixLike 30 = .ok (.iload_n 2, 1) := by decide +kernel
theorem dX1_fixLike_31 : decode cX1_fixLike 31 = .ok (.if_icmp .ne 17, 3) := by decide +kernel
theorem dX1_fixLike_34 : decode cX1_fixLike 34 = .ok (.aload_n 0, 1) := by decide +kernel
theorem dX1_fixLike_35 : decode cX1_fixLike 35 = .ok (.getfield 49, 3) := by decide +kernel
theorem dX1_fixLike_38 : decode cX1_fixLike 38 = .ok (.iload 4, 2) := by decide +kernel
theorem dX1_fixLike_40 : decode cX1_fixLike 40 = .ok (.iaload, 1) := by decide +kernel
theorem dX1_fixLike_41 : decode cX1_fixLike 41 = .ok (.iload_n 3, 1) := by decide +kernel
theorem dX1_fixLike_42 : decode cX1_fixLike 42 = .ok (.if_icmp .ne 6, 3) := by decide +kernel
theorem dX1_fixLike_45 : decode cX1_fixLike 45 = .ok (.iload 4, 2) := by decide +kernel
theorem dX1_fixLike_47 : decode cX1_fixLike 47 = .ok (.ireturn, 1) := by decide +kernel
theorem dX1_fixLike_48 : decode cX1_fixLike 48 = .ok (.iinc 4 1, 3) := by decide +kernel
theorem dX1_fixLike_51 : decode cX1_fixLike 51 = .ok (.goto (-48), 3) := by decide +kernel
theorem dX1_fixLike_54 : decode cX1_fixLike 54 = .ok (.iconst (-1), 1) := by decide +kernel
theorem dX1_fixLike_55 : decode cX1_fixLike 55 = .ok (.ireturn, 1) := by decide +kernel
def t_X1_fixLike_54 : am_T := tb_const (-1) <|
  tb_iret
def t_X1_fixLike_48 : am_T := tb_iinc 4 1 <|
  tb_head 3
def t_X1_fixLike_3 : am_T := tb_iload 4 <|
  tb_aload 0 <|
  tb_getI 1 9 <|
  tb_ic (fun x y => y ≤ x) (t_X1_fixLike_54) <|
  tb_aload 0 <|
  tb_getR 1 10 <|
  tb_iload 4 <|
  tb_iald <|
  tb_iload 1 <|
  tb_ic (fun x y => x ≠ y) (t_X1_fixLike_48) <|
  tb_aload 0 <|
  tb_getR 1 11 <|
  tb_iload 4 <|
  tb_iald <|
  tb_iload 2 <|
  tb_ic (fun x y => x ≠ y) (t_X1_fixLike_48) <|
  tb_aload 0 <|
  tb_getR 1 12 <|
  tb_iload 4 <|
  tb_iald <|
  tb_iload 3 <|
  tb_ic (fun x y => x ≠ y) (t_X1_fixLike_48) <|
  tb_iload 4 <|
  tb_iret
def t_X1_fixLike_0 : am_T := tb_const 0 <|
  tb_istore 4 <|
  tb_head 3
def h_X1_fixLike : am_Hd := fun h => if h = 0 then t_X1_fixLike_0 else if h = 3 then t_X1_fixLike_3 else tb_bad
theorem h_X1_fixLike_0 : h_X1_fixLike 0 = t_X1_fixLike_0 := rfl
theorem h_X1_fixLike_3 : h_X1_fixLike 3 = t_X1_fixLike_3 := rfl
def rm_X1_fixLike : Room := { frames := 0, cells := 0, slots := 0, locals := 0 }
def sp_X1_fixLike : am_sp := fun as M Q => as.length ≤ 5 ∧ am_OK h_X1_fixLike Q 0 (am_in 5 as) M
theorem s_X1_fixLike_54 {G : am_G} {bc bs : Nat} (X : am_Cx G cX1_fixLike RX1 "fixLike" rm_X1_fixLike (some .int) 5 bc bs true) : am_S G 54 (t_X1_fixLike_54) := by
  unfold t_X1_fixLike_54
  refine as_iconst (pc := 54) X dX1_fixLike_54 (by decide) ?_
  exact as_iret (pc := 55) X ⟨rfl, rfl⟩ rfl dX1_fixLike_55
theorem s_X1_fixLike_48 {G : am_G} {bc bs : Nat} (X : am_Cx G cX1_fixLike RX1 "fixLike" rm_X1_fixLike (some .int) 5 bc bs true) : am_S G 48 (t_X1_fixLike_48) := by
  unfold t_X1_fixLike_48
  refine as_iinc (pc := 48) X dX1_fixLike_48 (by decide) (by decide) ?_
  exact as_goto (pc := 51) X 3 dX1_fixLike_51 (by decide) (as_head)
theorem s_X1_fixLike_3 {G : am_G} {bc bs : Nat} (X : am_Cx G cX1_fixLike RX1 "fixLike" rm_X1_fixLike (some .int) 5 bc bs true) : am_S G 3 (t_X1_fixLike_3) := by
  unfold t_X1_fixLike_3
  refine as_iload (pc := 3) X dX1_fixLike_3 ?_
  refine as_aload_n (pc := 5) X dX1_fixLike_5 rfl ?_
  refine as_getI (ci := 1) (j := 9) (pc := 6) X (Cn := RX1) (Tf := TX1) (N := 14) rfl rfl (by decide) iw_X1 aw_113 rfl dX1_fixLike_6 ?_
  refine as_ic_ge (pc := 9) X 54 dX1_fixLike_9 (by decide) (s_X1_fixLike_54 X) ?_
  refine as_aload_n (pc := 12) X dX1_fixLike_12 rfl ?_
  refine as_getR (ci := 1) (j := 10) (pc := 13) X (Cn := RX1) (Tf := TX1) (N := 14) rfl rfl (by decide) iw_X1 aw_117 rfl dX1_fixLike_13 ?_
  refine as_iload (pc := 16) X dX1_fixLike_16 ?_
  refine as_iald (pc := 18) X dX1_fixLike_18 ?_
  refine as_iload_n (pc := 19) X dX1_fixLike_19 rfl ?_
  refine as_ic_ne (pc := 20) X 48 dX1_fixLike_20 (by decide) (s_X1_fixLike_48 X) ?_
  refine as_aload_n (pc := 23) X dX1_fixLike_23 rfl ?_
  refine as_getR (ci := 1) (j := 11) (pc := 24) X (Cn := RX1) (Tf := TX1) (N := 14) rfl rfl (by decide) iw_X1 aw_120 rfl dX1_fixLike_24 ?_
  refine as_iload (pc := 27) X dX1_fixLike_27 ?_
  refine as_iald (pc := 29) X dX1_fixLike_29 ?_
  refine as_iload_n (pc := 30) X dX1_fixLike_30 rfl ?_
  refine as_ic_ne (pc := 31) X 48 dX1_fixLike_31 (by decide) (s_X1_fixLike_48 X) ?_
  refine as_aload_n (pc := 34) X dX1_fixLike_34 rfl ?_
  refine as_getR (ci := 1) (j := 12) (pc := 35) X (Cn := RX1) (Tf := TX1) (N := 14) rfl rfl (by decide) iw_X1 aw_123 rfl dX1_fixLike_35 ?_
  refine as_iload (pc := 38) X dX1_fixLike_38 ?_
  refine as_iald (pc := 40) X dX1_fixLike_40 ?_
  refine as_iload_n (pc := 41) X dX1_fixLike_41 rfl ?_
  refine as_ic_ne (pc := 42) X 48 dX1_fixLike_42 (by decide) (s_X1_fixLike_48 X) ?_
  refine as_iload (pc := 45) X dX1_fixLike_45 ?_
  exact as_iret (pc := 47) X ⟨rfl, rfl⟩ rfl dX1_fixLike_47
theorem s_X1_fixLike_0 {G : am_G} {bc bs : Nat} (X : am_Cx G cX1_fixLike RX1 "fixLike" rm_X1_fixLike (some .int) 5 bc bs true) : am_S G 0 (t_X1_fixLike_0) := by
  unfold t_X1_fixLike_0
  refine as_iconst (pc := 0) X dX1_fixLike_0 (by decide) ?_
  refine as_istore (pc := 1) X dX1_fixLike_1 ?_ (by decide)
  exact as_head
theorem s_X1_fixLike {G : am_G} {bc bs : Nat} (X : am_Cx G cX1_fixLike RX1 "fixLike" rm_X1_fixLike (some .int) 5 bc bs true) (h : Nat) : am_S G h (h_X1_fixLike h) := by
  unfold h_X1_fixLike
  split
  · next e => rw [e]; exact s_X1_fixLike_0 X
  split
  · next e => rw [e]; exact s_X1_fixLike_3 X
  exact as_bad
theorem ct_X1_fixLike : am_Ct yX1_fixLike cX1_fixLike 5 (some .int) rm_X1_fixLike sp_X1_fixLike := am_met (own := RX1) (nm := "fixLike") (by decide) rfl rfl (Or.inr (Or.inl rfl)) (fun _ _ => h_X1_fixLike) (fun _ _ _ X => s_X1_fixLike X) (fun _ _ _ _ h => h)
-- X3_reasonAgainst
theorem dX3_reasonAgainst_0 : decode cX3_reasonAgainst 0 = .ok (.aload_n 0, 1) := by decide +kernel
theorem dX3_reasonAgainst_1 : decode cX3_reasonAgainst 1 = .ok (.getfield 12, 3) := by decide +kernel
theorem dX3_reasonAgainst_4 : decode cX3_reasonAgainst 4 = .ok (.iload_n 2, 1) := by decide +kernel
theorem dX3_reasonAgainst_5 : decode cX3_reasonAgainst 5 = .ok (.iload_n 1, 1) := by decide +kernel
theorem dX3_reasonAgainst_6 : decode cX3_reasonAgainst 6 = .ok (.invokevirtual 168, 3) := by decide +kernel
theorem dX3_reasonAgainst_9 : decode cX3_reasonAgainst 9 = .ok (.ifCond .ne 5, 3) := by decide +kernel
theorem dX3_reasonAgainst_12 : decode cX3_reasonAgainst 12 = .ok (.iconst 1, 1) := by decide +kernel
theorem dX3_reasonAgainst_13 : decode cX3_reasonAgainst 13 = .ok (.ireturn, 1) := by decide +kernel
theorem dX3_reasonAgainst_14 : decode cX3_reasonAgainst 14 = .ok (.aload_n 0, 1) := by decide +kernel
theorem dX3_reasonAgainst_15 : decode cX3_reasonAgainst 15 = .ok (.getfield 31, 3) := by decide +kernel
theorem dX3_reasonAgainst_18 : decode cX3_reasonAgainst 18 = .ok (.iload_n 1, 1) := by decide +kernel
theorem dX3_reasonAgainst_19 : decode cX3_reasonAgainst 19 = .ok (.iaload, 1) := by decide +kernel
theorem dX3_reasonAgainst_20 : decode cX3_reasonAgainst 20 = .ok (.iconst (-1), 1) := by decide +kernel
theorem dX3_reasonAgainst_21 : decode cX3_reasonAgainst 21 = .ok (.if_icmp .eq 19, 3) := by decide +kernel
theorem dX3_reasonAgainst_24 : decode cX3_reasonAgainst 24 = .ok (.aload_n 0, 1) := by decide +kernel
theorem dX3_reasonAgainst_25 : decode cX3_reasonAgainst 25 = .ok (.getfield 43, 3) := by decide +kernel
theorem dX3_reasonAgainst_28 : decode cX3_reasonAgainst 28 = .ok (.iload_n 1, 1) := by decide +kernel
theorem dX3_reasonAgainst_29 : decode cX3_reasonAgainst 29 = .ok (.iaload, 1) := by decide +kernel
theorem dX3_reasonAgainst_30 : decode cX3_reasonAgainst 30 = .ok (.iload_n 2, 1) := by decide +kernel
theorem dX3_reasonAgainst_31 : decode cX3_reasonAgainst 31 = .ok (.if_icmp .ne 7, 3) := by decide +kernel
theorem dX3_reasonAgainst_34 : decode cX3_reasonAgainst 34 = .ok (.iconst 0, 1) := by decide +kernel
theorem dX3_reasonAgainst_35 : decode cX3_reasonAgainst 35 = .ok (.goto 4, 3) := by decide +kernel
theorem dX3_reasonAgainst_38 : decode cX3_reasonAgainst 38 = .ok (.iconst 2, 1) := by decide +kernel
theorem dX3_reasonAgainst_39 : decode cX3_reasonAgainst 39 = .ok (.ireturn, 1) := by decide +kernel
theorem dX3_reasonAgainst_40 : decode cX3_reasonAgainst 40 = .ok (.aload_n 0, 1) := by decide +kernel
theorem dX3_reasonAgainst_41 : decode cX3_reasonAgainst 41 = .ok (.getfield 12, 3) := by decide +kernel
theorem dX3_reasonAgainst_44 : decode cX3_reasonAgainst 44 = .ok (.iconst 2, 1) := by decide +kernel
theorem dX3_reasonAgainst_45 : decode cX3_reasonAgainst 45 = .ok (.iload_n 1, 1) := by decide +kernel
theorem dX3_reasonAgainst_46 : decode cX3_reasonAgainst 46 = .ok (.iload_n 2, 1) := by decide +kernel
theorem dX3_reasonAgainst_47 : decode cX3_reasonAgainst 47 = .ok (.invokevirtual 171, 3) := by decide +kernel
theorem dX3_reasonAgainst_50 : decode cX3_reasonAgainst 50 = .ok (.iconst (-1), 1) := by decide +kernel
theorem dX3_reasonAgainst_51 : decode cX3_reasonAgainst 51 = .ok (.if_icmp .eq 5, 3) := by decide +kernel
theorem dX3_reasonAgainst_54 : decode cX3_reasonAgainst 54 = .ok (.iconst 3, 1) := by decide +kernel
theorem dX3_reasonAgainst_55 : decode cX3_reasonAgainst 55 = .ok (.ireturn, 1) := by decide +kernel
theorem dX3_reasonAgainst_56 : decode cX3_reasonAgainst 56 = .ok (.aload_n 0, 1) := by decide +kernel
theorem dX3_reasonAgainst_57 : decode cX3_reasonAgainst 57 = .ok (.iload_n 1, 1) := by decide +kernel
theorem dX3_reasonAgainst_58 : decode cX3_reasonAgainst 58 = .ok (.iload_n 2, 1) := by decide +kernel
theorem dX3_reasonAgainst_59 : decode cX3_reasonAgainst 59 = .ok (.invokevirtual 122, 3) := by decide +kernel
theorem dX3_reasonAgainst_62 : decode cX3_reasonAgainst 62 = .ok (.ifCond .ne 5, 3) := by decide +kernel
theorem dX3_reasonAgainst_65 : decode cX3_reasonAgainst 65 = .ok (.iconst 4, 1) := by decide +kernel
theorem dX3_reasonAgainst_66 : decode cX3_reasonAgainst 66 = .ok (.ireturn, 1) := by decide +kernel
theorem dX3_reasonAgainst_67 : decode cX3_reasonAgainst 67 = .ok (.aload_n 0, 1) := by decide +kernel
theorem dX3_reasonAgainst_68 : decode cX3_reasonAgainst 68 = .ok (.iload_n 1, 1) := by decide +kernel
theorem dX3_reasonAgainst_69 : decode cX3_reasonAgainst 69 = .ok (.iload_n 2, 1) := by decide +kernel
theorem dX3_reasonAgainst_70 : decode cX3_reasonAgainst 70 = .ok (.invokevirtual 153, 3) := by decide +kernel
theorem dX3_reasonAgainst_73 : decode cX3_reasonAgainst 73 = .ok (.ifCond .ne 5, 3) := by decide +kernel
theorem dX3_reasonAgainst_76 : decode cX3_reasonAgainst 76 = .ok (.iconst 5, 1) := by decide +kernel
theorem dX3_reasonAgainst_77 : decode cX3_reasonAgainst 77 = .ok (.ireturn, 1) := by decide +kernel
theorem dX3_reasonAgainst_78 : decode cX3_reasonAgainst 78 = .ok (.aload_n 0, 1) := by decide +kernel
theorem dX3_reasonAgainst_79 : decode cX3_reasonAgainst 79 = .ok (.getfield 43, 3) := by decide +kernel
theorem dX3_reasonAgainst_82 : decode cX3_reasonAgainst 82 = .ok (.iload_n 1, 1) := by decide +kernel
theorem dX3_reasonAgainst_83 : decode cX3_reasonAgainst 83 = .ok (.iaload, 1) := by decide +kernel
theorem dX3_reasonAgainst_84 : decode cX3_reasonAgainst 84 = .ok (.iload_n 2, 1) := by decide +kernel
theorem dX3_reasonAgainst_85 : decode cX3_reasonAgainst 85 = .ok (.if_icmp .ne 7, 3) := by decide +kernel
theorem dX3_reasonAgainst_88 : decode cX3_reasonAgainst 88 = .ok (.iconst 0, 1) := by decide +kernel
theorem dX3_reasonAgainst_89 : decode cX3_reasonAgainst 89 = .ok (.goto 5, 3) := by decide +kernel
theorem dX3_reasonAgainst_92 : decode cX3_reasonAgainst 92 = .ok (.bipush 6, 2) := by decide +kernel
theorem dX3_reasonAgainst_94 : decode cX3_reasonAgainst 94 = .ok (.ireturn, 1) := by decide +kernel
def t_X3_reasonAgainst_94 : am_T := tb_iret
def t_X3_reasonAgainst_92 : am_T := tb_const 6 <|
  t_X3_reasonAgainst_94
def t_X3_reasonAgainst_78 : am_T := tb_aload 0 <|
  tb_getR 3 9 <|
  tb_iload 1 <|
  tb_iald <|
  tb_iload 2 <|
  tb_ic (fun x y => x ≠ y) (t_X3_reasonAgainst_92) <|
  tb_const 0 <|
  t_X3_reasonAgainst_94
def t_X3_reasonAgainst_67 : am_T := tb_aload 0 <|
  tb_iload 1 <|
  tb_iload 2 <|
  tb_callV 3 sp_X3_isPassed 3 <|
  tb_if (fun x => x ≠ 0) (t_X3_reasonAgainst_78) <|
  tb_const 5 <|
  tb_iret
def t_X3_reasonAgainst_56 : am_T := tb_aload 0 <|
  tb_iload 1 <|
  tb_iload 2 <|
  tb_callV 3 sp_X3_isInWindow 3 <|
  tb_if (fun x => x ≠ 0) (t_X3_reasonAgainst_67) <|
  tb_const 4 <|
  tb_iret
def t_X3_reasonAgainst_40 : am_T := tb_aload 0 <|
  tb_getR 3 0 <|
  tb_const 2 <|
  tb_iload 1 <|
  tb_iload 2 <|
  tb_callV 1 sp_X1_fixLike 4 <|
  tb_const (-1) <|
  tb_ic (fun x y => x = y) (t_X3_reasonAgainst_56) <|
  tb_const 3 <|
  tb_iret
def t_X3_reasonAgainst_39 : am_T := tb_iret
def t_X3_reasonAgainst_38 : am_T := tb_const 2 <|
  t_X3_reasonAgainst_39
def t_X3_reasonAgainst_14 : am_T := tb_aload 0 <|
  tb_getR 3 5 <|
  tb_iload 1 <|
  tb_iald <|
  tb_const (-1) <|
  tb_ic (fun x y => x = y) (t_X3_reasonAgainst_40) <|
  tb_aload 0 <|
  tb_getR 3 9 <|
  tb_iload 1 <|
  tb_iald <|
  tb_iload 2 <|
  tb_ic (fun x y => x ≠ y) (t_X3_reasonAgainst_38) <|
  tb_const 0 <|
  t_X3_reasonAgainst_39
def t_X3_reasonAgainst_0 : am_T := tb_aload 0 <|
  tb_getR 3 0 <|
  tb_iload 2 <|
  tb_iload 1 <|
  tb_callV 1 sp_X1_isEarlier 3 <|
  tb_if (fun x => x ≠ 0) (t_X3_reasonAgainst_14) <|
  tb_const 1 <|
  tb_iret
def h_X3_reasonAgainst : am_Hd := fun h => if h = 0 then t_X3_reasonAgainst_0 else tb_bad
theorem h_X3_reasonAgainst_0 : h_X3_reasonAgainst 0 = t_X3_reasonAgainst_0 := rfl
def rm_X3_reasonAgainst : Room := { frames := 2, cells := 0, slots := 0, locals := 44 }
def sp_X3_reasonAgainst : am_sp := fun as M Q => as.length ≤ 3 ∧ am_OK h_X3_reasonAgainst Q 0 (am_in 3 as) M
theorem s_X3_reasonAgainst_94 {G : am_G} {bc bs : Nat} (X : am_Cx G cX3_reasonAgainst RX3 "reasonAgainst" rm_X3_reasonAgainst (some .int) 3 bc bs true) : am_S G 94 (t_X3_reasonAgainst_94) := by
  unfold t_X3_reasonAgainst_94
  exact as_iret (pc := 94) X ⟨rfl, rfl⟩ rfl dX3_reasonAgainst_94
theorem s_X3_reasonAgainst_92 {G : am_G} {bc bs : Nat} (X : am_Cx G cX3_reasonAgainst RX3 "reasonAgainst" rm_X3_reasonAgainst (some .int) 3 bc bs true) : am_S G 92 (t_X3_reasonAgainst_92) := by
  unfold t_X3_reasonAgainst_92
  refine as_bipush (pc := 92) X dX3_reasonAgainst_92 (by decide) ?_
  exact s_X3_reasonAgainst_94 X
theorem s_X3_reasonAgainst_78 {G : am_G} {bc bs : Nat} (X : am_Cx G cX3_reasonAgainst RX3 "reasonAgainst" rm_X3_reasonAgainst (some .int) 3 bc bs true) : am_S G 78 (t_X3_reasonAgainst_78) := by
  unfold t_X3_reasonAgainst_78
  refine as_aload_n (pc := 78) X dX3_reasonAgainst_78 rfl ?_
  refine as_getR (ci := 3) (j := 9) (pc := 79) X (Cn := RX3) (Tf := TX3) (N := 17) rfl rfl (by decide) iw_X3 aw_172 rfl dX3_reasonAgainst_79 ?_
  refine as_iload_n (pc := 82) X dX3_reasonAgainst_82 rfl ?_
  refine as_iald (pc := 83) X dX3_reasonAgainst_83 ?_
  refine as_iload_n (pc := 84) X dX3_reasonAgainst_84 rfl ?_
  refine as_ic_ne (pc := 85) X 92 dX3_reasonAgainst_85 (by decide) (s_X3_reasonAgainst_92 X) ?_
  refine as_iconst (pc := 88) X dX3_reasonAgainst_88 (by decide) ?_
  exact as_goto (pc := 89) X 94 dX3_reasonAgainst_89 (by decide) (s_X3_reasonAgainst_94 X)
theorem s_X3_reasonAgainst_67 {G : am_G} {bc bs : Nat} (X : am_Cx G cX3_reasonAgainst RX3 "reasonAgainst" rm_X3_reasonAgainst (some .int) 3 bc bs true) : am_S G 67 (t_X3_reasonAgainst_67) := by
  unfold t_X3_reasonAgainst_67
  refine as_aload_n (pc := 67) X dX3_reasonAgainst_67 rfl ?_
  refine as_iload_n (pc := 68) X dX3_reasonAgainst_68 rfl ?_
  refine as_iload_n (pc := 69) X dX3_reasonAgainst_69 rfl ?_
  refine as_callV (ci := 3) (np := 2) (ix := 153) (pc := 70) X ct_X3_isPassed (Cn := (RX3, TX3, 17)) rfl ⟨rfl, rfl⟩ aw_463 aw_465 aw_12 aw_466 aw_60 (by decide +kernel) (by decide) dX3_reasonAgainst_70 ?_
  refine as_if_ne (pc := 73) X 78 dX3_reasonAgainst_73 (by decide) (s_X3_reasonAgainst_78 X) ?_
  refine as_iconst (pc := 76) X dX3_reasonAgainst_76 (by decide) ?_
  exact as_iret (pc := 77) X ⟨rfl, rfl⟩ rfl dX3_reasonAgainst_77
theorem s_X3_reasonAgainst_56 {G : am_G} {bc bs : Nat} (X : am_Cx G cX3_reasonAgainst RX3 "reasonAgainst" rm_X3_reasonAgainst (some .int) 3 bc bs true) : am_S G 56 (t_X3_reasonAgainst_56) := by
  unfold t_X3_reasonAgainst_56
  refine as_aload_n (pc := 56) X dX3_reasonAgainst_56 rfl ?_
  refine as_iload_n (pc := 57) X dX3_reasonAgainst_57 rfl ?_
  refine as_iload_n (pc := 58) X dX3_reasonAgainst_58 rfl ?_
  refine as_callV (ci := 3) (np := 2) (ix := 122) (pc := 59) X ct_X3_isInWindow (Cn := (RX3, TX3, 17)) rfl ⟨rfl, rfl⟩ aw_435 aw_437 aw_7 aw_438 aw_60 (by decide +kernel) (by decide) dX3_reasonAgainst_59 ?_
  refine as_if_ne (pc := 62) X 67 dX3_reasonAgainst_62 (by decide) (s_X3_reasonAgainst_67 X) ?_
  refine as_iconst (pc := 65) X dX3_reasonAgainst_65 (by decide) ?_
  exact as_iret (pc := 66) X ⟨rfl, rfl⟩ rfl dX3_reasonAgainst_66
theorem s_X3_reasonAgainst_40 {G : am_G} {bc bs : Nat} (X : am_Cx G cX3_reasonAgainst RX3 "reasonAgainst" rm_X3_reasonAgainst (some .int) 3 bc bs true) : am_S G 40 (t_X3_reasonAgainst_40) := by
  unfold t_X3_reasonAgainst_40
  refine as_aload_n (pc := 40) X dX3_reasonAgainst_40 rfl ?_
  refine as_getR (ci := 3) (j := 0) (pc := 41) X (Cn := RX3) (Tf := TX3) (N := 17) rfl rfl (by decide) iw_X3 aw_159 rfl dX3_reasonAgainst_41 ?_
  refine as_iconst (pc := 44) X dX3_reasonAgainst_44 (by decide) ?_
  refine as_iload_n (pc := 45) X dX3_reasonAgainst_45 rfl ?_
  refine as_iload_n (pc := 46) X dX3_reasonAgainst_46 rfl ?_
  refine as_callV (ci := 1) (np := 3) (ix := 171) (pc := 47) X ct_X1_fixLike (Cn := (RX1, TX1, 14)) rfl ⟨rfl, rfl⟩ aw_511 aw_512 aw_513 aw_514 aw_61 (by decide +kernel) (by decide) dX3_reasonAgainst_47 ?_
  refine as_iconst (pc := 50) X dX3_reasonAgainst_50 (by decide) ?_
  refine as_ic_eq (pc := 51) X 56 dX3_reasonAgainst_51 (by decide) (s_X3_reasonAgainst_56 X) ?_
  refine as_iconst (pc := 54) X dX3_reasonAgainst_54 (by decide) ?_
  exact as_iret (pc := 55) X ⟨rfl, rfl⟩ rfl dX3_reasonAgainst_55
theorem s_X3_reasonAgainst_39 {G : am_G} {bc bs : Nat} (X : am_Cx G cX3_reasonAgainst RX3 "reasonAgainst" rm_X3_reasonAgainst (some .int) 3 bc bs true) : am_S G 39 (t_X3_reasonAgainst_39) := by
  unfold t_X3_reasonAgainst_39
  exact as_iret (pc := 39) X ⟨rfl, rfl⟩ rfl dX3_reasonAgainst_39
theorem s_X3_reasonAgainst_38 {G : am_G} {bc bs : Nat} (X : am_Cx G cX3_reasonAgainst RX3 "reasonAgainst" rm_X3_reasonAgainst (some .int) 3 bc bs true) : am_S G 38 (t_X3_reasonAgainst_38) := by
  unfold t_X3_reasonAgainst_38
  refine as_iconst (pc := 38) X dX3_reasonAgainst_38 (by decide) ?_
  exact s_X3_reasonAgainst_39 X
theorem s_X3_reasonAgainst_14 {G : am_G} {bc bs : Nat} (X : am_Cx G cX3_reasonAgainst RX3 "reasonAgainst" rm_X3_reasonAgainst (some .int) 3 bc bs true) : am_S G 14 (t_X3_reasonAgainst_14) := by
  unfold t_X3_reasonAgainst_14
  refine as_aload_n (pc := 14) X dX3_reasonAgainst_14 rfl ?_
  refine as_getR (ci := 3) (j := 5) (pc := 15) X (Cn := RX3) (Tf := TX3) (N := 17) rfl rfl (by decide) iw_X3 aw_168 rfl dX3_reasonAgainst_15 ?_
  refine as_iload_n (pc := 18) X dX3_reasonAgainst_18 rfl ?_
  refine as_iald (pc := 19) X dX3_reasonAgainst_19 ?_
  refine as_iconst (pc := 20) X dX3_reasonAgainst_20 (by decide) ?_
  refine as_ic_eq (pc := 21) X 40 dX3_reasonAgainst_21 (by decide) (s_X3_reasonAgainst_40 X) ?_
  refine as_aload_n (pc := 24) X dX3_reasonAgainst_24 rfl ?_
  refine as_getR (ci := 3) (j := 9) (pc := 25) X (Cn := RX3) (Tf := TX3) (N := 17) rfl rfl (by decide) iw_X3 aw_172 rfl dX3_reasonAgainst_25 ?_
  refine as_iload_n (pc := 28) X dX3_reasonAgainst_28 rfl ?_
  refine as_iald (pc := 29) X dX3_reasonAgainst_29 ?_
  refine as_iload_n (pc := 30) X dX3_reasonAgainst_30 rfl ?_
  refine as_ic_ne (pc := 31) X 38 dX3_reasonAgainst_31 (by decide) (s_X3_reasonAgainst_38 X) ?_
  refine as_iconst (pc := 34) X dX3_reasonAgainst_34 (by decide) ?_
  exact as_goto (pc := 35) X 39 dX3_reasonAgainst_35 (by decide) (s_X3_reasonAgainst_39 X)
theorem s_X3_reasonAgainst_0 {G : am_G} {bc bs : Nat} (X : am_Cx G cX3_reasonAgainst RX3 "reasonAgainst" rm_X3_reasonAgainst (some .int) 3 bc bs true) : am_S G 0 (t_X3_reasonAgainst_0) := by
  unfold t_X3_reasonAgainst_0
  refine as_aload_n (pc := 0) X dX3_reasonAgainst_0 rfl ?_
  refine as_getR (ci := 3) (j := 0) (pc := 1) X (Cn := RX3) (Tf := TX3) (N := 17) rfl rfl (by decide) iw_X3 aw_159 rfl dX3_reasonAgainst_1 ?_
  refine as_iload_n (pc := 4) X dX3_reasonAgainst_4 rfl ?_
  refine as_iload_n (pc := 5) X dX3_reasonAgainst_5 rfl ?_
  refine as_callV (ci := 1) (np := 2) (ix := 168) (pc := 6) X ct_X1_isEarlier (Cn := (RX1, TX1, 14)) rfl ⟨rfl, rfl⟩ aw_510 aw_498 aw_499 aw_500 aw_61 (by decide +kernel) (by decide) dX3_reasonAgainst_6 ?_
  refine as_if_ne (pc := 9) X 14 dX3_reasonAgainst_9 (by decide) (s_X3_reasonAgainst_14 X) ?_
  refine as_iconst (pc := 12) X dX3_reasonAgainst_12 (by decide) ?_
  exact as_iret (pc := 13) X ⟨rfl, rfl⟩ rfl dX3_reasonAgainst_13
theorem s_X3_reasonAgainst {G : am_G} {bc bs : Nat} (X : am_Cx G cX3_reasonAgainst RX3 "reasonAgainst" rm_X3_reasonAgainst (some .int) 3 bc bs true) (h : Nat) : am_S G h (h_X3_reasonAgainst h) := by
  unfold h_X3_reasonAgainst
  split
  · next e => rw [e]; exact s_X3_reasonAgainst_0 X
  exact as_bad
theorem ct_X3_reasonAgainst : am_Ct yX3_reasonAgainst cX3_reasonAgainst 3 (some .int) rm_X3_reasonAgainst sp_X3_reasonAgainst := am_met (own := RX3) (nm := "reasonAgainst") (by decide) rfl rfl (Or.inr (Or.inl rfl)) (fun _ _ => h_X3_reasonAgainst) (fun _ _ _ X => s_X3_reasonAgainst X) (fun _ _ _ _ h => h)
-- X4_reason
theorem dX4_reason_0 : decode cX4_reason 0 = .ok (.aload_n 0, 1) := by decide +kernel
theorem dX4_reason_1 : decode cX4_reason 1 = .ok (.getfield 20, 3) := by decide +kernel
theorem dX4_reason_4 : decode cX4_reason 4 = .ok (.iload_n 1, 1) := by decide +kernel
theorem dX4_reason_5 : decode cX4_reason 5 = .ok (.invokevirtual 93, 3) := by decide +kernel
theorem dX4_reason_8 : decode cX4_reason 8 = .ok (.ifCond .eq 14, 3) := by decide +kernel
theorem dX4_reason_11 : decode cX4_reason 11 = .ok (.aload_n 0, 1) := by decide +kernel
theorem dX4_reason_12 : decode cX4_reason 12 = .ok (.getfield 20, 3) := by decide +kernel
theorem dX4_reason_15 : decode cX4_reason 15 = .ok (.iload_n 2, 1) := by decide +kernel
theorem dX4_reason_16 : decode cX4_reason 16 = .ok (.invokevirtual 93, 3) := by decide +kernel
theorem dX4_reason_19 : decode cX4_reason 19 = .ok (.ifCond .ne 5, 3) := by decide +kernel
theorem dX4_reason_22 : decode cX4_reason 22 = .ok (.iconst (-1), 1) := by decide +kernel
theorem dX4_reason_23 : decode cX4_reason 23 = .ok (.ireturn, 1) := by decide +kernel
theorem dX4_reason_24 : decode cX4_reason 24 = .ok (.aload_n 0, 1) := by decide +kernel
theorem dX4_reason_25 : decode cX4_reason 25 = .ok (.invokevirtual 116, 3) := by decide +kernel
theorem dX4_reason_28 : decode cX4_reason 28 = .ok (.iload_n 1, 1) := by decide +kernel
theorem dX4_reason_29 : decode cX4_reason 29 = .ok (.iload_n 2, 1) := by decide +kernel
theorem dX4_reason_30 : decode cX4_reason 30 = .ok (.invokevirtual 149, 3) := by decide +kernel
theorem dX4_reason_33 : decode cX4_reason 33 = .ok (.ireturn, 1) := by decide +kernel
def t_X4_reason_24 : am_T := tb_aload 0 <|
  tb_callV 4 sp_X4_currentThreads 1 <|
  tb_iload 1 <|
  tb_iload 2 <|
  tb_callV 3 sp_X3_reasonAgainst 3 <|
  tb_iret
def t_X4_reason_22 : am_T := tb_const (-1) <|
  tb_iret
def t_X4_reason_0 : am_T := tb_aload 0 <|
  tb_getR 4 1 <|
  tb_iload 1 <|
  tb_callV 1 sp_X1_isLine 2 <|
  tb_if (fun x => x = 0) (t_X4_reason_22) <|
  tb_aload 0 <|
  tb_getR 4 1 <|
  tb_iload 2 <|
  tb_callV 1 sp_X1_isLine 2 <|
  tb_if (fun x => x ≠ 0) (t_X4_reason_24) <|
  t_X4_reason_22
def h_X4_reason : am_Hd := fun h => if h = 0 then t_X4_reason_0 else tb_bad
theorem h_X4_reason_0 : h_X4_reason 0 = t_X4_reason_0 := rfl
def rm_X4_reason : Room := { frames := 6, cells := 0, slots := 0, locals := 133 }
def sp_X4_reason : am_sp := fun as M Q => as.length ≤ 3 ∧ am_OK h_X4_reason Q 0 (am_in 3 as) M
theorem s_X4_reason_24 {G : am_G} {bc bs : Nat} (X : am_Cx G cX4_reason RX4 "reason" rm_X4_reason (some .int) 3 bc bs true) : am_S G 24 (t_X4_reason_24) := by
  unfold t_X4_reason_24
  refine as_aload_n (pc := 24) X dX4_reason_24 rfl ?_
  refine as_callV (ci := 4) (np := 0) (ix := 116) (pc := 25) X ct_X4_currentThreads (Cn := (RX4, TX4, 7)) rfl ⟨rfl, rfl⟩ aw_389 aw_391 aw_2 aw_392 aw_59 (by decide +kernel) (by decide) dX4_reason_25 ?_
  refine as_iload_n (pc := 28) X dX4_reason_28 rfl ?_
  refine as_iload_n (pc := 29) X dX4_reason_29 rfl ?_
  refine as_callV (ci := 3) (np := 2) (ix := 149) (pc := 30) X ct_X3_reasonAgainst (Cn := (RX3, TX3, 17)) rfl ⟨rfl, rfl⟩ aw_506 aw_507 aw_508 aw_509 aw_60 (by decide +kernel) (by decide) dX4_reason_30 ?_
  exact as_iret (pc := 33) X ⟨rfl, rfl⟩ rfl dX4_reason_33
theorem s_X4_reason_22 {G : am_G} {bc bs : Nat} (X : am_Cx G cX4_reason RX4 "reason" rm_X4_reason (some .int) 3 bc bs true) : am_S G 22 (t_X4_reason_22) := by
  unfold t_X4_reason_22
  refine as_iconst (pc := 22) X dX4_reason_22 (by decide) ?_
  exact as_iret (pc := 23) X ⟨rfl, rfl⟩ rfl dX4_reason_23
theorem s_X4_reason_0 {G : am_G} {bc bs : Nat} (X : am_Cx G cX4_reason RX4 "reason" rm_X4_reason (some .int) 3 bc bs true) : am_S G 0 (t_X4_reason_0) := by
  unfold t_X4_reason_0
  refine as_aload_n (pc := 0) X dX4_reason_0 rfl ?_
  refine as_getR (ci := 4) (j := 1) (pc := 1) X (Cn := RX4) (Tf := TX4) (N := 7) rfl rfl (by decide) iw_X4 aw_275 rfl dX4_reason_1 ?_
  refine as_iload_n (pc := 4) X dX4_reason_4 rfl ?_
  refine as_callV (ci := 1) (np := 1) (ix := 93) (pc := 5) X ct_X1_isLine (Cn := (RX1, TX1, 14)) rfl ⟨rfl, rfl⟩ aw_370 aw_371 aw_372 aw_373 aw_61 (by decide +kernel) (by decide) dX4_reason_5 ?_
  refine as_if_eq (pc := 8) X 22 dX4_reason_8 (by decide) (s_X4_reason_22 X) ?_
  refine as_aload_n (pc := 11) X dX4_reason_11 rfl ?_
  refine as_getR (ci := 4) (j := 1) (pc := 12) X (Cn := RX4) (Tf := TX4) (N := 7) rfl rfl (by decide) iw_X4 aw_275 rfl dX4_reason_12 ?_
  refine as_iload_n (pc := 15) X dX4_reason_15 rfl ?_
  refine as_callV (ci := 1) (np := 1) (ix := 93) (pc := 16) X ct_X1_isLine (Cn := (RX1, TX1, 14)) rfl ⟨rfl, rfl⟩ aw_370 aw_371 aw_372 aw_373 aw_61 (by decide +kernel) (by decide) dX4_reason_16 ?_
  refine as_if_ne (pc := 19) X 24 dX4_reason_19 (by decide) (s_X4_reason_24 X) ?_
  exact s_X4_reason_22 X
theorem s_X4_reason {G : am_G} {bc bs : Nat} (X : am_Cx G cX4_reason RX4 "reason" rm_X4_reason (some .int) 3 bc bs true) (h : Nat) : am_S G h (h_X4_reason h) := by
  unfold h_X4_reason
  split
  · next e => rw [e]; exact s_X4_reason_0 X
  exact as_bad
theorem ct_X4_reason : am_Ct yX4_reason cX4_reason 3 (some .int) rm_X4_reason sp_X4_reason := am_met (own := RX4) (nm := "reason") (by decide) rfl rfl (Or.inr (Or.inl rfl)) (fun _ _ => h_X4_reason) (fun _ _ _ X => s_X4_reason X) (fun _ _ _ _ h => h)
-- X5_reasonOf
theorem dX5_reasonOf_0 : decode cX5_reasonOf 0 = .ok (.aload_n 0, 1) := by decide +kernel
theorem dX5_reasonOf_1 : decode cX5_reasonOf 1 = .ok (.getfield 7, 3) := by decide +kernel
theorem dX5_reasonOf_4 : decode cX5_reasonOf 4 = .ok (.iload_n 1, 1) := by decide +kernel
theorem dX5_reasonOf_5 : decode cX5_reasonOf 5 = .ok (.invokestatic 96, 3) := by decide +kernel
theorem dX5_reasonOf_8 : decode cX5_reasonOf 8 = .ok (.istore_n 3, 1) := by decide +kernel
theorem dX5_reasonOf_9 : decode cX5_reasonOf 9 = .ok (.iload_n 3, 1) := by decide +kernel
theorem dX5_reasonOf_10 : decode cX5_reasonOf 10 = .ok (.bipush (-4), 2) := by decide +kernel
theorem dX5_reasonOf_12 : decode cX5_reasonOf 12 = .ok (.if_icmp .eq 7, 3) := by decide +kernel
theorem dX5_reasonOf_15 : decode cX5_reasonOf 15 = .ok (.iconst 1, 1) := by decide +kernel
theorem dX5_reasonOf_16 : decode cX5_reasonOf 16 = .ok (.goto 4, 3) := by decide +kernel
theorem dX5_reasonOf_19 : decode cX5_reasonOf 19 = .ok (.iconst 0, 1) := by decide +kernel
theorem dX5_reasonOf_20 : decode cX5_reasonOf 20 = .ok (.istore 4, 2) := by decide +kernel
theorem dX5_reasonOf_22 : decode cX5_reasonOf 22 = .ok (.iload 4, 2) := by decide +kernel
theorem dX5_reasonOf_24 : decode cX5_reasonOf 24 = .ok (.ifCond .eq 33, 3) := by decide +kernel
theorem dX5_reasonOf_27 : decode cX5_reasonOf 27 = .ok (.aload_n 0, 1) := by decide +kernel
theorem dX5_reasonOf_28 : decode cX5_reasonOf 28 = .ok (.getfield 7, 3) := by decide +kernel
theorem dX5_reasonOf_31 : decode cX5_reasonOf 31 = .ok (.iload_n 3, 1) := by decide +kernel
theorem dX5_reasonOf_32 : decode cX5_reasonOf 32 = .ok (.iconst 0, 1) := by decide +kernel
theorem dX5_reasonOf_33 : decode cX5_reasonOf 33 = .ok (.invokestatic 89, 3) := by decide +kernel
theorem dX5_reasonOf_36 : decode cX5_reasonOf 36 = .ok (.iconst 1, 1) := by decide +kernel
theorem dX5_reasonOf_37 : decode cX5_reasonOf 37 = .ok (.if_icmp .ne 20, 3) := by decide +kernel
theorem dX5_reasonOf_40 : decode cX5_reasonOf 40 = .ok (.aload_n 0, 1) := by decide +kernel
theorem dX5_reasonOf_41 : decode cX5_reasonOf 41 = .ok (.getfield 7, 3) := by decide +kernel
theorem dX5_reasonOf_44 : decode cX5_reasonOf 44 = .ok (.iload_n 3, 1) := by decide +kernel
theorem dX5_reasonOf_45 : decode cX5_reasonOf 45 = .ok (.iconst 2, 1) := by decide +kernel
theorem dX5_reasonOf_46 : decode cX5_reasonOf 46 = .ok (.invokestatic 89, 3) := by decide +kernel
theorem dX5_reasonOf_49 : decode cX5_reasonOf 49 = .ok (.iload_n 2, 1) := by decide +kernel
theorem dX5_reasonOf_50 : decode cX5_reasonOf 50 = .ok (.if_icmp .ne 7, 3) := by decide +kernel
theorem dX5_reasonOf_53 : decode cX5_reasonOf 53 = .ok (.iconst 1, 1) := by decide +kernel
theorem dX5_reasonOf_54 : decode cX5_reasonOf 54 = .ok (.goto 4, 3) := by decide +kernel
theorem dX5_reasonOf_57 : decode cX5_reasonOf 57 = .ok (.iconst 0, 1) := by decide +kernel
theorem dX5_reasonOf_58 : decode cX5_reasonOf 58 = .ok (.istore 5, 2) := by decide +kernel
theorem dX5_reasonOf_60 : decode cX5_reasonOf 60 = .ok (.aload_n 0, 1) := by decide +kernel
theorem dX5_reasonOf_61 : decode cX5_reasonOf 61 = .ok (.getfield 25, 3) := by decide +kernel
theorem dX5_reasonOf_64 : decode cX5_reasonOf 64 = .ok (.iload_n 2, 1) := by decide +kernel
theorem dX5_reasonOf_65 : decode cX5_reasonOf 65 = .ok (.iaload, 1) := by decide +kernel
theorem dX5_reasonOf_66 : decode cX5_reasonOf 66 = .ok (.aload_n 0, 1) := by decide +kernel
theorem dX5_reasonOf_67 : decode cX5_reasonOf 67 = .ok (.getfield 25, 3) := by decide +kernel
theorem dX5_reasonOf_70 : decode cX5_reasonOf 70 = .ok (.iload_n 1, 1) := by decide +kernel
theorem dX5_reasonOf_71 : decode cX5_reasonOf 71 = .ok (.iaload, 1) := by decide +kernel
theorem dX5_reasonOf_72 : decode cX5_reasonOf 72 = .ok (.if_icmp .lt 5, 3) := by decide +kernel
theorem dX5_reasonOf_75 : decode cX5_reasonOf 75 = .ok (.iconst 1, 1) := by decide +kernel
theorem dX5_reasonOf_76 : decode cX5_reasonOf 76 = .ok (.ireturn, 1) := by decide +kernel
theorem dX5_reasonOf_77 : decode cX5_reasonOf 77 = .ok (.iload 4, 2) := by decide +kernel
theorem dX5_reasonOf_79 : decode cX5_reasonOf 79 = .ok (.ifCond .eq 10, 3) := by decide +kernel
theorem dX5_reasonOf_82 : decode cX5_reasonOf 82 = .ok (.iload 5, 2) := by decide +kernel
theorem dX5_reasonOf_84 : decode cX5_reasonOf 84 = .ok (.ifCond .ne 5, 3) := by decide +kernel
theorem dX5_reasonOf_87 : decode cX5_reasonOf 87 = .ok (.iconst 2, 1) := by decide +kernel
theorem dX5_reasonOf_88 : decode cX5_reasonOf 88 = .ok (.ireturn, 1) := by decide +kernel
theorem dX5_reasonOf_89 : decode cX5_reasonOf 89 = .ok (.aload_n 0, 1) := by decide +kernel
theorem dX5_reasonOf_90 : decode cX5_reasonOf 90 = .ok (.getfield 7, 3) := by decide +kernel
theorem dX5_reasonOf_93 : decode cX5_reasonOf 93 = .ok (.iconst 2, 1) := by decide +kernel
theorem dX5_reasonOf_94 : decode cX5_reasonOf 94 = .ok (.iload_n 1, 1) := by decide +kernel
theorem dX5_reasonOf_95 : decode cX5_reasonOf 95 = .ok (.iload_n 2, 1) := by decide +kernel
theorem dX5_reasonOf_96 : decode cX5_reasonOf 96 = .ok (.invokestatic 92, 3) := by decide +kernel
theorem dX5_reasonOf_99 : decode cX5_reasonOf 99 = .ok (.bipush (-4), 2) := by decide +kernel
theorem dX5_reasonOf_101 : decode cX5_reasonOf 101 = .ok (.if_icmp .eq 10, 3) := by decide +kernel
theorem dX5_reasonOf_104 : decode cX5_reasonOf 104 = .ok (.iload 5, 2) := by decide +kernel
theorem dX5_reasonOf_106 : decode cX5_reasonOf 106 = .ok (.ifCond .ne 5, 3) := by decide +kernel
theorem dX5_reasonOf_109 : decode cX5_reasonOf 109 = .ok (.iconst 3, 1) := by decide +kernel
theorem dX5_reasonOf_110 : decode cX5_reasonOf 110 = .ok (.ireturn, 1) := by decide +kernel
theorem dX5_reasonOf_111 : decode cX5_reasonOf 111 = .ok (.iload 4, 2) := by decide +kernel
theorem dX5_reasonOf_113 : decode cX5_reasonOf 113 = .ok (.ifCond .ne 33, 3) := by decide +kernel
theorem dX5_reasonOf_116 : decode cX5_reasonOf 116 = .ok (.aload_n 0, 1) := by decide +kernel
theorem dX5_reasonOf_117 : decode cX5_reasonOf 117 = .ok (.getfield 7, 3) := by decide +kernel
theorem dX5_reasonOf_120 : decode cX5_reasonOf 120 = .ok (.iload_n 1, 1) := by decide +kernel
theorem dX5_reasonOf_121 : decode cX5_reasonOf 121 = .ok (.iconst 0, 1) := by decide +kernel
theorem dX5_reasonOf_122 : decode cX5_reasonOf 122 = .ok (.invokestatic 71, 3) := by decide +kernel
theorem dX5_reasonOf_125 : decode cX5_reasonOf 125 = .ok (.aload_n 0, 1) := by decide +kernel
theorem dX5_reasonOf_126 : decode cX5_reasonOf 126 = .ok (.getfield 7, 3) := by decide +kernel
theorem dX5_reasonOf_129 : decode cX5_reasonOf 129 = .ok (.iload_n 2, 1) := by decide +kernel
theorem dX5_reasonOf_130 : decode cX5_reasonOf 130 = .ok (.iconst 0, 1) := by decide +kernel
theorem dX5_reasonOf_131 : decode cX5_reasonOf 131 = .ok (.invokestatic 71, 3) := by decide +kernel
theorem dX5_reasonOf_134 : decode cX5_reasonOf 134 = .ok (.isub, 1) := by decide +kernel
theorem dX5_reasonOf_135 : decode cX5_reasonOf 135 = .ok (.aload_n 0, 1) := by decide +kernel
theorem dX5_reasonOf_136 : decode cX5_reasonOf 136 = .ok (.getfield 7, 3) := by decide +kernel
theorem dX5_reasonOf_139 : decode cX5_reasonOf 139 = .ok (.iconst 0, 1) := by decide +kernel
theorem dX5_reasonOf_140 : decode cX5_reasonOf 140 = .ok (.iaload, 1) := by decide +kernel
theorem dX5_reasonOf_141 : decode cX5_reasonOf 141 = .ok (.if_icmp .le 5, 3) := by decide +kernel
theorem dX5_reasonOf_144 : decode cX5_reasonOf 144 = .ok (.iconst 4, 1) := by decide +kernel
theorem dX5_reasonOf_145 : decode cX5_reasonOf 145 = .ok (.ireturn, 1) := by decide +kernel
theorem dX5_reasonOf_146 : decode cX5_reasonOf 146 = .ok (.iload 4, 2) := by decide +kernel
theorem dX5_reasonOf_148 : decode cX5_reasonOf 148 = .ok (.ifCond .ne 25, 3) := by decide +kernel
theorem dX5_reasonOf_151 : decode cX5_reasonOf 151 = .ok (.aload_n 0, 1) := by decide +kernel
theorem dX5_reasonOf_152 : decode cX5_reasonOf 152 = .ok (.getfield 31, 3) := by decide +kernel
theorem dX5_reasonOf_155 : decode cX5_reasonOf 155 = .ok (.bipush 30, 2) := by decide +kernel
theorem dX5_reasonOf_157 : decode cX5_reasonOf 157 = .ok (.iload_n 1, 1) := by decide +kernel
theorem dX5_reasonOf_158 : decode cX5_reasonOf 158 = .ok (.imul, 1) := by decide +kernel
theorem dX5_reasonOf_159 : decode cX5_reasonOf 159 = .ok (.iload_n 2, 1) := by decide +kernel
theorem dX5_reasonOf_160 : decode cX5_reasonOf 160 = .ok (.iadd, 1) := by decide +kernel
theorem dX5_reasonOf_161 : decode cX5_reasonOf 161 = .ok (.iaload, 1) := by decide +kernel
theorem dX5_reasonOf_162 : decode cX5_reasonOf 162 = .ok (.aload_n 0, 1) := by decide +kernel
theorem dX5_reasonOf_163 : decode cX5_reasonOf 163 = .ok (.getfield 7, 3) := by decide +kernel
theorem dX5_reasonOf_166 : decode cX5_reasonOf 166 = .ok (.iconst 1, 1) := by decide +kernel
theorem dX5_reasonOf_167 : decode cX5_reasonOf 167 = .ok (.iaload, 1) := by decide +kernel
theorem dX5_reasonOf_168 : decode cX5_reasonOf 168 = .ok (.if_icmp .ge 5, 3) := by decide +kernel
theorem dX5_reasonOf_171 : decode cX5_reasonOf 171 = .ok (.iconst 5, 1) := by decide +kernel
theorem dX5_reasonOf_172 : decode cX5_reasonOf 172 = .ok (.ireturn, 1) := by decide +kernel
theorem dX5_reasonOf_173 : decode cX5_reasonOf 173 = .ok (.aload_n 0, 1) := by decide +kernel
theorem dX5_reasonOf_174 : decode cX5_reasonOf 174 = .ok (.getfield 34, 3) := by decide +kernel
theorem dX5_reasonOf_177 : decode cX5_reasonOf 177 = .ok (.iload_n 1, 1) := by decide +kernel
theorem dX5_reasonOf_178 : decode cX5_reasonOf 178 = .ok (.iaload, 1) := by decide +kernel
theorem dX5_reasonOf_179 : decode cX5_reasonOf 179 = .ok (.iload_n 2, 1) := by decide +kernel
theorem dX5_reasonOf_180 : decode cX5_reasonOf 180 = .ok (.if_icmp .eq 8, 3) := by decide +kernel
theorem dX5_reasonOf_183 : decode cX5_reasonOf 183 = .ok (.bipush 6, 2) := by decide +kernel
theorem dX5_reasonOf_185 : decode cX5_reasonOf 185 = .ok (.goto 4, 3) := by decide +kernel
theorem dX5_reasonOf_188 : decode cX5_reasonOf 188 = .ok (.iconst 0, 1) := by decide +kernel
theorem dX5_reasonOf_189 : decode cX5_reasonOf 189 = .ok (.ireturn, 1) := by decide +kernel
def t_X5_reasonOf_189 : am_T := tb_iret
def t_X5_reasonOf_188 : am_T := tb_const 0 <|
  t_X5_reasonOf_189
def t_X5_reasonOf_173 : am_T := tb_aload 0 <|
  tb_getR 5 10 <|
  tb_iload 1 <|
  tb_iald <|
  tb_iload 2 <|
  tb_ic (fun x y => x = y) (t_X5_reasonOf_188) <|
  tb_const 6 <|
  t_X5_reasonOf_189
def t_X5_reasonOf_146 : am_T := tb_iload 4 <|
  tb_if (fun x => x ≠ 0) (t_X5_reasonOf_173) <|
  tb_aload 0 <|
  tb_getR 5 9 <|
  tb_const 30 <|
  tb_iload 1 <|
  tb_bin (fun x y => x * y) <|
  tb_iload 2 <|
  tb_bin (fun x y => x + y) <|
  tb_iald <|
  tb_aload 0 <|
  tb_getR 5 0 <|
  tb_const 1 <|
  tb_iald <|
  tb_ic (fun x y => y ≤ x) (t_X5_reasonOf_173) <|
  tb_const 5 <|
  tb_iret
def t_X5_reasonOf_111 : am_T := tb_iload 4 <|
  tb_if (fun x => x ≠ 0) (t_X5_reasonOf_146) <|
  tb_aload 0 <|
  tb_getR 5 0 <|
  tb_iload 1 <|
  tb_const 0 <|
  tb_callS sp_X5_of 3 <|
  tb_aload 0 <|
  tb_getR 5 0 <|
  tb_iload 2 <|
  tb_const 0 <|
  tb_callS sp_X5_of 3 <|
  tb_bin (fun x y => x - y) <|
  tb_aload 0 <|
  tb_getR 5 0 <|
  tb_const 0 <|
  tb_iald <|
  tb_ic (fun x y => x ≤ y) (t_X5_reasonOf_146) <|
  tb_const 4 <|
  tb_iret
def t_X5_reasonOf_89 : am_T := tb_aload 0 <|
  tb_getR 5 0 <|
  tb_const 2 <|
  tb_iload 1 <|
  tb_iload 2 <|
  tb_callS sp_X5_find 4 <|
  tb_const (-4) <|
  tb_ic (fun x y => x = y) (t_X5_reasonOf_111) <|
  tb_iload 5 <|
  tb_if (fun x => x ≠ 0) (t_X5_reasonOf_111) <|
  tb_const 3 <|
  tb_iret
def t_X5_reasonOf_77 : am_T := tb_iload 4 <|
  tb_if (fun x => x = 0) (t_X5_reasonOf_89) <|
  tb_iload 5 <|
  tb_if (fun x => x ≠ 0) (t_X5_reasonOf_89) <|
  tb_const 2 <|
  tb_iret
def t_X5_reasonOf_58 : am_T := tb_istore 5 <|
  tb_aload 0 <|
  tb_getR 5 7 <|
  tb_iload 2 <|
  tb_iald <|
  tb_aload 0 <|
  tb_getR 5 7 <|
  tb_iload 1 <|
  tb_iald <|
  tb_ic (fun x y => x < y) (t_X5_reasonOf_77) <|
  tb_const 1 <|
  tb_iret
def t_X5_reasonOf_57 : am_T := tb_const 0 <|
  t_X5_reasonOf_58
def t_X5_reasonOf_20 : am_T := tb_istore 4 <|
  tb_iload 4 <|
  tb_if (fun x => x = 0) (t_X5_reasonOf_57) <|
  tb_aload 0 <|
  tb_getR 5 0 <|
  tb_iload 3 <|
  tb_const 0 <|
  tb_callS sp_X5_told 3 <|
  tb_const 1 <|
  tb_ic (fun x y => x ≠ y) (t_X5_reasonOf_57) <|
  tb_aload 0 <|
  tb_getR 5 0 <|
  tb_iload 3 <|
  tb_const 2 <|
  tb_callS sp_X5_told 3 <|
  tb_iload 2 <|
  tb_ic (fun x y => x ≠ y) (t_X5_reasonOf_57) <|
  tb_const 1 <|
  t_X5_reasonOf_58
def t_X5_reasonOf_19 : am_T := tb_const 0 <|
  t_X5_reasonOf_20
def t_X5_reasonOf_0 : am_T := tb_aload 0 <|
  tb_getR 5 0 <|
  tb_iload 1 <|
  tb_callS sp_X5_counting 2 <|
  tb_istore 3 <|
  tb_iload 3 <|
  tb_const (-4) <|
  tb_ic (fun x y => x = y) (t_X5_reasonOf_19) <|
  tb_const 1 <|
  t_X5_reasonOf_20
def h_X5_reasonOf : am_Hd := fun h => if h = 0 then t_X5_reasonOf_0 else tb_bad
theorem h_X5_reasonOf_0 : h_X5_reasonOf 0 = t_X5_reasonOf_0 := rfl
def rm_X5_reasonOf : Room := { frames := 2, cells := 0, slots := 0, locals := 48 }
def sp_X5_reasonOf : am_sp := fun as M Q => as.length ≤ 6 ∧ am_OK h_X5_reasonOf Q 0 (am_in 6 as) M
theorem s_X5_reasonOf_189 {G : am_G} {bc bs : Nat} (X : am_Cx G cX5_reasonOf RX5 "reasonOf" rm_X5_reasonOf (some .int) 6 bc bs true) : am_S G 189 (t_X5_reasonOf_189) := by
  unfold t_X5_reasonOf_189
  exact as_iret (pc := 189) X ⟨rfl, rfl⟩ rfl dX5_reasonOf_189
theorem s_X5_reasonOf_188 {G : am_G} {bc bs : Nat} (X : am_Cx G cX5_reasonOf RX5 "reasonOf" rm_X5_reasonOf (some .int) 6 bc bs true) : am_S G 188 (t_X5_reasonOf_188) := by
  unfold t_X5_reasonOf_188
  refine as_iconst (pc := 188) X dX5_reasonOf_188 (by decide) ?_
  exact s_X5_reasonOf_189 X
theorem s_X5_reasonOf_173 {G : am_G} {bc bs : Nat} (X : am_Cx G cX5_reasonOf RX5 "reasonOf" rm_X5_reasonOf (some .int) 6 bc bs true) : am_S G 173 (t_X5_reasonOf_173) := by
  unfold t_X5_reasonOf_173
  refine as_aload_n (pc := 173) X dX5_reasonOf_173 rfl ?_
  refine as_getR (ci := 5) (j := 10) (pc := 174) X (Cn := RX5) (Tf := TX5) (N := 21) rfl rfl (by decide) iw_X5 aw_748 rfl dX5_reasonOf_174 ?_
  refine as_iload_n (pc := 177) X dX5_reasonOf_177 rfl ?_
  refine as_iald (pc := 178) X dX5_reasonOf_178 ?_
  refine as_iload_n (pc := 179) X dX5_reasonOf_179 rfl ?_
  refine as_ic_eq (pc := 180) X 188 dX5_reasonOf_180 (by decide) (s_X5_reasonOf_188 X) ?_
  refine as_bipush (pc := 183) X dX5_reasonOf_183 (by decide) ?_
  exact as_goto (pc := 185) X 189 dX5_reasonOf_185 (by decide) (s_X5_reasonOf_189 X)
theorem s_X5_reasonOf_146 {G : am_G} {bc bs : Nat} (X : am_Cx G cX5_reasonOf RX5 "reasonOf" rm_X5_reasonOf (some .int) 6 bc bs true) : am_S G 146 (t_X5_reasonOf_146) := by
  unfold t_X5_reasonOf_146
  refine as_iload (pc := 146) X dX5_reasonOf_146 ?_
  refine as_if_ne (pc := 148) X 173 dX5_reasonOf_148 (by decide) (s_X5_reasonOf_173 X) ?_
  refine as_aload_n (pc := 151) X dX5_reasonOf_151 rfl ?_
  refine as_getR (ci := 5) (j := 9) (pc := 152) X (Cn := RX5) (Tf := TX5) (N := 21) rfl rfl (by decide) iw_X5 aw_747 rfl dX5_reasonOf_152 ?_
  refine as_bipush (pc := 155) X dX5_reasonOf_155 (by decide) ?_
  refine as_iload_n (pc := 157) X dX5_reasonOf_157 rfl ?_
  refine as_imul (pc := 158) X dX5_reasonOf_158 ?_
  refine as_iload_n (pc := 159) X dX5_reasonOf_159 rfl ?_
  refine as_iadd (pc := 160) X dX5_reasonOf_160 ?_
  refine as_iald (pc := 161) X dX5_reasonOf_161 ?_
  refine as_aload_n (pc := 162) X dX5_reasonOf_162 rfl ?_
  refine as_getR (ci := 5) (j := 0) (pc := 163) X (Cn := RX5) (Tf := TX5) (N := 21) rfl rfl (by decide) iw_X5 aw_738 rfl dX5_reasonOf_163 ?_
  refine as_iconst (pc := 166) X dX5_reasonOf_166 (by decide) ?_
  refine as_iald (pc := 167) X dX5_reasonOf_167 ?_
  refine as_ic_ge (pc := 168) X 173 dX5_reasonOf_168 (by decide) (s_X5_reasonOf_173 X) ?_
  refine as_iconst (pc := 171) X dX5_reasonOf_171 (by decide) ?_
  exact as_iret (pc := 172) X ⟨rfl, rfl⟩ rfl dX5_reasonOf_172
theorem s_X5_reasonOf_111 {G : am_G} {bc bs : Nat} (X : am_Cx G cX5_reasonOf RX5 "reasonOf" rm_X5_reasonOf (some .int) 6 bc bs true) : am_S G 111 (t_X5_reasonOf_111) := by
  unfold t_X5_reasonOf_111
  refine as_iload (pc := 111) X dX5_reasonOf_111 ?_
  refine as_if_ne (pc := 113) X 146 dX5_reasonOf_113 (by decide) (s_X5_reasonOf_146 X) ?_
  refine as_aload_n (pc := 116) X dX5_reasonOf_116 rfl ?_
  refine as_getR (ci := 5) (j := 0) (pc := 117) X (Cn := RX5) (Tf := TX5) (N := 21) rfl rfl (by decide) iw_X5 aw_738 rfl dX5_reasonOf_117 ?_
  refine as_iload_n (pc := 120) X dX5_reasonOf_120 rfl ?_
  refine as_iconst (pc := 121) X dX5_reasonOf_121 (by decide) ?_
  refine as_callS (np := 3) (ix := 71) (pc := 122) X ct_X5_of ⟨rfl, rfl⟩ aw_873 aw_874 aw_875 aw_65 (by decide +kernel) (by decide) dX5_reasonOf_122 ?_
  refine as_aload_n (pc := 125) X dX5_reasonOf_125 rfl ?_
  refine as_getR (ci := 5) (j := 0) (pc := 126) X (Cn := RX5) (Tf := TX5) (N := 21) rfl rfl (by decide) iw_X5 aw_738 rfl dX5_reasonOf_126 ?_
  refine as_iload_n (pc := 129) X dX5_reasonOf_129 rfl ?_
  refine as_iconst (pc := 130) X dX5_reasonOf_130 (by decide) ?_
  refine as_callS (np := 3) (ix := 71) (pc := 131) X ct_X5_of ⟨rfl, rfl⟩ aw_873 aw_874 aw_875 aw_65 (by decide +kernel) (by decide) dX5_reasonOf_131 ?_
  refine as_isub (pc := 134) X dX5_reasonOf_134 ?_
  refine as_aload_n (pc := 135) X dX5_reasonOf_135 rfl ?_
  refine as_getR (ci := 5) (j := 0) (pc := 136) X (Cn := RX5) (Tf := TX5) (N := 21) rfl rfl (by decide) iw_X5 aw_738 rfl dX5_reasonOf_136 ?_
  refine as_iconst (pc := 139) X dX5_reasonOf_139 (by decide) ?_
  refine as_iald (pc := 140) X dX5_reasonOf_140 ?_
  refine as_ic_le (pc := 141) X 146 dX5_reasonOf_141 (by decide) (s_X5_reasonOf_146 X) ?_
  refine as_iconst (pc := 144) X dX5_reasonOf_144 (by decide) ?_
  exact as_iret (pc := 145) X ⟨rfl, rfl⟩ rfl dX5_reasonOf_145
theorem s_X5_reasonOf_89 {G : am_G} {bc bs : Nat} (X : am_Cx G cX5_reasonOf RX5 "reasonOf" rm_X5_reasonOf (some .int) 6 bc bs true) : am_S G 89 (t_X5_reasonOf_89) := by
  unfold t_X5_reasonOf_89
  refine as_aload_n (pc := 89) X dX5_reasonOf_89 rfl ?_
  refine as_getR (ci := 5) (j := 0) (pc := 90) X (Cn := RX5) (Tf := TX5) (N := 21) rfl rfl (by decide) iw_X5 aw_738 rfl dX5_reasonOf_90 ?_
  refine as_iconst (pc := 93) X dX5_reasonOf_93 (by decide) ?_
  refine as_iload_n (pc := 94) X dX5_reasonOf_94 rfl ?_
  refine as_iload_n (pc := 95) X dX5_reasonOf_95 rfl ?_
  refine as_callS (np := 4) (ix := 92) (pc := 96) X ct_X5_find ⟨rfl, rfl⟩ aw_901 aw_902 aw_903 aw_65 (by decide +kernel) (by decide) dX5_reasonOf_96 ?_
  refine as_bipush (pc := 99) X dX5_reasonOf_99 (by decide) ?_
  refine as_ic_eq (pc := 101) X 111 dX5_reasonOf_101 (by decide) (s_X5_reasonOf_111 X) ?_
  refine as_iload (pc := 104) X dX5_reasonOf_104 ?_
  refine as_if_ne (pc := 106) X 111 dX5_reasonOf_106 (by decide) (s_X5_reasonOf_111 X) ?_
  refine as_iconst (pc := 109) X dX5_reasonOf_109 (by decide) ?_
  exact as_iret (pc := 110) X ⟨rfl, rfl⟩ rfl dX5_reasonOf_110
theorem s_X5_reasonOf_77 {G : am_G} {bc bs : Nat} (X : am_Cx G cX5_reasonOf RX5 "reasonOf" rm_X5_reasonOf (some .int) 6 bc bs true) : am_S G 77 (t_X5_reasonOf_77) := by
  unfold t_X5_reasonOf_77
  refine as_iload (pc := 77) X dX5_reasonOf_77 ?_
  refine as_if_eq (pc := 79) X 89 dX5_reasonOf_79 (by decide) (s_X5_reasonOf_89 X) ?_
  refine as_iload (pc := 82) X dX5_reasonOf_82 ?_
  refine as_if_ne (pc := 84) X 89 dX5_reasonOf_84 (by decide) (s_X5_reasonOf_89 X) ?_
  refine as_iconst (pc := 87) X dX5_reasonOf_87 (by decide) ?_
  exact as_iret (pc := 88) X ⟨rfl, rfl⟩ rfl dX5_reasonOf_88
theorem s_X5_reasonOf_58 {G : am_G} {bc bs : Nat} (X : am_Cx G cX5_reasonOf RX5 "reasonOf" rm_X5_reasonOf (some .int) 6 bc bs true) : am_S G 58 (t_X5_reasonOf_58) := by
  unfold t_X5_reasonOf_58
  refine as_istore (pc := 58) X dX5_reasonOf_58 ?_ (by decide)
  refine as_aload_n (pc := 60) X dX5_reasonOf_60 rfl ?_
  refine as_getR (ci := 5) (j := 7) (pc := 61) X (Cn := RX5) (Tf := TX5) (N := 21) rfl rfl (by decide) iw_X5 aw_745 rfl dX5_reasonOf_61 ?_
  refine as_iload_n (pc := 64) X dX5_reasonOf_64 rfl ?_
  refine as_iald (pc := 65) X dX5_reasonOf_65 ?_
  refine as_aload_n (pc := 66) X dX5_reasonOf_66 rfl ?_
  refine as_getR (ci := 5) (j := 7) (pc := 67) X (Cn := RX5) (Tf := TX5) (N := 21) rfl rfl (by decide) iw_X5 aw_745 rfl dX5_reasonOf_67 ?_
  refine as_iload_n (pc := 70) X dX5_reasonOf_70 rfl ?_
  refine as_iald (pc := 71) X dX5_reasonOf_71 ?_
  refine as_ic_lt (pc := 72) X 77 dX5_reasonOf_72 (by decide) (s_X5_reasonOf_77 X) ?_
  refine as_iconst (pc := 75) X dX5_reasonOf_75 (by decide) ?_
  exact as_iret (pc := 76) X ⟨rfl, rfl⟩ rfl dX5_reasonOf_76
theorem s_X5_reasonOf_57 {G : am_G} {bc bs : Nat} (X : am_Cx G cX5_reasonOf RX5 "reasonOf" rm_X5_reasonOf (some .int) 6 bc bs true) : am_S G 57 (t_X5_reasonOf_57) := by
  unfold t_X5_reasonOf_57
  refine as_iconst (pc := 57) X dX5_reasonOf_57 (by decide) ?_
  exact s_X5_reasonOf_58 X
theorem s_X5_reasonOf_20 {G : am_G} {bc bs : Nat} (X : am_Cx G cX5_reasonOf RX5 "reasonOf" rm_X5_reasonOf (some .int) 6 bc bs true) : am_S G 20 (t_X5_reasonOf_20) := by
  unfold t_X5_reasonOf_20
  refine as_istore (pc := 20) X dX5_reasonOf_20 ?_ (by decide)
  refine as_iload (pc := 22) X dX5_reasonOf_22 ?_
  refine as_if_eq (pc := 24) X 57 dX5_reasonOf_24 (by decide) (s_X5_reasonOf_57 X) ?_
  refine as_aload_n (pc := 27) X dX5_reasonOf_27 rfl ?_
  refine as_getR (ci := 5) (j := 0) (pc := 28) X (Cn := RX5) (Tf := TX5) (N := 21) rfl rfl (by decide) iw_X5 aw_738 rfl dX5_reasonOf_28 ?_
  refine as_iload_n (pc := 31) X dX5_reasonOf_31 rfl ?_
  refine as_iconst (pc := 32) X dX5_reasonOf_32 (by decide) ?_
  refine as_callS (np := 3) (ix := 89) (pc := 33) X ct_X5_told ⟨rfl, rfl⟩ aw_851 aw_852 aw_853 aw_65 (by decide +kernel) (by decide) dX5_reasonOf_33 ?_
  refine as_iconst (pc := 36) X dX5_reasonOf_36 (by decide) ?_
  refine as_ic_ne (pc := 37) X 57 dX5_reasonOf_37 (by decide) (s_X5_reasonOf_57 X) ?_
  refine as_aload_n (pc := 40) X dX5_reasonOf_40 rfl ?_
  refine as_getR (ci := 5) (j := 0) (pc := 41) X (Cn := RX5) (Tf := TX5) (N := 21) rfl rfl (by decide) iw_X5 aw_738 rfl dX5_reasonOf_41 ?_
  refine as_iload_n (pc := 44) X dX5_reasonOf_44 rfl ?_
  refine as_iconst (pc := 45) X dX5_reasonOf_45 (by decide) ?_
  refine as_callS (np := 3) (ix := 89) (pc := 46) X ct_X5_told ⟨rfl, rfl⟩ aw_851 aw_852 aw_853 aw_65 (by decide +kernel) (by decide) dX5_reasonOf_46 ?_
  refine as_iload_n (pc := 49) X dX5_reasonOf_49 rfl ?_
  refine as_ic_ne (pc := 50) X 57 dX5_reasonOf_50 (by decide) (s_X5_reasonOf_57 X) ?_
  refine as_iconst (pc := 53) X dX5_reasonOf_53 (by decide) ?_
  exact as_goto (pc := 54) X 58 dX5_reasonOf_54 (by decide) (s_X5_reasonOf_58 X)
theorem s_X5_reasonOf_19 {G : am_G} {bc bs : Nat} (X : am_Cx G cX5_reasonOf RX5 "reasonOf" rm_X5_reasonOf (some .int) 6 bc bs true) : am_S G 19 (t_X5_reasonOf_19) := by
  unfold t_X5_reasonOf_19
  refine as_iconst (pc := 19) X dX5_reasonOf_19 (by decide) ?_
  exact s_X5_reasonOf_20 X
theorem s_X5_reasonOf_0 {G : am_G} {bc bs : Nat} (X : am_Cx G cX5_reasonOf RX5 "reasonOf" rm_X5_reasonOf (some .int) 6 bc bs true) : am_S G 0 (t_X5_reasonOf_0) := by
  unfold t_X5_reasonOf_0
  refine as_aload_n (pc := 0) X dX5_reasonOf_0 rfl ?_
  refine as_getR (ci := 5) (j := 0) (pc := 1) X (Cn := RX5) (Tf := TX5) (N := 21) rfl rfl (by decide) iw_X5 aw_738 rfl dX5_reasonOf_1 ?_
  refine as_iload_n (pc := 4) X dX5_reasonOf_4 rfl ?_
  refine as_callS (np := 2) (ix := 96) (pc := 5) X ct_X5_counting ⟨rfl, rfl⟩ aw_894 aw_895 aw_896 aw_65 (by decide +kernel) (by decide) dX5_reasonOf_5 ?_
  refine as_istore_n (pc := 8) X dX5_reasonOf_8 rfl ?_ (by decide)
  refine as_iload_n (pc := 9) X dX5_reasonOf_9 rfl ?_
  refine as_bipush (pc := 10) X dX5_reasonOf_10 (by decide) ?_
  refine as_ic_eq (pc := 12) X 19 dX5_reasonOf_12 (by decide) (s_X5_reasonOf_19 X) ?_
  refine as_iconst (pc := 15) X dX5_reasonOf_15 (by decide) ?_
  exact as_goto (pc := 16) X 20 dX5_reasonOf_16 (by decide) (s_X5_reasonOf_20 X)
theorem s_X5_reasonOf {G : am_G} {bc bs : Nat} (X : am_Cx G cX5_reasonOf RX5 "reasonOf" rm_X5_reasonOf (some .int) 6 bc bs true) (h : Nat) : am_S G h (h_X5_reasonOf h) := by
  unfold h_X5_reasonOf
  split
  · next e => rw [e]; exact s_X5_reasonOf_0 X
  exact as_bad
theorem ct_X5_reasonOf : am_Ct yX5_reasonOf cX5_reasonOf 6 (some .int) rm_X5_reasonOf sp_X5_reasonOf := am_met (own := RX5) (nm := "reasonOf") (by decide) rfl rfl (Or.inr (Or.inl rfl)) (fun _ _ => h_X5_reasonOf) (fun _ _ _ X => s_X5_reasonOf X) (fun _ _ _ _ h => h)
-- X5_reason
theorem dX5_reason_0 : decode cX5_reason 0 = .ok (.aload_n 0, 1) := by decide +kernel
theorem dX5_reason_1 : decode cX5_reason 1 = .ok (.iload_n 1, 1) := by decide +kernel
theorem dX5_reason_2 : decode cX5_reason 2 = .ok (.invokevirtual 138, 3) := by decide +kernel
theorem dX5_reason_5 : decode cX5_reason 5 = .ok (.ifCond .eq 11, 3) := by decide +kernel
theorem dX5_reason_8 : decode cX5_reason 8 = .ok (.aload_n 0, 1) := by decide +kernel
theorem dX5_reason_9 : decode cX5_reason 9 = .ok (.iload_n 2, 1) := by decide +kernel
theorem dX5_reason_10 : decode cX5_reason 10 = .ok (.invokevirtual 138, 3) := by decide +kernel
theorem dX5_reason_13 : decode cX5_reason 13 = .ok (.ifCond .ne 5, 3) := by decide +kernel
theorem dX5_reason_16 : decode cX5_reason 16 = .ok (.iconst (-1), 1) := by decide +kernel
theorem dX5_reason_17 : decode cX5_reason 17 = .ok (.ireturn, 1) := by decide +kernel
theorem dX5_reason_18 : decode cX5_reason 18 = .ok (.aload_n 0, 1) := by decide +kernel
theorem dX5_reason_19 : decode cX5_reason 19 = .ok (.aload_n 0, 1) := by decide +kernel
theorem dX5_reason_20 : decode cX5_reason 20 = .ok (.getfield 7, 3) := by decide +kernel
theorem dX5_reason_23 : decode cX5_reason 23 = .ok (.invokevirtual 145, 3) := by decide +kernel
theorem dX5_reason_26 : decode cX5_reason 26 = .ok (.aload_n 0, 1) := by decide +kernel
theorem dX5_reason_27 : decode cX5_reason 27 = .ok (.iload_n 1, 1) := by decide +kernel
theorem dX5_reason_28 : decode cX5_reason 28 = .ok (.iload_n 2, 1) := by decide +kernel
theorem dX5_reason_29 : decode cX5_reason 29 = .ok (.invokevirtual 151, 3) := by decide +kernel
theorem dX5_reason_32 : decode cX5_reason 32 = .ok (.ireturn, 1) := by decide +kernel
def t_X5_reason_18 : am_T := tb_aload 0 <|
  tb_aload 0 <|
  tb_getR 5 0 <|
  tb_callV 5 sp_X5_lays 2 <|
  tb_aload 0 <|
  tb_iload 1 <|
  tb_iload 2 <|
  tb_callV 5 sp_X5_reasonOf 3 <|
  tb_iret
def t_X5_reason_16 : am_T := tb_const (-1) <|
  tb_iret
def t_X5_reason_0 : am_T := tb_aload 0 <|
  tb_iload 1 <|
  tb_callV 5 sp_X5_isLine 2 <|
  tb_if (fun x => x = 0) (t_X5_reason_16) <|
  tb_aload 0 <|
  tb_iload 2 <|
  tb_callV 5 sp_X5_isLine 2 <|
  tb_if (fun x => x ≠ 0) (t_X5_reason_18) <|
  t_X5_reason_16
def h_X5_reason : am_Hd := fun h => if h = 0 then t_X5_reason_0 else tb_bad
theorem h_X5_reason_0 : h_X5_reason 0 = t_X5_reason_0 := rfl
def rm_X5_reason : Room := { frames := 6, cells := 0, slots := 0, locals := 145 }
def sp_X5_reason : am_sp := fun as M Q => as.length ≤ 3 ∧ am_OK h_X5_reason Q 0 (am_in 3 as) M
theorem s_X5_reason_18 {G : am_G} {bc bs : Nat} (X : am_Cx G cX5_reason RX5 "reason" rm_X5_reason (some .int) 3 bc bs true) : am_S G 18 (t_X5_reason_18) := by
  unfold t_X5_reason_18
  refine as_aload_n (pc := 18) X dX5_reason_18 rfl ?_
  refine as_aload_n (pc := 19) X dX5_reason_19 rfl ?_
  refine as_getR (ci := 5) (j := 0) (pc := 20) X (Cn := RX5) (Tf := TX5) (N := 21) rfl rfl (by decide) iw_X5 aw_738 rfl dX5_reason_20 ?_
  refine as_callV (ci := 5) (np := 1) (ix := 145) (pc := 23) X ct_X5_lays (Cn := (RX5, TX5, 21)) rfl ⟨rfl, rfl⟩ aw_861 aw_863 aw_29 aw_864 aw_65 (by decide +kernel) (by decide) dX5_reason_23 ?_
  refine as_aload_n (pc := 26) X dX5_reason_26 rfl ?_
  refine as_iload_n (pc := 27) X dX5_reason_27 rfl ?_
  refine as_iload_n (pc := 28) X dX5_reason_28 rfl ?_
  refine as_callV (ci := 5) (np := 2) (ix := 151) (pc := 29) X ct_X5_reasonOf (Cn := (RX5, TX5, 21)) rfl ⟨rfl, rfl⟩ aw_932 aw_934 aw_40 aw_935 aw_65 (by decide +kernel) (by decide) dX5_reason_29 ?_
  exact as_iret (pc := 32) X ⟨rfl, rfl⟩ rfl dX5_reason_32
theorem s_X5_reason_16 {G : am_G} {bc bs : Nat} (X : am_Cx G cX5_reason RX5 "reason" rm_X5_reason (some .int) 3 bc bs true) : am_S G 16 (t_X5_reason_16) := by
  unfold t_X5_reason_16
  refine as_iconst (pc := 16) X dX5_reason_16 (by decide) ?_
  exact as_iret (pc := 17) X ⟨rfl, rfl⟩ rfl dX5_reason_17
theorem s_X5_reason_0 {G : am_G} {bc bs : Nat} (X : am_Cx G cX5_reason RX5 "reason" rm_X5_reason (some .int) 3 bc bs true) : am_S G 0 (t_X5_reason_0) := by
  unfold t_X5_reason_0
  refine as_aload_n (pc := 0) X dX5_reason_0 rfl ?_
  refine as_iload_n (pc := 1) X dX5_reason_1 rfl ?_
  refine as_callV (ci := 5) (np := 1) (ix := 138) (pc := 2) X ct_X5_isLine (Cn := (RX5, TX5, 21)) rfl ⟨rfl, rfl⟩ aw_844 aw_846 aw_28 aw_847 aw_65 (by decide +kernel) (by decide) dX5_reason_2 ?_
  refine as_if_eq (pc := 5) X 16 dX5_reason_5 (by decide) (s_X5_reason_16 X) ?_
  refine as_aload_n (pc := 8) X dX5_reason_8 rfl ?_
  refine as_iload_n (pc := 9) X dX5_reason_9 rfl ?_
  refine as_callV (ci := 5) (np := 1) (ix := 138) (pc := 10) X ct_X5_isLine (Cn := (RX5, TX5, 21)) rfl ⟨rfl, rfl⟩ aw_844 aw_846 aw_28 aw_847 aw_65 (by decide +kernel) (by decide) dX5_reason_10 ?_
  refine as_if_ne (pc := 13) X 18 dX5_reason_13 (by decide) (s_X5_reason_18 X) ?_
  exact s_X5_reason_16 X
theorem s_X5_reason {G : am_G} {bc bs : Nat} (X : am_Cx G cX5_reason RX5 "reason" rm_X5_reason (some .int) 3 bc bs true) (h : Nat) : am_S G h (h_X5_reason h) := by
  unfold h_X5_reason
  split
  · next e => rw [e]; exact s_X5_reason_0 X
  exact as_bad
theorem ct_X5_reason : am_Ct yX5_reason cX5_reason 3 (some .int) rm_X5_reason sp_X5_reason := am_met (own := RX5) (nm := "reason") (by decide) rfl rfl (Or.inr (Or.inl rfl)) (fun _ _ => h_X5_reason) (fun _ _ _ X => s_X5_reason X) (fun _ _ _ _ h => h)
-- X4_isSettingValue
theorem dX4_isSettingValue_0 : decode cX4_isSettingValue 0 = .ok (.iload_n 0, 1) := by decide +kernel
theorem dX4_isSettingValue_1 : decode cX4_isSettingValue 1 = .ok (.ifCond .lt 31, 3) := by decide +kernel
theorem dX4_isSettingValue_4 : decode cX4_isSettingValue 4 = .ok (.iload_n 0, 1) := by decide +kernel
theorem dX4_isSettingValue_5 : decode cX4_isSettingValue 5 = .ok (.bipush 8, 2) := by decide +kernel
theorem dX4_isSettingValue_7 : decode cX4_isSettingValue 7 = .ok (.if_icmp .ge 25, 3) := by decide +kernel
theorem dX4_isSettingValue_10 : decode cX4_isSettingValue 10 = .ok (.iload_n 1, 1) := by decide +kernel
theorem dX4_isSettingValue_11 : decode cX4_isSettingValue 11 = .ok (.getstatic 274, 3) := by decide +kernel
theorem dX4_isSettingValue_14 : decode cX4_isSettingValue 14 = .ok (.iload_n 0, 1) := by decide +kernel
theorem dX4_isSettingValue_15 : decode cX4_isSettingValue 15 = .ok (.iaload, 1) := by decide +kernel
theorem dX4_isSettingValue_16 : decode cX4_isSettingValue 16 = .ok (.if_icmp .lt 16, 3) := by decide +kernel
theorem dX4_isSettingValue_19 : decode cX4_isSettingValue 19 = .ok (.iload_n 1, 1) := by decide +kernel
theorem dX4_isSettingValue_20 : decode cX4_isSettingValue 20 = .ok (.getstatic 247, 3) := by decide +kernel
theorem dX4_isSettingValue_23 : decode cX4_isSettingValue 23 = .ok (.iload_n 0, 1) := by decide +kernel
theorem dX4_isSettingValue_24 : decode cX4_isSettingValue 24 = .ok (.iaload, 1) := by decide +kernel
theorem dX4_isSettingValue_25 : decode cX4_isSettingValue 25 = .ok (.if_icmp .gt 7, 3) := by decide +kernel
theorem dX4_isSettingValue_28 : decode cX4_isSettingValue 28 = .ok (.iconst 1, 1) := by decide +kernel
theorem dX4_isSettingValue_29 : decode cX4_isSettingValue 29 = .ok (.goto 4, 3) := by decide +kernel
theorem dX4_isSettingValue_32 : decode cX4_isSettingValue 32 = .ok (.iconst 0, 1) := by decide +kernel
theorem dX4_isSettingValue_33 : decode cX4_isSettingValue 33 = .ok (.ireturn, 1) := by decide +kernel
def t_X4_isSettingValue_33 : am_T := tb_zret
def t_X4_isSettingValue_32 : am_T := tb_const 0 <|
  t_X4_isSettingValue_33
def t_X4_isSettingValue_0 : am_T := tb_iload 0 <|
  tb_if (fun x => x < 0) (t_X4_isSettingValue_32) <|
  tb_iload 0 <|
  tb_const 8 <|
  tb_ic (fun x y => y ≤ x) (t_X4_isSettingValue_32) <|
  tb_iload 1 <|
  tb_stat 1 <|
  tb_iload 0 <|
  tb_iald <|
  tb_ic (fun x y => x < y) (t_X4_isSettingValue_32) <|
  tb_iload 1 <|
  tb_stat 2 <|
  tb_iload 0 <|
  tb_iald <|
  tb_ic (fun x y => y < x) (t_X4_isSettingValue_32) <|
  tb_const 1 <|
  t_X4_isSettingValue_33
def h_X4_isSettingValue : am_Hd := fun h => if h = 0 then t_X4_isSettingValue_0 else tb_bad
theorem h_X4_isSettingValue_0 : h_X4_isSettingValue 0 = t_X4_isSettingValue_0 := rfl
def rm_X4_isSettingValue : Room := { frames := 0, cells := 0, slots := 0, locals := 0 }
def sp_X4_isSettingValue : am_sp := fun as M Q => as.length ≤ 2 ∧ am_OK h_X4_isSettingValue Q 0 (am_in 2 as) M
theorem s_X4_isSettingValue_33 {G : am_G} {bc bs : Nat} (X : am_Cx G cX4_isSettingValue RX4 "isSettingValue" rm_X4_isSettingValue (some .boolean) 2 bc bs true) : am_S G 33 (t_X4_isSettingValue_33) := by
  unfold t_X4_isSettingValue_33
  exact as_zret (pc := 33) X ⟨rfl, rfl⟩ rfl dX4_isSettingValue_33
theorem s_X4_isSettingValue_32 {G : am_G} {bc bs : Nat} (X : am_Cx G cX4_isSettingValue RX4 "isSettingValue" rm_X4_isSettingValue (some .boolean) 2 bc bs true) : am_S G 32 (t_X4_isSettingValue_32) := by
  unfold t_X4_isSettingValue_32
  refine as_iconst (pc := 32) X dX4_isSettingValue_32 (by decide) ?_
  exact s_X4_isSettingValue_33 X
theorem s_X4_isSettingValue_0 {G : am_G} {bc bs : Nat} (X : am_Cx G cX4_isSettingValue RX4 "isSettingValue" rm_X4_isSettingValue (some .boolean) 2 bc bs true) : am_S G 0 (t_X4_isSettingValue_0) := by
  unfold t_X4_isSettingValue_0
  refine as_iload_n (pc := 0) X dX4_isSettingValue_0 rfl ?_
  refine as_if_lt (pc := 1) X 32 dX4_isSettingValue_1 (by decide) (s_X4_isSettingValue_32 X) ?_
  refine as_iload_n (pc := 4) X dX4_isSettingValue_4 rfl ?_
  refine as_bipush (pc := 5) X dX4_isSettingValue_5 (by decide) ?_
  refine as_ic_ge (pc := 7) X 32 dX4_isSettingValue_7 (by decide) (s_X4_isSettingValue_32 X) ?_
  refine as_iload_n (pc := 10) X dX4_isSettingValue_10 rfl ?_
  refine as_stat1 (pc := 11) X aw_522 dX4_isSettingValue_11 ?_
  refine as_iload_n (pc := 14) X dX4_isSettingValue_14 rfl ?_
  refine as_iald (pc := 15) X dX4_isSettingValue_15 ?_
  refine as_ic_lt (pc := 16) X 32 dX4_isSettingValue_16 (by decide) (s_X4_isSettingValue_32 X) ?_
  refine as_iload_n (pc := 19) X dX4_isSettingValue_19 rfl ?_
  refine as_stat2 (pc := 20) X aw_524 dX4_isSettingValue_20 ?_
  refine as_iload_n (pc := 23) X dX4_isSettingValue_23 rfl ?_
  refine as_iald (pc := 24) X dX4_isSettingValue_24 ?_
  refine as_ic_gt (pc := 25) X 32 dX4_isSettingValue_25 (by decide) (s_X4_isSettingValue_32 X) ?_
  refine as_iconst (pc := 28) X dX4_isSettingValue_28 (by decide) ?_
  exact as_goto (pc := 29) X 33 dX4_isSettingValue_29 (by decide) (s_X4_isSettingValue_33 X)
theorem s_X4_isSettingValue {G : am_G} {bc bs : Nat} (X : am_Cx G cX4_isSettingValue RX4 "isSettingValue" rm_X4_isSettingValue (some .boolean) 2 bc bs true) (h : Nat) : am_S G h (h_X4_isSettingValue h) := by
  unfold h_X4_isSettingValue
  split
  · next e => rw [e]; exact s_X4_isSettingValue_0 X
  exact as_bad
theorem ct_X4_isSettingValue : am_Ct yX4_isSettingValue cX4_isSettingValue 2 (some .boolean) rm_X4_isSettingValue sp_X4_isSettingValue := am_met (own := RX4) (nm := "isSettingValue") (by decide) rfl rfl (Or.inr (Or.inr (Or.inl rfl))) (fun _ _ => h_X4_isSettingValue) (fun _ _ _ X => s_X4_isSettingValue X) (fun _ _ _ _ h => h)
-- X4_set
theorem dX4_set_0 : decode cX4_set 0 = .ok (.iload_n 1, 1) := by decide +kernel
theorem dX4_set_1 : decode cX4_set 1 = .ok (.iload_n 2, 1) := by decide +kernel
theorem dX4_set_2 : decode cX4_set 2 = .ok (.invokestatic 152, 3) := by decide +kernel
theorem dX4_set_5 : decode cX4_set 5 = .ok (.ifCond .ne 5, 3) := by decide +kernel
theorem dX4_set_8 : decode cX4_set 8 = .ok (.iconst (-1), 1) := by decide +kernel
theorem dX4_set_9 : decode cX4_set 9 = .ok (.ireturn, 1) := by decide +kernel
theorem dX4_set_10 : decode cX4_set 10 = .ok (.aload_n 0, 1) := by decide +kernel
theorem dX4_set_11 : decode cX4_set 11 = .ok (.invokevirtual 69, 3) := by decide +kernel
theorem dX4_set_14 : decode cX4_set 14 = .ok (.aload_n 0, 1) := by decide +kernel
theorem dX4_set_15 : decode cX4_set 15 = .ok (.getfield 20, 3) := by decide +kernel
theorem dX4_set_18 : decode cX4_set 18 = .ok (.getfield 155, 3) := by decide +kernel
theorem dX4_set_21 : decode cX4_set 21 = .ok (.iload_n 1, 1) := by decide +kernel
theorem dX4_set_22 : decode cX4_set 22 = .ok (.iaload, 1) := by decide +kernel
theorem dX4_set_23 : decode cX4_set 23 = .ok (.istore_n 3, 1) := by decide +kernel
theorem dX4_set_24 : decode cX4_set 24 = .ok (.aload_n 0, 1) := by decide +kernel
theorem dX4_set_25 : decode cX4_set 25 = .ok (.getfield 20, 3) := by decide +kernel
theorem dX4_set_28 : decode cX4_set 28 = .ok (.getfield 155, 3) := by decide +kernel
theorem dX4_set_31 : decode cX4_set 31 = .ok (.iload_n 1, 1) := by decide +kernel
theorem dX4_set_32 : decode cX4_set 32 = .ok (.iload_n 2, 1) := by decide +kernel
theorem dX4_set_33 : decode cX4_set 33 = .ok (.iastore, 1) := by decide +kernel
theorem dX4_set_34 : decode cX4_set 34 = .ok (.iload_n 3, 1) := by decide +kernel
theorem dX4_set_35 : decode cX4_set 35 = .ok (.ireturn, 1) := by decide +kernel
def t_X4_set_10 : am_T := tb_aload 0 <|
  tb_callV 4 sp_X4_beginChange 1 <|
  tb_aload 0 <|
  tb_getR 4 1 <|
  tb_getR 1 13 <|
  tb_iload 1 <|
  tb_iald <|
  tb_istore 3 <|
  tb_aload 0 <|
  tb_getR 4 1 <|
  tb_getR 1 13 <|
  tb_iload 1 <|
  tb_iload 2 <|
  tb_iast <|
  tb_iload 3 <|
  tb_iret
def t_X4_set_0 : am_T := tb_iload 1 <|
  tb_iload 2 <|
  tb_callS sp_X4_isSettingValue 2 <|
  tb_if (fun x => x ≠ 0) (t_X4_set_10) <|
  tb_const (-1) <|
  tb_iret
def h_X4_set : am_Hd := fun h => if h = 0 then t_X4_set_0 else tb_bad
theorem h_X4_set_0 : h_X4_set 0 = t_X4_set_0 := rfl
def rm_X4_set : Room := { frames := 4, cells := 0, slots := 0, locals := 89 }
def sp_X4_set : am_sp := fun as M Q => as.length ≤ 4 ∧ am_OK h_X4_set Q 0 (am_in 4 as) M
theorem s_X4_set_10 {G : am_G} {bc bs : Nat} (X : am_Cx G cX4_set RX4 "set" rm_X4_set (some .int) 4 bc bs true) : am_S G 10 (t_X4_set_10) := by
  unfold t_X4_set_10
  refine as_aload_n (pc := 10) X dX4_set_10 rfl ?_
  refine as_callV (ci := 4) (np := 0) (ix := 69) (pc := 11) X ct_X4_beginChange (Cn := (RX4, TX4, 7)) rfl ⟨rfl, rfl⟩ aw_322 aw_324 aw_0 aw_325 aw_59 (by decide +kernel) (by decide) dX4_set_11 ?_
  refine as_aload_n (pc := 14) X dX4_set_14 rfl ?_
  refine as_getR (ci := 4) (j := 1) (pc := 15) X (Cn := RX4) (Tf := TX4) (N := 7) rfl rfl (by decide) iw_X4 aw_275 rfl dX4_set_15 ?_
  refine as_getR (ci := 1) (j := 13) (pc := 18) X (Cn := RX1) (Tf := TX1) (N := 14) rfl rfl (by decide) iw_X1 aw_128 rfl dX4_set_18 ?_
  refine as_iload_n (pc := 21) X dX4_set_21 rfl ?_
  refine as_iald (pc := 22) X dX4_set_22 ?_
  refine as_istore_n (pc := 23) X dX4_set_23 rfl ?_ (by decide)
  refine as_aload_n (pc := 24) X dX4_set_24 rfl ?_
  refine as_getR (ci := 4) (j := 1) (pc := 25) X (Cn := RX4) (Tf := TX4) (N := 7) rfl rfl (by decide) iw_X4 aw_275 rfl dX4_set_25 ?_
  refine as_getR (ci := 1) (j := 13) (pc := 28) X (Cn := RX1) (Tf := TX1) (N := 14) rfl rfl (by decide) iw_X1 aw_128 rfl dX4_set_28 ?_
  refine as_iload_n (pc := 31) X dX4_set_31 rfl ?_
  refine as_iload_n (pc := 32) X dX4_set_32 rfl ?_
  refine as_iast (pc := 33) X dX4_set_33 ?_
  refine as_iload_n (pc := 34) X dX4_set_34 rfl ?_
  exact as_iret (pc := 35) X ⟨rfl, rfl⟩ rfl dX4_set_35
theorem s_X4_set_0 {G : am_G} {bc bs : Nat} (X : am_Cx G cX4_set RX4 "set" rm_X4_set (some .int) 4 bc bs true) : am_S G 0 (t_X4_set_0) := by
  unfold t_X4_set_0
  refine as_iload_n (pc := 0) X dX4_set_0 rfl ?_
  refine as_iload_n (pc := 1) X dX4_set_1 rfl ?_
  refine as_callS (np := 2) (ix := 152) (pc := 2) X ct_X4_isSettingValue ⟨rfl, rfl⟩ aw_519 aw_520 aw_521 aw_59 (by decide +kernel) (by decide) dX4_set_2 ?_
  refine as_if_ne (pc := 5) X 10 dX4_set_5 (by decide) (s_X4_set_10 X) ?_
  refine as_iconst (pc := 8) X dX4_set_8 (by decide) ?_
  exact as_iret (pc := 9) X ⟨rfl, rfl⟩ rfl dX4_set_9
theorem s_X4_set {G : am_G} {bc bs : Nat} (X : am_Cx G cX4_set RX4 "set" rm_X4_set (some .int) 4 bc bs true) (h : Nat) : am_S G h (h_X4_set h) := by
  unfold h_X4_set
  split
  · next e => rw [e]; exact s_X4_set_0 X
  exact as_bad
theorem ct_X4_set : am_Ct yX4_set cX4_set 4 (some .int) rm_X4_set sp_X4_set := am_met (own := RX4) (nm := "set") (by decide) rfl rfl (Or.inr (Or.inl rfl)) (fun _ _ => h_X4_set) (fun _ _ _ X => s_X4_set X) (fun _ _ _ _ h => h)
-- X5_most
theorem dX5_most_0 : decode cX5_most 0 = .ok (.iload_n 0, 1) := by decide +kernel
theorem dX5_most_1 : decode cX5_most 1 = .ok (.tableswitch 57 0 6 #[43, 46, 57, 57, 50, 57, 53], 43) := by decide +kernel
theorem dX5_most_44 : decode cX5_most 44 = .ok (.ldc 64, 2) := by decide +kernel
theorem dX5_most_46 : decode cX5_most 46 = .ok (.ireturn, 1) := by decide +kernel
theorem dX5_most_47 : decode cX5_most 47 = .ok (.sipush 200, 3) := by decide +kernel
theorem dX5_most_50 : decode cX5_most 50 = .ok (.ireturn, 1) := by decide +kernel
theorem dX5_most_51 : decode cX5_most 51 = .ok (.bipush 50, 2) := by decide +kernel
theorem dX5_most_53 : decode cX5_most 53 = .ok (.ireturn, 1) := by decide +kernel
theorem dX5_most_54 : decode cX5_most 54 = .ok (.sipush 1000, 3) := by decide +kernel
theorem dX5_most_57 : decode cX5_most 57 = .ok (.ireturn, 1) := by decide +kernel
theorem dX5_most_58 : decode cX5_most 58 = .ok (.bipush 100, 2) := by decide +kernel
theorem dX5_most_60 : decode cX5_most 60 = .ok (.ireturn, 1) := by decide +kernel
def t_X5_most_58 : am_T := tb_const 100 <|
  tb_iret
def t_X5_most_54 : am_T := tb_const 1000 <|
  tb_iret
def t_X5_most_51 : am_T := tb_const 50 <|
  tb_iret
def t_X5_most_47 : am_T := tb_const 200 <|
  tb_iret
def t_X5_most_44 : am_T := tb_const (100000) <|
  tb_iret
def w_X5_most_1 : Nat → am_T := fun j => match j with
    | 0 => t_X5_most_44
    | 1 => t_X5_most_47
    | 2 => t_X5_most_58
    | 3 => t_X5_most_58
    | 4 => t_X5_most_51
    | 5 => t_X5_most_58
    | 6 => t_X5_most_54
    | _ => tb_bad
def v_X5_most_1 : Nat → Nat := fun j => match j with
    | 0 => 44
    | 1 => 47
    | 2 => 58
    | 3 => 58
    | 4 => 51
    | 5 => 58
    | 6 => 54
    | _ => 0
def t_X5_most_0 : am_T := tb_iload 0 <|
  tb_sw 0 6 w_X5_most_1 (t_X5_most_58)
def h_X5_most : am_Hd := fun h => if h = 0 then t_X5_most_0 else tb_bad
theorem h_X5_most_0 : h_X5_most 0 = t_X5_most_0 := rfl
def rm_X5_most : Room := { frames := 0, cells := 0, slots := 0, locals := 0 }
def sp_X5_most : am_sp := fun as M Q => as.length ≤ 1 ∧ am_OK h_X5_most Q 0 (am_in 1 as) M
theorem s_X5_most_58 {G : am_G} {bc bs : Nat} (X : am_Cx G cX5_most RX5 "most" rm_X5_most (some .int) 1 bc bs true) : am_S G 58 (t_X5_most_58) := by
  unfold t_X5_most_58
  refine as_bipush (pc := 58) X dX5_most_58 (by decide) ?_
  exact as_iret (pc := 60) X ⟨rfl, rfl⟩ rfl dX5_most_60
theorem s_X5_most_54 {G : am_G} {bc bs : Nat} (X : am_Cx G cX5_most RX5 "most" rm_X5_most (some .int) 1 bc bs true) : am_S G 54 (t_X5_most_54) := by
  unfold t_X5_most_54
  refine as_sipush (pc := 54) X dX5_most_54 (by decide) ?_
  exact as_iret (pc := 57) X ⟨rfl, rfl⟩ rfl dX5_most_57
theorem s_X5_most_51 {G : am_G} {bc bs : Nat} (X : am_Cx G cX5_most RX5 "most" rm_X5_most (some .int) 1 bc bs true) : am_S G 51 (t_X5_most_51) := by
  unfold t_X5_most_51
  refine as_bipush (pc := 51) X dX5_most_51 (by decide) ?_
  exact as_iret (pc := 53) X ⟨rfl, rfl⟩ rfl dX5_most_53
theorem s_X5_most_47 {G : am_G} {bc bs : Nat} (X : am_Cx G cX5_most RX5 "most" rm_X5_most (some .int) 1 bc bs true) : am_S G 47 (t_X5_most_47) := by
  unfold t_X5_most_47
  refine as_sipush (pc := 47) X dX5_most_47 (by decide) ?_
  exact as_iret (pc := 50) X ⟨rfl, rfl⟩ rfl dX5_most_50
theorem s_X5_most_44 {G : am_G} {bc bs : Nat} (X : am_Cx G cX5_most RX5 "most" rm_X5_most (some .int) 1 bc bs true) : am_S G 44 (t_X5_most_44) := by
  unfold t_X5_most_44
  refine as_ldc (pc := 44) X dX5_most_44 aw_809 ?_
  exact as_iret (pc := 46) X ⟨rfl, rfl⟩ rfl dX5_most_46
theorem s_X5_most_0 {G : am_G} {bc bs : Nat} (X : am_Cx G cX5_most RX5 "most" rm_X5_most (some .int) 1 bc bs true) : am_S G 0 (t_X5_most_0) := by
  unfold t_X5_most_0
  refine as_iload_n (pc := 0) X dX5_most_0 rfl ?_
  refine as_sw (pc := 1) X dX5_most_1 v_X5_most_1 58 (by decide) (fun j hj => ?_) (s_X5_most_58 X)
  match j, hj with
  | 0, _ => exact ⟨43, rfl, by decide, s_X5_most_44 X⟩
  | 1, _ => exact ⟨46, rfl, by decide, s_X5_most_47 X⟩
  | 2, _ => exact ⟨57, rfl, by decide, s_X5_most_58 X⟩
  | 3, _ => exact ⟨57, rfl, by decide, s_X5_most_58 X⟩
  | 4, _ => exact ⟨50, rfl, by decide, s_X5_most_51 X⟩
  | 5, _ => exact ⟨57, rfl, by decide, s_X5_most_58 X⟩
  | 6, _ => exact ⟨53, rfl, by decide, s_X5_most_54 X⟩
  | j + 7, hj => exact absurd hj (by omega)
theorem s_X5_most {G : am_G} {bc bs : Nat} (X : am_Cx G cX5_most RX5 "most" rm_X5_most (some .int) 1 bc bs true) (h : Nat) : am_S G h (h_X5_most h) := by
  unfold h_X5_most
  split
  · next e => rw [e]; exact s_X5_most_0 X
  exact as_bad
theorem ct_X5_most : am_Ct yX5_most cX5_most 1 (some .int) rm_X5_most sp_X5_most := am_met (own := RX5) (nm := "most") (by decide) rfl rfl (Or.inr (Or.inl rfl)) (fun _ _ => h_X5_most) (fun _ _ _ X => s_X5_most X) (fun _ _ _ _ h => h)
-- X5_isSetting
theorem dX5_isSetting_0 : decode cX5_isSetting 0 = .ok (.iload_n 0, 1) := by decide +kernel
theorem dX5_isSetting_1 : decode cX5_isSetting 1 = .ok (.iconst 0, 1) := by decide +kernel
theorem dX5_isSetting_2 : decode cX5_isSetting 2 = .ok (.bipush 7, 2) := by decide +kernel
theorem dX5_isSetting_4 : decode cX5_isSetting 4 = .ok (.invokestatic 60, 3) := by decide +kernel
theorem dX5_isSetting_7 : decode cX5_isSetting 7 = .ok (.ifCond .eq 29, 3) := by decide +kernel
theorem dX5_isSetting_10 : decode cX5_isSetting 10 = .ok (.iload_n 1, 1) := by decide +kernel
theorem dX5_isSetting_11 : decode cX5_isSetting 11 = .ok (.iload_n 0, 1) := by decide +kernel
theorem dX5_isSetting_12 : decode cX5_isSetting 12 = .ok (.bipush 6, 2) := by decide +kernel
theorem dX5_isSetting_14 : decode cX5_isSetting 14 = .ok (.if_icmp .ne 7, 3) := by decide +kernel
theorem dX5_isSetting_17 : decode cX5_isSetting 17 = .ok (.iconst 1, 1) := by decide +kernel
theorem dX5_isSetting_18 : decode cX5_isSetting 18 = .ok (.goto 4, 3) := by decide +kernel
theorem dX5_isSetting_21 : decode cX5_isSetting 21 = .ok (.iconst 0, 1) := by decide +kernel
theorem dX5_isSetting_22 : decode cX5_isSetting 22 = .ok (.iload_n 0, 1) := by decide +kernel
theorem dX5_isSetting_23 : decode cX5_isSetting 23 = .ok (.invokestatic 155, 3) := by decide +kernel
theorem dX5_isSetting_26 : decode cX5_isSetting 26 = .ok (.invokestatic 60, 3) := by decide +kernel
theorem dX5_isSetting_29 : decode cX5_isSetting 29 = .ok (.ifCond .eq 7, 3) := by decide +kernel
theorem dX5_isSetting_32 : decode cX5_isSetting 32 = .ok (.iconst 1, 1) := by decide +kernel
theorem dX5_isSetting_33 : decode cX5_isSetting 33 = .ok (.goto 4, 3) := by decide +kernel
theorem dX5_isSetting_36 : decode cX5_isSetting 36 = .ok (.iconst 0, 1) := by decide +kernel
theorem dX5_isSetting_37 : decode cX5_isSetting 37 = .ok (.ireturn, 1) := by decide +kernel
def t_X5_isSetting_37 : am_T := tb_zret
def t_X5_isSetting_36 : am_T := tb_const 0 <|
  t_X5_isSetting_37
def t_X5_isSetting_22 : am_T := tb_iload 0 <|
  tb_callS sp_X5_most 1 <|
  tb_callS sp_X5_in 3 <|
  tb_if (fun x => x = 0) (t_X5_isSetting_36) <|
  tb_const 1 <|
  t_X5_isSetting_37
def t_X5_isSetting_21 : am_T := tb_const 0 <|
  t_X5_isSetting_22
def t_X5_isSetting_0 : am_T := tb_iload 0 <|
  tb_const 0 <|
  tb_const 7 <|
  tb_callS sp_X5_in 3 <|
  tb_if (fun x => x = 0) (t_X5_isSetting_36) <|
  tb_iload 1 <|
  tb_iload 0 <|
  tb_const 6 <|
  tb_ic (fun x y => x ≠ y) (t_X5_isSetting_21) <|
  tb_const 1 <|
  t_X5_isSetting_22
def h_X5_isSetting : am_Hd := fun h => if h = 0 then t_X5_isSetting_0 else tb_bad
theorem h_X5_isSetting_0 : h_X5_isSetting 0 = t_X5_isSetting_0 := rfl
def rm_X5_isSetting : Room := { frames := 1, cells := 0, slots := 0, locals := 22 }
def sp_X5_isSetting : am_sp := fun as M Q => as.length ≤ 2 ∧ am_OK h_X5_isSetting Q 0 (am_in 2 as) M
theorem s_X5_isSetting_37 {G : am_G} {bc bs : Nat} (X : am_Cx G cX5_isSetting RX5 "isSetting" rm_X5_isSetting (some .boolean) 2 bc bs true) : am_S G 37 (t_X5_isSetting_37) := by
  unfold t_X5_isSetting_37
  exact as_zret (pc := 37) X ⟨rfl, rfl⟩ rfl dX5_isSetting_37
theorem s_X5_isSetting_36 {G : am_G} {bc bs : Nat} (X : am_Cx G cX5_isSetting RX5 "isSetting" rm_X5_isSetting (some .boolean) 2 bc bs true) : am_S G 36 (t_X5_isSetting_36) := by
  unfold t_X5_isSetting_36
  refine as_iconst (pc := 36) X dX5_isSetting_36 (by decide) ?_
  exact s_X5_isSetting_37 X
theorem s_X5_isSetting_22 {G : am_G} {bc bs : Nat} (X : am_Cx G cX5_isSetting RX5 "isSetting" rm_X5_isSetting (some .boolean) 2 bc bs true) : am_S G 22 (t_X5_isSetting_22) := by
  unfold t_X5_isSetting_22
  refine as_iload_n (pc := 22) X dX5_isSetting_22 rfl ?_
  refine as_callS (np := 1) (ix := 155) (pc := 23) X ct_X5_most ⟨rfl, rfl⟩ aw_943 aw_944 aw_945 aw_65 (by decide +kernel) (by decide) dX5_isSetting_23 ?_
  refine as_callS (np := 3) (ix := 60) (pc := 26) X ct_X5_in ⟨rfl, rfl⟩ aw_806 aw_807 aw_808 aw_65 (by decide +kernel) (by decide) dX5_isSetting_26 ?_
  refine as_if_eq (pc := 29) X 36 dX5_isSetting_29 (by decide) (s_X5_isSetting_36 X) ?_
  refine as_iconst (pc := 32) X dX5_isSetting_32 (by decide) ?_
  exact as_goto (pc := 33) X 37 dX5_isSetting_33 (by decide) (s_X5_isSetting_37 X)
theorem s_X5_isSetting_21 {G : am_G} {bc bs : Nat} (X : am_Cx G cX5_isSetting RX5 "isSetting" rm_X5_isSetting (some .boolean) 2 bc bs true) : am_S G 21 (t_X5_isSetting_21) := by
  unfold t_X5_isSetting_21
  refine as_iconst (pc := 21) X dX5_isSetting_21 (by decide) ?_
  exact s_X5_isSetting_22 X
theorem s_X5_isSetting_0 {G : am_G} {bc bs : Nat} (X : am_Cx G cX5_isSetting RX5 "isSetting" rm_X5_isSetting (some .boolean) 2 bc bs true) : am_S G 0 (t_X5_isSetting_0) := by
  unfold t_X5_isSetting_0
  refine as_iload_n (pc := 0) X dX5_isSetting_0 rfl ?_
  refine as_iconst (pc := 1) X dX5_isSetting_1 (by decide) ?_
  refine as_bipush (pc := 2) X dX5_isSetting_2 (by decide) ?_
  refine as_callS (np := 3) (ix := 60) (pc := 4) X ct_X5_in ⟨rfl, rfl⟩ aw_806 aw_807 aw_808 aw_65 (by decide +kernel) (by decide) dX5_isSetting_4 ?_
  refine as_if_eq (pc := 7) X 36 dX5_isSetting_7 (by decide) (s_X5_isSetting_36 X) ?_
  refine as_iload_n (pc := 10) X dX5_isSetting_10 rfl ?_
  refine as_iload_n (pc := 11) X dX5_isSetting_11 rfl ?_
  refine as_bipush (pc := 12) X dX5_isSetting_12 (by decide) ?_
  refine as_ic_ne (pc := 14) X 21 dX5_isSetting_14 (by decide) (s_X5_isSetting_21 X) ?_
  refine as_iconst (pc := 17) X dX5_isSetting_17 (by decide) ?_
  exact as_goto (pc := 18) X 22 dX5_isSetting_18 (by decide) (s_X5_isSetting_22 X)
theorem s_X5_isSetting {G : am_G} {bc bs : Nat} (X : am_Cx G cX5_isSetting RX5 "isSetting" rm_X5_isSetting (some .boolean) 2 bc bs true) (h : Nat) : am_S G h (h_X5_isSetting h) := by
  unfold h_X5_isSetting
  split
  · next e => rw [e]; exact s_X5_isSetting_0 X
  exact as_bad
theorem ct_X5_isSetting : am_Ct yX5_isSetting cX5_isSetting 2 (some .boolean) rm_X5_isSetting sp_X5_isSetting := am_met (own := RX5) (nm := "isSetting") (by decide) rfl rfl (Or.inr (Or.inr (Or.inl rfl))) (fun _ _ => h_X5_isSetting) (fun _ _ _ X => s_X5_isSetting X) (fun _ _ _ _ h => h)
-- X5_set
theorem dX5_set_0 : decode cX5_set 0 = .ok (.iload_n 1, 1) := by decide +kernel
theorem dX5_set_1 : decode cX5_set 1 = .ok (.iload_n 2, 1) := by decide +kernel
theorem dX5_set_2 : decode cX5_set 2 = .ok (.invokestatic 158, 3) := by decide +kernel
theorem dX5_set_5 : decode cX5_set 5 = .ok (.ifCond .ne 5, 3) := by decide +kernel
theorem dX5_set_8 : decode cX5_set 8 = .ok (.iconst (-1), 1) := by decide +kernel
theorem dX5_set_9 : decode cX5_set 9 = .ok (.ireturn, 1) := by decide +kernel
theorem dX5_set_10 : decode cX5_set 10 = .ok (.aload_n 0, 1) := by decide +kernel
theorem dX5_set_11 : decode cX5_set 11 = .ok (.invokevirtual 68, 3) := by decide +kernel
theorem dX5_set_14 : decode cX5_set 14 = .ok (.aload_n 0, 1) := by decide +kernel
theorem dX5_set_15 : decode cX5_set 15 = .ok (.getfield 7, 3) := by decide +kernel
theorem dX5_set_18 : decode cX5_set 18 = .ok (.iload_n 1, 1) := by decide +kernel
theorem dX5_set_19 : decode cX5_set 19 = .ok (.iaload, 1) := by decide +kernel
theorem dX5_set_20 : decode cX5_set 20 = .ok (.istore_n 3, 1) := by decide +kernel
theorem dX5_set_21 : decode cX5_set 21 = .ok (.aload_n 0, 1) := by decide +kernel
theorem dX5_set_22 : decode cX5_set 22 = .ok (.getfield 7, 3) := by decide +kernel
theorem dX5_set_25 : decode cX5_set 25 = .ok (.iload_n 1, 1) := by decide +kernel
theorem dX5_set_26 : decode cX5_set 26 = .ok (.iload_n 2, 1) := by decide +kernel
theorem dX5_set_27 : decode cX5_set 27 = .ok (.iastore, 1) := by decide +kernel
theorem dX5_set_28 : decode cX5_set 28 = .ok (.iload_n 3, 1) := by decide +kernel
theorem dX5_set_29 : decode cX5_set 29 = .ok (.ireturn, 1) := by decide +kernel
def t_X5_set_10 : am_T := tb_aload 0 <|
  tb_callV 5 sp_X5_changes 1 <|
  tb_aload 0 <|
  tb_getR 5 0 <|
  tb_iload 1 <|
  tb_iald <|
  tb_istore 3 <|
  tb_aload 0 <|
  tb_getR 5 0 <|
  tb_iload 1 <|
  tb_iload 2 <|
  tb_iast <|
  tb_iload 3 <|
  tb_iret
def t_X5_set_0 : am_T := tb_iload 1 <|
  tb_iload 2 <|
  tb_callS sp_X5_isSetting 2 <|
  tb_if (fun x => x ≠ 0) (t_X5_set_10) <|
  tb_const (-1) <|
  tb_iret
def h_X5_set : am_Hd := fun h => if h = 0 then t_X5_set_0 else tb_bad
theorem h_X5_set_0 : h_X5_set 0 = t_X5_set_0 := rfl
def rm_X5_set : Room := { frames := 2, cells := 0, slots := 0, locals := 43 }
def sp_X5_set : am_sp := fun as M Q => as.length ≤ 4 ∧ am_OK h_X5_set Q 0 (am_in 4 as) M
theorem s_X5_set_10 {G : am_G} {bc bs : Nat} (X : am_Cx G cX5_set RX5 "set" rm_X5_set (some .int) 4 bc bs true) : am_S G 10 (t_X5_set_10) := by
  unfold t_X5_set_10
  refine as_aload_n (pc := 10) X dX5_set_10 rfl ?_
  refine as_callV (ci := 5) (np := 0) (ix := 68) (pc := 11) X ct_X5_changes (Cn := (RX5, TX5, 21)) rfl ⟨rfl, rfl⟩ aw_816 aw_818 aw_26 aw_819 aw_65 (by decide +kernel) (by decide) dX5_set_11 ?_
  refine as_aload_n (pc := 14) X dX5_set_14 rfl ?_
  refine as_getR (ci := 5) (j := 0) (pc := 15) X (Cn := RX5) (Tf := TX5) (N := 21) rfl rfl (by decide) iw_X5 aw_738 rfl dX5_set_15 ?_
  refine as_iload_n (pc := 18) X dX5_set_18 rfl ?_
  refine as_iald (pc := 19) X dX5_set_19 ?_
  refine as_istore_n (pc := 20) X dX5_set_20 rfl ?_ (by decide)
  refine as_aload_n (pc := 21) X dX5_set_21 rfl ?_
  refine as_getR (ci := 5) (j := 0) (pc := 22) X (Cn := RX5) (Tf := TX5) (N := 21) rfl rfl (by decide) iw_X5 aw_738 rfl dX5_set_22 ?_
  refine as_iload_n (pc := 25) X dX5_set_25 rfl ?_
  refine as_iload_n (pc := 26) X dX5_set_26 rfl ?_
  refine as_iast (pc := 27) X dX5_set_27 ?_
  refine as_iload_n (pc := 28) X dX5_set_28 rfl ?_
  exact as_iret (pc := 29) X ⟨rfl, rfl⟩ rfl dX5_set_29
theorem s_X5_set_0 {G : am_G} {bc bs : Nat} (X : am_Cx G cX5_set RX5 "set" rm_X5_set (some .int) 4 bc bs true) : am_S G 0 (t_X5_set_0) := by
  unfold t_X5_set_0
  refine as_iload_n (pc := 0) X dX5_set_0 rfl ?_
  refine as_iload_n (pc := 1) X dX5_set_1 rfl ?_
  refine as_callS (np := 2) (ix := 158) (pc := 2) X ct_X5_isSetting ⟨rfl, rfl⟩ aw_940 aw_941 aw_942 aw_65 (by decide +kernel) (by decide) dX5_set_2 ?_
  refine as_if_ne (pc := 5) X 10 dX5_set_5 (by decide) (s_X5_set_10 X) ?_
  refine as_iconst (pc := 8) X dX5_set_8 (by decide) ?_
  exact as_iret (pc := 9) X ⟨rfl, rfl⟩ rfl dX5_set_9
theorem s_X5_set {G : am_G} {bc bs : Nat} (X : am_Cx G cX5_set RX5 "set" rm_X5_set (some .int) 4 bc bs true) (h : Nat) : am_S G h (h_X5_set h) := by
  unfold h_X5_set
  split
  · next e => rw [e]; exact s_X5_set_0 X
  exact as_bad
theorem ct_X5_set : am_Ct yX5_set cX5_set 4 (some .int) rm_X5_set sp_X5_set := am_met (own := RX5) (nm := "set") (by decide) rfl rfl (Or.inr (Or.inl rfl)) (fun _ _ => h_X5_set) (fun _ _ _ X => s_X5_set X) (fun _ _ _ _ h => h)
-- X3_beginnings
theorem dX3_beginnings_0 : decode cX3_beginnings 0 = .ok (.aload_n 0, 1) := by decide +kernel
theorem dX3_beginnings_1 : decode cX3_beginnings 1 = .ok (.iconst (-1), 1) := by decide +kernel
theorem dX3_beginnings_2 : decode cX3_beginnings 2 = .ok (.invokevirtual 175, 3) := by decide +kernel
theorem dX3_beginnings_5 : decode cX3_beginnings 5 = .ok (.ireturn, 1) := by decide +kernel
def t_X3_beginnings_0 : am_T := tb_aload 0 <|
  tb_const (-1) <|
  tb_callV 3 sp_X3_answersTo 2 <|
  tb_iret
def h_X3_beginnings : am_Hd := fun h => if h = 0 then t_X3_beginnings_0 else tb_bad
theorem h_X3_beginnings_0 : h_X3_beginnings 0 = t_X3_beginnings_0 := rfl
def rm_X3_beginnings : Room := { frames := 1, cells := 0, slots := 0, locals := 23 }
def sp_X3_beginnings : am_sp := fun as M Q => as.length ≤ 1 ∧ am_OK h_X3_beginnings Q 0 (am_in 1 as) M
theorem s_X3_beginnings_0 {G : am_G} {bc bs : Nat} (X : am_Cx G cX3_beginnings RX3 "beginnings" rm_X3_beginnings (some .int) 1 bc bs true) : am_S G 0 (t_X3_beginnings_0) := by
  unfold t_X3_beginnings_0
  refine as_aload_n (pc := 0) X dX3_beginnings_0 rfl ?_
  refine as_iconst (pc := 1) X dX3_beginnings_1 (by decide) ?_
  refine as_callV (ci := 3) (np := 1) (ix := 175) (pc := 2) X ct_X3_answersTo (Cn := (RX3, TX3, 17)) rfl ⟨rfl, rfl⟩ aw_534 aw_486 aw_487 aw_488 aw_60 (by decide +kernel) (by decide) dX3_beginnings_2 ?_
  exact as_iret (pc := 5) X ⟨rfl, rfl⟩ rfl dX3_beginnings_5
theorem s_X3_beginnings {G : am_G} {bc bs : Nat} (X : am_Cx G cX3_beginnings RX3 "beginnings" rm_X3_beginnings (some .int) 1 bc bs true) (h : Nat) : am_S G h (h_X3_beginnings h) := by
  unfold h_X3_beginnings
  split
  · next e => rw [e]; exact s_X3_beginnings_0 X
  exact as_bad
theorem ct_X3_beginnings : am_Ct yX3_beginnings cX3_beginnings 1 (some .int) rm_X3_beginnings sp_X3_beginnings := am_met (own := RX3) (nm := "beginnings") (by decide) rfl rfl (Or.inr (Or.inl rfl)) (fun _ _ => h_X3_beginnings) (fun _ _ _ X => s_X3_beginnings X) (fun _ _ _ _ h => h)
-- X3_allJoins
theorem dX3_allJoins_0 : decode cX3_allJoins 0 = .ok (.iconst 0, 1) := by decide +kernel
theorem dX3_allJoins_1 : decode cX3_allJoins 1 = .ok (.istore_n 1, 1) := by decide +kernel
theorem dX3_allJoins_2 : decode cX3_allJoins 2 = .ok (.iconst 0, 1) := by decide +kernel
theorem dX3_allJoins_3 : decode cX3_allJoins 3 = .ok (.istore_n 2, 1) := by decide +kernel
theorem dX3_allJoins_4 : decode cX3_allJoins 4 = .ok (.iload_n 2, 1) := by decide +kernel
theorem dX3_allJoins_5 : decode cX3_allJoins 5 = .ok (.aload_n 0, 1) := by decide +kernel
theorem dX3_allJoins_6 : decode cX3_allJoins 6 = .ok (.getfield 12, 3) := by decide +kernel
theorem dX3_allJoins_9 : decode cX3_allJoins 9 = .ok (.getfield 71, 3) := by decide +kernel
theorem dX3_allJoins_12 : decode cX3_allJoins 12 = .ok (.if_icmp .ge 18, 3) := by decide +kernel
theorem dX3_allJoins_15 : decode cX3_allJoins 15 = .ok (.iload_n 1, 1) := by decide +kernel
theorem dX3_allJoins_16 : decode cX3_allJoins 16 = .ok (.aload_n 0, 1) := by decide +kernel
theorem dX3_allJoins_17 : decode cX3_allJoins 17 = .ok (.getfield 46, 3) := by decide +kernel
theorem dX3_allJoins_20 : decode cX3_allJoins 20 = .ok (.iload_n 2, 1) := by decide +kernel
theorem dX3_allJoins_21 : decode cX3_allJoins 21 = .ok (.iaload, 1) := by decide +kernel
theorem dX3_allJoins_22 : decode cX3_allJoins 22 = .ok (.iadd, 1) := by decide +kernel
theorem dX3_allJoins_23 : decode cX3_allJoins 23 = .ok (.istore_n 1, 1) := by decide +kernel
theorem dX3_allJoins_24 : decode cX3_allJoins 24 = .ok (.iinc 2 1, 3) := by decide +kernel
theorem dX3_allJoins_27 : decode cX3_allJoins 27 = .ok (.goto (-23), 3) := by decide +kernel
theorem dX3_allJoins_30 : decode cX3_allJoins 30 = .ok (.iload_n 1, 1) := by decide +kernel
theorem dX3_allJoins_31 : decode cX3_allJoins 31 = .ok (.ireturn, 1) := by decide +kernel
def t_X3_allJoins_30 : am_T := tb_iload 1 <|
  tb_iret
def t_X3_allJoins_4 : am_T := tb_iload 2 <|
  tb_aload 0 <|
  tb_getR 3 0 <|
  tb_getI 1 4 <|
  tb_ic (fun x y => y ≤ x) (t_X3_allJoins_30) <|
  tb_iload 1 <|
  tb_aload 0 <|
  tb_getR 3 10 <|
  tb_iload 2 <|
  tb_iald <|
  tb_bin (fun x y => x + y) <|
  tb_istore 1 <|
  tb_iinc 2 1 <|
  tb_head 4
def t_X3_allJoins_0 : am_T := tb_const 0 <|
  tb_istore 1 <|
  tb_const 0 <|
  tb_istore 2 <|
  tb_head 4
def h_X3_allJoins : am_Hd := fun h => if h = 0 then t_X3_allJoins_0 else if h = 4 then t_X3_allJoins_4 else tb_bad
theorem h_X3_allJoins_0 : h_X3_allJoins 0 = t_X3_allJoins_0 := rfl
theorem h_X3_allJoins_4 : h_X3_allJoins 4 = t_X3_allJoins_4 := rfl
def rm_X3_allJoins : Room := { frames := 0, cells := 0, slots := 0, locals := 0 }
def sp_X3_allJoins : am_sp := fun as M Q => as.length ≤ 3 ∧ am_OK h_X3_allJoins Q 0 (am_in 3 as) M
theorem s_X3_allJoins_30 {G : am_G} {bc bs : Nat} (X : am_Cx G cX3_allJoins RX3 "allJoins" rm_X3_allJoins (some .int) 3 bc bs true) : am_S G 30 (t_X3_allJoins_30) := by
  unfold t_X3_allJoins_30
  refine as_iload_n (pc := 30) X dX3_allJoins_30 rfl ?_
  exact as_iret (pc := 31) X ⟨rfl, rfl⟩ rfl dX3_allJoins_31
theorem s_X3_allJoins_4 {G : am_G} {bc bs : Nat} (X : am_Cx G cX3_allJoins RX3 "allJoins" rm_X3_allJoins (some .int) 3 bc bs true) : am_S G 4 (t_X3_allJoins_4) := by
  unfold t_X3_allJoins_4
  refine as_iload_n (pc := 4) X dX3_allJoins_4 rfl ?_
  refine as_aload_n (pc := 5) X dX3_allJoins_5 rfl ?_
  refine as_getR (ci := 3) (j := 0) (pc := 6) X (Cn := RX3) (Tf := TX3) (N := 17) rfl rfl (by decide) iw_X3 aw_159 rfl dX3_allJoins_6 ?_
  refine as_getI (ci := 1) (j := 4) (pc := 9) X (Cn := RX1) (Tf := TX1) (N := 14) rfl rfl (by decide) iw_X1 aw_99 rfl dX3_allJoins_9 ?_
  refine as_ic_ge (pc := 12) X 30 dX3_allJoins_12 (by decide) (s_X3_allJoins_30 X) ?_
  refine as_iload_n (pc := 15) X dX3_allJoins_15 rfl ?_
  refine as_aload_n (pc := 16) X dX3_allJoins_16 rfl ?_
  refine as_getR (ci := 3) (j := 10) (pc := 17) X (Cn := RX3) (Tf := TX3) (N := 17) rfl rfl (by decide) iw_X3 aw_174 rfl dX3_allJoins_17 ?_
  refine as_iload_n (pc := 20) X dX3_allJoins_20 rfl ?_
  refine as_iald (pc := 21) X dX3_allJoins_21 ?_
  refine as_iadd (pc := 22) X dX3_allJoins_22 ?_
  refine as_istore_n (pc := 23) X dX3_allJoins_23 rfl ?_ (by decide)
  refine as_iinc (pc := 24) X dX3_allJoins_24 (by decide) (by decide) ?_
  exact as_goto (pc := 27) X 4 dX3_allJoins_27 (by decide) (as_head)
theorem s_X3_allJoins_0 {G : am_G} {bc bs : Nat} (X : am_Cx G cX3_allJoins RX3 "allJoins" rm_X3_allJoins (some .int) 3 bc bs true) : am_S G 0 (t_X3_allJoins_0) := by
  unfold t_X3_allJoins_0
  refine as_iconst (pc := 0) X dX3_allJoins_0 (by decide) ?_
  refine as_istore_n (pc := 1) X dX3_allJoins_1 rfl ?_ (by decide)
  refine as_iconst (pc := 2) X dX3_allJoins_2 (by decide) ?_
  refine as_istore_n (pc := 3) X dX3_allJoins_3 rfl ?_ (by decide)
  exact as_head
theorem s_X3_allJoins {G : am_G} {bc bs : Nat} (X : am_Cx G cX3_allJoins RX3 "allJoins" rm_X3_allJoins (some .int) 3 bc bs true) (h : Nat) : am_S G h (h_X3_allJoins h) := by
  unfold h_X3_allJoins
  split
  · next e => rw [e]; exact s_X3_allJoins_0 X
  split
  · next e => rw [e]; exact s_X3_allJoins_4 X
  exact as_bad
theorem ct_X3_allJoins : am_Ct yX3_allJoins cX3_allJoins 3 (some .int) rm_X3_allJoins sp_X3_allJoins := am_met (own := RX3) (nm := "allJoins") (by decide) rfl rfl (Or.inr (Or.inl rfl)) (fun _ _ => h_X3_allJoins) (fun _ _ _ X => s_X3_allJoins X) (fun _ _ _ _ h => h)
-- X1_fixedLines
theorem dX1_fixedLines_0 : decode cX1_fixedLines 0 = .ok (.iconst 0, 1) := by decide +kernel
theorem dX1_fixedLines_1 : decode cX1_fixedLines 1 = .ok (.istore_n 1, 1) := by decide +kernel
theorem dX1_fixedLines_2 : decode cX1_fixedLines 2 = .ok (.iconst 0, 1) := by decide +kernel
theorem dX1_fixedLines_3 : decode cX1_fixedLines 3 = .ok (.istore_n 2, 1) := by decide +kernel
theorem dX1_fixedLines_4 : decode cX1_fixedLines 4 = .ok (.iload_n 2, 1) := by decide +kernel
theorem dX1_fixedLines_5 : decode cX1_fixedLines 5 = .ok (.aload_n 0, 1) := by decide +kernel
theorem dX1_fixedLines_6 : decode cX1_fixedLines 6 = .ok (.getfield 25, 3) := by decide +kernel
theorem dX1_fixedLines_9 : decode cX1_fixedLines 9 = .ok (.if_icmp .ge 21, 3) := by decide +kernel
theorem dX1_fixedLines_12 : decode cX1_fixedLines 12 = .ok (.aload_n 0, 1) := by decide +kernel
theorem dX1_fixedLines_13 : decode cX1_fixedLines 13 = .ok (.iload_n 2, 1) := by decide +kernel
theorem dX1_fixedLines_14 : decode cX1_fixedLines 14 = .ok (.invokevirtual 86, 3) := by decide +kernel
theorem dX1_fixedLines_17 : decode cX1_fixedLines 17 = .ok (.iconst (-1), 1) := by decide +kernel
theorem dX1_fixedLines_18 : decode cX1_fixedLines 18 = .ok (.if_icmp .eq 6, 3) := by decide +kernel
theorem dX1_fixedLines_21 : decode cX1_fixedLines 21 = .ok (.iinc 1 1, 3) := by decide +kernel
theorem dX1_fixedLines_24 : decode cX1_fixedLines 24 = .ok (.iinc 2 1, 3) := by decide +kernel
theorem dX1_fixedLines_27 : decode cX1_fixedLines 27 = .ok (.goto (-23), 3) := by decide +kernel
theorem dX1_fixedLines_30 : decode cX1_fixedLines 30 = .ok (.iload_n 1, 1) := by decide +kernel
theorem dX1_fixedLines_31 : decode cX1_fixedLines 31 = .ok (.ireturn, 1) := by decide +kernel
def t_X1_fixedLines_30 : am_T := tb_iload 1 <|
  tb_iret
def t_X1_fixedLines_24 : am_T := tb_iinc 2 1 <|
  tb_head 4
def t_X1_fixedLines_4 : am_T := tb_iload 2 <|
  tb_aload 0 <|
  tb_getI 1 4 <|
  tb_ic (fun x y => y ≤ x) (t_X1_fixedLines_30) <|
  tb_aload 0 <|
  tb_iload 2 <|
  tb_callV 1 sp_X1_countingFix 2 <|
  tb_const (-1) <|
  tb_ic (fun x y => x = y) (t_X1_fixedLines_24) <|
  tb_iinc 1 1 <|
  t_X1_fixedLines_24
def t_X1_fixedLines_0 : am_T := tb_const 0 <|
  tb_istore 1 <|
  tb_const 0 <|
  tb_istore 2 <|
  tb_head 4
def h_X1_fixedLines : am_Hd := fun h => if h = 0 then t_X1_fixedLines_0 else if h = 4 then t_X1_fixedLines_4 else tb_bad
theorem h_X1_fixedLines_0 : h_X1_fixedLines 0 = t_X1_fixedLines_0 := rfl
theorem h_X1_fixedLines_4 : h_X1_fixedLines 4 = t_X1_fixedLines_4 := rfl
def rm_X1_fixedLines : Room := { frames := 1, cells := 0, slots := 0, locals := 22 }
def sp_X1_fixedLines : am_sp := fun as M Q => as.length ≤ 3 ∧ am_OK h_X1_fixedLines Q 0 (am_in 3 as) M
theorem s_X1_fixedLines_30 {G : am_G} {bc bs : Nat} (X : am_Cx G cX1_fixedLines RX1 "fixedLines" rm_X1_fixedLines (some .int) 3 bc bs true) : am_S G 30 (t_X1_fixedLines_30) := by
  unfold t_X1_fixedLines_30
  refine as_iload_n (pc := 30) X dX1_fixedLines_30 rfl ?_
  exact as_iret (pc := 31) X ⟨rfl, rfl⟩ rfl dX1_fixedLines_31
theorem s_X1_fixedLines_24 {G : am_G} {bc bs : Nat} (X : am_Cx G cX1_fixedLines RX1 "fixedLines" rm_X1_fixedLines (some .int) 3 bc bs true) : am_S G 24 (t_X1_fixedLines_24) := by
  unfold t_X1_fixedLines_24
  refine as_iinc (pc := 24) X dX1_fixedLines_24 (by decide) (by decide) ?_
  exact as_goto (pc := 27) X 4 dX1_fixedLines_27 (by decide) (as_head)
theorem s_X1_fixedLines_4 {G : am_G} {bc bs : Nat} (X : am_Cx G cX1_fixedLines RX1 "fixedLines" rm_X1_fixedLines (some .int) 3 bc bs true) : am_S G 4 (t_X1_fixedLines_4) := by
  unfold t_X1_fixedLines_4
  refine as_iload_n (pc := 4) X dX1_fixedLines_4 rfl ?_
  refine as_aload_n (pc := 5) X dX1_fixedLines_5 rfl ?_
  refine as_getI (ci := 1) (j := 4) (pc := 6) X (Cn := RX1) (Tf := TX1) (N := 14) rfl rfl (by decide) iw_X1 aw_98 rfl dX1_fixedLines_6 ?_
  refine as_ic_ge (pc := 9) X 30 dX1_fixedLines_9 (by decide) (s_X1_fixedLines_30 X) ?_
  refine as_aload_n (pc := 12) X dX1_fixedLines_12 rfl ?_
  refine as_iload_n (pc := 13) X dX1_fixedLines_13 rfl ?_
  refine as_callV (ci := 1) (np := 1) (ix := 86) (pc := 14) X ct_X1_countingFix (Cn := (RX1, TX1, 14)) rfl ⟨rfl, rfl⟩ aw_543 aw_428 aw_429 aw_430 aw_61 (by decide +kernel) (by decide) dX1_fixedLines_14 ?_
  refine as_iconst (pc := 17) X dX1_fixedLines_17 (by decide) ?_
  refine as_ic_eq (pc := 18) X 24 dX1_fixedLines_18 (by decide) (s_X1_fixedLines_24 X) ?_
  refine as_iinc (pc := 21) X dX1_fixedLines_21 (by decide) (by decide) ?_
  exact s_X1_fixedLines_24 X
theorem s_X1_fixedLines_0 {G : am_G} {bc bs : Nat} (X : am_Cx G cX1_fixedLines RX1 "fixedLines" rm_X1_fixedLines (some .int) 3 bc bs true) : am_S G 0 (t_X1_fixedLines_0) := by
  unfold t_X1_fixedLines_0
  refine as_iconst (pc := 0) X dX1_fixedLines_0 (by decide) ?_
  refine as_istore_n (pc := 1) X dX1_fixedLines_1 rfl ?_ (by decide)
  refine as_iconst (pc := 2) X dX1_fixedLines_2 (by decide) ?_
  refine as_istore_n (pc := 3) X dX1_fixedLines_3 rfl ?_ (by decide)
  exact as_head
theorem s_X1_fixedLines {G : am_G} {bc bs : Nat} (X : am_Cx G cX1_fixedLines RX1 "fixedLines" rm_X1_fixedLines (some .int) 3 bc bs true) (h : Nat) : am_S G h (h_X1_fixedLines h) := by
  unfold h_X1_fixedLines
  split
  · next e => rw [e]; exact s_X1_fixedLines_0 X
  split
  · next e => rw [e]; exact s_X1_fixedLines_4 X
  exact as_bad
theorem ct_X1_fixedLines : am_Ct yX1_fixedLines cX1_fixedLines 3 (some .int) rm_X1_fixedLines sp_X1_fixedLines := am_met (own := RX1) (nm := "fixedLines") (by decide) rfl rfl (Or.inr (Or.inl rfl)) (fun _ _ => h_X1_fixedLines) (fun _ _ _ X => s_X1_fixedLines X) (fun _ _ _ _ h => h)
-- X4_count
theorem dX4_count_0 : decode cX4_count 0 = .ok (.iload_n 1, 1) := by decide +kernel
theorem dX4_count_1 : decode cX4_count 1 = .ok (.bipush 10, 2) := by decide +kernel
theorem dX4_count_3 : decode cX4_count 3 = .ok (.if_icmp .lt 22, 3) := by decide +kernel
theorem dX4_count_6 : decode cX4_count 6 = .ok (.iload_n 1, 1) := by decide +kernel
theorem dX4_count_7 : decode cX4_count 7 = .ok (.bipush 18, 2) := by decide +kernel
theorem dX4_count_9 : decode cX4_count 9 = .ok (.if_icmp .ge 16, 3) := by decide +kernel
theorem dX4_count_12 : decode cX4_count 12 = .ok (.aload_n 0, 1) := by decide +kernel
theorem dX4_count_13 : decode cX4_count 13 = .ok (.getfield 20, 3) := by decide +kernel
theorem dX4_count_16 : decode cX4_count 16 = .ok (.getfield 155, 3) := by decide +kernel
theorem dX4_count_19 : decode cX4_count 19 = .ok (.iload_n 1, 1) := by decide +kernel
theorem dX4_count_20 : decode cX4_count 20 = .ok (.bipush 10, 2) := by decide +kernel
theorem dX4_count_22 : decode cX4_count 22 = .ok (.isub, 1) := by decide +kernel
theorem dX4_count_23 : decode cX4_count 23 = .ok (.iaload, 1) := by decide +kernel
theorem dX4_count_24 : decode cX4_count 24 = .ok (.ireturn, 1) := by decide +kernel
theorem dX4_count_25 : decode cX4_count 25 = .ok (.iload_n 1, 1) := by decide +kernel
theorem dX4_count_26 : decode cX4_count 26 = .ok (.tableswitch 122 0 8 #[50, 58, 66, 74, 82, 90, 98, 106, 114], 50) := by decide +kernel
theorem dX4_count_76 : decode cX4_count 76 = .ok (.aload_n 0, 1) := by decide +kernel
theorem dX4_count_77 : decode cX4_count 77 = .ok (.getfield 20, 3) := by decide +kernel
theorem dX4_count_80 : decode cX4_count 80 = .ok (.getfield 86, 3) := by decide +kernel
theorem dX4_count_83 : decode cX4_count 83 = .ok (.ireturn, 1) := by decide +kernel
theorem dX4_count_84 : decode cX4_count 84 = .ok (.aload_n 0, 1) := by decide +kernel
theorem dX4_count_85 : decode cX4_count 85 = .ok (.getfield 20, 3) := by decide +kernel
theorem dX4_count_88 : decode cX4_count 88 = .ok (.getfield 100, 3) := by decide +kernel
theorem dX4_count_91 : decode cX4_count 91 = .ok (.ireturn, 1) := by decide +kernel
theorem dX4_count_92 : decode cX4_count 92 = .ok (.aload_n 0, 1) := by decide +kernel
theorem dX4_count_93 : decode cX4_count 93 = .ok (.invokevirtual 116, 3) := by decide +kernel
theorem dX4_count_96 : decode cX4_count 96 = .ok (.getfield 158, 3) := by decide +kernel
theorem dX4_count_99 : decode cX4_count 99 = .ok (.ireturn, 1) := by decide +kernel
theorem dX4_count_100 : decode cX4_count 100 = .ok (.aload_n 0, 1) := by decide +kernel
theorem dX4_count_101 : decode cX4_count 101 = .ok (.invokevirtual 116, 3) := by decide +kernel
theorem dX4_count_104 : decode cX4_count 104 = .ok (.invokevirtual 161, 3) := by decide +kernel
theorem dX4_count_107 : decode cX4_count 107 = .ok (.ireturn, 1) := by decide +kernel
theorem dX4_count_108 : decode cX4_count 108 = .ok (.aload_n 0, 1) := by decide +kernel
theorem dX4_count_109 : decode cX4_count 109 = .ok (.invokevirtual 116, 3) := by decide +kernel
theorem dX4_count_112 : decode cX4_count 112 = .ok (.invokevirtual 164, 3) := by decide +kernel
theorem dX4_count_115 : decode cX4_count 115 = .ok (.ireturn, 1) := by decide +kernel
theorem dX4_count_116 : decode cX4_count 116 = .ok (.aload_n 0, 1) := by decide +kernel
theorem dX4_count_117 : decode cX4_count 117 = .ok (.getfield 20, 3) := by decide +kernel
theorem dX4_count_120 : decode cX4_count 120 = .ok (.invokevirtual 167, 3) := by decide +kernel
theorem dX4_count_123 : decode cX4_count 123 = .ok (.ireturn, 1) := by decide +kernel
theorem dX4_count_124 : decode cX4_count 124 = .ok (.aload_n 0, 1) := by decide +kernel
theorem dX4_count_125 : decode cX4_count 125 = .ok (.getfield 20, 3) := by decide +kernel
theorem dX4_count_128 : decode cX4_count 128 = .ok (.getfield 65, 3) := by decide +kernel
theorem dX4_count_131 : decode cX4_count 131 = .ok (.ireturn, 1) := by decide +kernel
theorem dX4_count_132 : decode cX4_count 132 = .ok (.aload_n 0, 1) := by decide +kernel
theorem dX4_count_133 : decode cX4_count 133 = .ok (.getfield 28, 3) := by decide +kernel
theorem dX4_count_136 : decode cX4_count 136 = .ok (.getfield 170, 3) := by decide +kernel
theorem dX4_count_139 : decode cX4_count 139 = .ok (.ireturn, 1) := by decide +kernel
theorem dX4_count_140 : decode cX4_count 140 = .ok (.aload_n 0, 1) := by decide +kernel
theorem dX4_count_141 : decode cX4_count 141 = .ok (.getfield 35, 3) := by decide +kernel
theorem dX4_count_144 : decode cX4_count 144 = .ok (.getfield 173, 3) := by decide +kernel
theorem dX4_count_147 : decode cX4_count 147 = .ok (.ireturn, 1) := by decide +kernel
theorem dX4_count_148 : decode cX4_count 148 = .ok (.iconst (-1), 1) := by decide +kernel
theorem dX4_count_149 : decode cX4_count 149 = .ok (.ireturn, 1) := by decide +kernel
def t_X4_count_148 : am_T := tb_const (-1) <|
  tb_iret
def t_X4_count_140 : am_T := tb_aload 0 <|
  tb_getR 4 4 <|
  tb_getI 2 0 <|
  tb_iret
def t_X4_count_132 : am_T := tb_aload 0 <|
  tb_getR 4 3 <|
  tb_getI 0 0 <|
  tb_iret
def t_X4_count_124 : am_T := tb_aload 0 <|
  tb_getR 4 1 <|
  tb_getI 1 0 <|
  tb_iret
def t_X4_count_116 : am_T := tb_aload 0 <|
  tb_getR 4 1 <|
  tb_callV 1 sp_X1_fixedLines 1 <|
  tb_iret
def t_X4_count_108 : am_T := tb_aload 0 <|
  tb_callV 4 sp_X4_currentThreads 1 <|
  tb_callV 3 sp_X3_allJoins 1 <|
  tb_iret
def t_X4_count_100 : am_T := tb_aload 0 <|
  tb_callV 4 sp_X4_currentThreads 1 <|
  tb_callV 3 sp_X3_beginnings 1 <|
  tb_iret
def t_X4_count_92 : am_T := tb_aload 0 <|
  tb_callV 4 sp_X4_currentThreads 1 <|
  tb_getI 3 14 <|
  tb_iret
def t_X4_count_84 : am_T := tb_aload 0 <|
  tb_getR 4 1 <|
  tb_getI 1 9 <|
  tb_iret
def t_X4_count_76 : am_T := tb_aload 0 <|
  tb_getR 4 1 <|
  tb_getI 1 4 <|
  tb_iret
def w_X4_count_26 : Nat → am_T := fun j => match j with
    | 0 => t_X4_count_76
    | 1 => t_X4_count_84
    | 2 => t_X4_count_92
    | 3 => t_X4_count_100
    | 4 => t_X4_count_108
    | 5 => t_X4_count_116
    | 6 => t_X4_count_124
    | 7 => t_X4_count_132
    | 8 => t_X4_count_140
    | _ => tb_bad
def v_X4_count_26 : Nat → Nat := fun j => match j with
    | 0 => 76
    | 1 => 84
    | 2 => 92
    | 3 => 100
    | 4 => 108
    | 5 => 116
    | 6 => 124
    | 7 => 132
    | 8 => 140
    | _ => 0
def t_X4_count_25 : am_T := tb_iload 1 <|
  tb_sw 0 8 w_X4_count_26 (t_X4_count_148)
def t_X4_count_0 : am_T := tb_iload 1 <|
  tb_const 10 <|
  tb_ic (fun x y => x < y) (t_X4_count_25) <|
  tb_iload 1 <|
  tb_const 18 <|
  tb_ic (fun x y => y ≤ x) (t_X4_count_25) <|
  tb_aload 0 <|
  tb_getR 4 1 <|
  tb_getR 1 13 <|
  tb_iload 1 <|
  tb_const 10 <|
  tb_bin (fun x y => x - y) <|
  tb_iald <|
  tb_iret
def h_X4_count : am_Hd := fun h => if h = 0 then t_X4_count_0 else tb_bad
theorem h_X4_count_0 : h_X4_count 0 = t_X4_count_0 := rfl
def rm_X4_count : Room := { frames := 6, cells := 0, slots := 0, locals := 133 }
def sp_X4_count : am_sp := fun as M Q => as.length ≤ 2 ∧ am_OK h_X4_count Q 0 (am_in 2 as) M
theorem s_X4_count_148 {G : am_G} {bc bs : Nat} (X : am_Cx G cX4_count RX4 "count" rm_X4_count (some .int) 2 bc bs true) : am_S G 148 (t_X4_count_148) := by
  unfold t_X4_count_148
  refine as_iconst (pc := 148) X dX4_count_148 (by decide) ?_
  exact as_iret (pc := 149) X ⟨rfl, rfl⟩ rfl dX4_count_149
theorem s_X4_count_140 {G : am_G} {bc bs : Nat} (X : am_Cx G cX4_count RX4 "count" rm_X4_count (some .int) 2 bc bs true) : am_S G 140 (t_X4_count_140) := by
  unfold t_X4_count_140
  refine as_aload_n (pc := 140) X dX4_count_140 rfl ?_
  refine as_getR (ci := 4) (j := 4) (pc := 141) X (Cn := RX4) (Tf := TX4) (N := 7) rfl rfl (by decide) iw_X4 aw_278 rfl dX4_count_141 ?_
  refine as_getI (ci := 2) (j := 0) (pc := 144) X (Cn := RX2) (Tf := TX2) (N := 8) rfl rfl (by decide) iw_X2 aw_245 rfl dX4_count_144 ?_
  exact as_iret (pc := 147) X ⟨rfl, rfl⟩ rfl dX4_count_147
theorem s_X4_count_132 {G : am_G} {bc bs : Nat} (X : am_Cx G cX4_count RX4 "count" rm_X4_count (some .int) 2 bc bs true) : am_S G 132 (t_X4_count_132) := by
  unfold t_X4_count_132
  refine as_aload_n (pc := 132) X dX4_count_132 rfl ?_
  refine as_getR (ci := 4) (j := 3) (pc := 133) X (Cn := RX4) (Tf := TX4) (N := 7) rfl rfl (by decide) iw_X4 aw_277 rfl dX4_count_133 ?_
  refine as_getI (ci := 0) (j := 0) (pc := 136) X (Cn := RX0) (Tf := TX0) (N := 2) rfl rfl (by decide) iw_X0 aw_231 rfl dX4_count_136 ?_
  exact as_iret (pc := 139) X ⟨rfl, rfl⟩ rfl dX4_count_139
theorem s_X4_count_124 {G : am_G} {bc bs : Nat} (X : am_Cx G cX4_count RX4 "count" rm_X4_count (some .int) 2 bc bs true) : am_S G 124 (t_X4_count_124) := by
  unfold t_X4_count_124
  refine as_aload_n (pc := 124) X dX4_count_124 rfl ?_
  refine as_getR (ci := 4) (j := 1) (pc := 125) X (Cn := RX4) (Tf := TX4) (N := 7) rfl rfl (by decide) iw_X4 aw_275 rfl dX4_count_125 ?_
  refine as_getI (ci := 1) (j := 0) (pc := 128) X (Cn := RX1) (Tf := TX1) (N := 14) rfl rfl (by decide) iw_X1 aw_94 rfl dX4_count_128 ?_
  exact as_iret (pc := 131) X ⟨rfl, rfl⟩ rfl dX4_count_131
theorem s_X4_count_116 {G : am_G} {bc bs : Nat} (X : am_Cx G cX4_count RX4 "count" rm_X4_count (some .int) 2 bc bs true) : am_S G 116 (t_X4_count_116) := by
  unfold t_X4_count_116
  refine as_aload_n (pc := 116) X dX4_count_116 rfl ?_
  refine as_getR (ci := 4) (j := 1) (pc := 117) X (Cn := RX4) (Tf := TX4) (N := 7) rfl rfl (by decide) iw_X4 aw_275 rfl dX4_count_117 ?_
  refine as_callV (ci := 1) (np := 0) (ix := 167) (pc := 120) X ct_X1_fixedLines (Cn := (RX1, TX1, 14)) rfl ⟨rfl, rfl⟩ aw_539 aw_540 aw_541 aw_542 aw_61 (by decide +kernel) (by decide) dX4_count_120 ?_
  exact as_iret (pc := 123) X ⟨rfl, rfl⟩ rfl dX4_count_123
theorem s_X4_count_108 {G : am_G} {bc bs : Nat} (X : am_Cx G cX4_count RX4 "count" rm_X4_count (some .int) 2 bc bs true) : am_S G 108 (t_X4_count_108) := by
  unfold t_X4_count_108
  refine as_aload_n (pc := 108) X dX4_count_108 rfl ?_
  refine as_callV (ci := 4) (np := 0) (ix := 116) (pc := 109) X ct_X4_currentThreads (Cn := (RX4, TX4, 7)) rfl ⟨rfl, rfl⟩ aw_389 aw_391 aw_2 aw_392 aw_59 (by decide +kernel) (by decide) dX4_count_109 ?_
  refine as_callV (ci := 3) (np := 0) (ix := 164) (pc := 112) X ct_X3_allJoins (Cn := (RX3, TX3, 17)) rfl ⟨rfl, rfl⟩ aw_535 aw_536 aw_537 aw_538 aw_60 (by decide +kernel) (by decide) dX4_count_112 ?_
  exact as_iret (pc := 115) X ⟨rfl, rfl⟩ rfl dX4_count_115
theorem s_X4_count_100 {G : am_G} {bc bs : Nat} (X : am_Cx G cX4_count RX4 "count" rm_X4_count (some .int) 2 bc bs true) : am_S G 100 (t_X4_count_100) := by
  unfold t_X4_count_100
  refine as_aload_n (pc := 100) X dX4_count_100 rfl ?_
  refine as_callV (ci := 4) (np := 0) (ix := 116) (pc := 101) X ct_X4_currentThreads (Cn := (RX4, TX4, 7)) rfl ⟨rfl, rfl⟩ aw_389 aw_391 aw_2 aw_392 aw_59 (by decide +kernel) (by decide) dX4_count_101 ?_
  refine as_callV (ci := 3) (np := 0) (ix := 161) (pc := 104) X ct_X3_beginnings (Cn := (RX3, TX3, 17)) rfl ⟨rfl, rfl⟩ aw_530 aw_531 aw_532 aw_533 aw_60 (by decide +kernel) (by decide) dX4_count_104 ?_
  exact as_iret (pc := 107) X ⟨rfl, rfl⟩ rfl dX4_count_107
theorem s_X4_count_92 {G : am_G} {bc bs : Nat} (X : am_Cx G cX4_count RX4 "count" rm_X4_count (some .int) 2 bc bs true) : am_S G 92 (t_X4_count_92) := by
  unfold t_X4_count_92
  refine as_aload_n (pc := 92) X dX4_count_92 rfl ?_
  refine as_callV (ci := 4) (np := 0) (ix := 116) (pc := 93) X ct_X4_currentThreads (Cn := (RX4, TX4, 7)) rfl ⟨rfl, rfl⟩ aw_389 aw_391 aw_2 aw_392 aw_59 (by decide +kernel) (by decide) dX4_count_93 ?_
  refine as_getI (ci := 3) (j := 14) (pc := 96) X (Cn := RX3) (Tf := TX3) (N := 17) rfl rfl (by decide) iw_X3 aw_181 rfl dX4_count_96 ?_
  exact as_iret (pc := 99) X ⟨rfl, rfl⟩ rfl dX4_count_99
theorem s_X4_count_84 {G : am_G} {bc bs : Nat} (X : am_Cx G cX4_count RX4 "count" rm_X4_count (some .int) 2 bc bs true) : am_S G 84 (t_X4_count_84) := by
  unfold t_X4_count_84
  refine as_aload_n (pc := 84) X dX4_count_84 rfl ?_
  refine as_getR (ci := 4) (j := 1) (pc := 85) X (Cn := RX4) (Tf := TX4) (N := 7) rfl rfl (by decide) iw_X4 aw_275 rfl dX4_count_85 ?_
  refine as_getI (ci := 1) (j := 9) (pc := 88) X (Cn := RX1) (Tf := TX1) (N := 14) rfl rfl (by decide) iw_X1 aw_114 rfl dX4_count_88 ?_
  exact as_iret (pc := 91) X ⟨rfl, rfl⟩ rfl dX4_count_91
theorem s_X4_count_76 {G : am_G} {bc bs : Nat} (X : am_Cx G cX4_count RX4 "count" rm_X4_count (some .int) 2 bc bs true) : am_S G 76 (t_X4_count_76) := by
  unfold t_X4_count_76
  refine as_aload_n (pc := 76) X dX4_count_76 rfl ?_
  refine as_getR (ci := 4) (j := 1) (pc := 77) X (Cn := RX4) (Tf := TX4) (N := 7) rfl rfl (by decide) iw_X4 aw_275 rfl dX4_count_77 ?_
  refine as_getI (ci := 1) (j := 4) (pc := 80) X (Cn := RX1) (Tf := TX1) (N := 14) rfl rfl (by decide) iw_X1 aw_100 rfl dX4_count_80 ?_
  exact as_iret (pc := 83) X ⟨rfl, rfl⟩ rfl dX4_count_83
theorem s_X4_count_25 {G : am_G} {bc bs : Nat} (X : am_Cx G cX4_count RX4 "count" rm_X4_count (some .int) 2 bc bs true) : am_S G 25 (t_X4_count_25) := by
  unfold t_X4_count_25
  refine as_iload_n (pc := 25) X dX4_count_25 rfl ?_
  refine as_sw (pc := 26) X dX4_count_26 v_X4_count_26 148 (by decide) (fun j hj => ?_) (s_X4_count_148 X)
  match j, hj with
  | 0, _ => exact ⟨50, rfl, by decide, s_X4_count_76 X⟩
  | 1, _ => exact ⟨58, rfl, by decide, s_X4_count_84 X⟩
  | 2, _ => exact ⟨66, rfl, by decide, s_X4_count_92 X⟩
  | 3, _ => exact ⟨74, rfl, by decide, s_X4_count_100 X⟩
  | 4, _ => exact ⟨82, rfl, by decide, s_X4_count_108 X⟩
  | 5, _ => exact ⟨90, rfl, by decide, s_X4_count_116 X⟩
  | 6, _ => exact ⟨98, rfl, by decide, s_X4_count_124 X⟩
  | 7, _ => exact ⟨106, rfl, by decide, s_X4_count_132 X⟩
  | 8, _ => exact ⟨114, rfl, by decide, s_X4_count_140 X⟩
  | j + 9, hj => exact absurd hj (by omega)
theorem s_X4_count_0 {G : am_G} {bc bs : Nat} (X : am_Cx G cX4_count RX4 "count" rm_X4_count (some .int) 2 bc bs true) : am_S G 0 (t_X4_count_0) := by
  unfold t_X4_count_0
  refine as_iload_n (pc := 0) X dX4_count_0 rfl ?_
  refine as_bipush (pc := 1) X dX4_count_1 (by decide) ?_
  refine as_ic_lt (pc := 3) X 25 dX4_count_3 (by decide) (s_X4_count_25 X) ?_
  refine as_iload_n (pc := 6) X dX4_count_6 rfl ?_
  refine as_bipush (pc := 7) X dX4_count_7 (by decide) ?_
  refine as_ic_ge (pc := 9) X 25 dX4_count_9 (by decide) (s_X4_count_25 X) ?_
  refine as_aload_n (pc := 12) X dX4_count_12 rfl ?_
  refine as_getR (ci := 4) (j := 1) (pc := 13) X (Cn := RX4) (Tf := TX4) (N := 7) rfl rfl (by decide) iw_X4 aw_275 rfl dX4_count_13 ?_
  refine as_getR (ci := 1) (j := 13) (pc := 16) X (Cn := RX1) (Tf := TX1) (N := 14) rfl rfl (by decide) iw_X1 aw_128 rfl dX4_count_16 ?_
  refine as_iload_n (pc := 19) X dX4_count_19 rfl ?_
  refine as_bipush (pc := 20) X dX4_count_20 (by decide) ?_
  refine as_isub (pc := 22) X dX4_count_22 ?_
  refine as_iald (pc := 23) X dX4_count_23 ?_
  exact as_iret (pc := 24) X ⟨rfl, rfl⟩ rfl dX4_count_24
theorem s_X4_count {G : am_G} {bc bs : Nat} (X : am_Cx G cX4_count RX4 "count" rm_X4_count (some .int) 2 bc bs true) (h : Nat) : am_S G h (h_X4_count h) := by
  unfold h_X4_count
  split
  · next e => rw [e]; exact s_X4_count_0 X
  exact as_bad
theorem ct_X4_count : am_Ct yX4_count cX4_count 2 (some .int) rm_X4_count sp_X4_count := am_met (own := RX4) (nm := "count") (by decide) rfl rfl (Or.inr (Or.inl rfl)) (fun _ _ => h_X4_count) (fun _ _ _ X => s_X4_count X) (fun _ _ _ _ h => h)
-- X5_sumOf
theorem dX5_sumOf_0 : decode cX5_sumOf 0 = .ok (.aload_n 0, 1) := by decide +kernel
theorem dX5_sumOf_1 : decode cX5_sumOf 1 = .ok (.aload_n 0, 1) := by decide +kernel
theorem dX5_sumOf_2 : decode cX5_sumOf 2 = .ok (.getfield 7, 3) := by decide +kernel
theorem dX5_sumOf_5 : decode cX5_sumOf 5 = .ok (.invokevirtual 145, 3) := by decide +kernel
theorem dX5_sumOf_8 : decode cX5_sumOf 8 = .ok (.iconst 0, 1) := by decide +kernel
theorem dX5_sumOf_9 : decode cX5_sumOf 9 = .ok (.istore_n 2, 1) := by decide +kernel
theorem dX5_sumOf_10 : decode cX5_sumOf 10 = .ok (.iconst 0, 1) := by decide +kernel
theorem dX5_sumOf_11 : decode cX5_sumOf 11 = .ok (.istore_n 3, 1) := by decide +kernel
theorem dX5_sumOf_12 : decode cX5_sumOf 12 = .ok (.iload_n 3, 1) := by decide +kernel
theorem dX5_sumOf_13 : decode cX5_sumOf 13 = .ok (.aload_n 0, 1) := by decide +kernel
theorem dX5_sumOf_14 : decode cX5_sumOf 14 = .ok (.getfield 7, 3) := by decide +kernel
theorem dX5_sumOf_17 : decode cX5_sumOf 17 = .ok (.bipush 9, 2) := by decide +kernel
theorem dX5_sumOf_19 : decode cX5_sumOf 19 = .ok (.iaload, 1) := by decide +kernel
theorem dX5_sumOf_20 : decode cX5_sumOf 20 = .ok (.if_icmp .ge 68, 3) := by decide +kernel
theorem dX5_sumOf_23 : decode cX5_sumOf 23 = .ok (.iload_n 2, 1) := by decide +kernel
theorem dX5_sumOf_24 : decode cX5_sumOf 24 = .ok (.iload_n 1, 1) := by decide +kernel
theorem dX5_sumOf_25 : decode cX5_sumOf 25 = .ok (.iconst 3, 1) := by decide +kernel
theorem dX5_sumOf_26 : decode cX5_sumOf 26 = .ok (.if_icmp .ne 22, 3) := by decide +kernel
theorem dX5_sumOf_29 : decode cX5_sumOf 29 = .ok (.aload_n 0, 1) := by decide +kernel
theorem dX5_sumOf_30 : decode cX5_sumOf 30 = .ok (.getfield 34, 3) := by decide +kernel
theorem dX5_sumOf_33 : decode cX5_sumOf 33 = .ok (.iload_n 3, 1) := by decide +kernel
theorem dX5_sumOf_34 : decode cX5_sumOf 34 = .ok (.iaload, 1) := by decide +kernel
theorem dX5_sumOf_35 : decode cX5_sumOf 35 = .ok (.bipush (-4), 2) := by decide +kernel
theorem dX5_sumOf_37 : decode cX5_sumOf 37 = .ok (.if_icmp .ne 7, 3) := by decide +kernel
theorem dX5_sumOf_40 : decode cX5_sumOf 40 = .ok (.iconst 1, 1) := by decide +kernel
theorem dX5_sumOf_41 : decode cX5_sumOf 41 = .ok (.goto 39, 3) := by decide +kernel
theorem dX5_sumOf_44 : decode cX5_sumOf 44 = .ok (.iconst 0, 1) := by decide +kernel
theorem dX5_sumOf_45 : decode cX5_sumOf 45 = .ok (.goto 35, 3) := by decide +kernel
theorem dX5_sumOf_48 : decode cX5_sumOf 48 = .ok (.iload_n 1, 1) := by decide +kernel
theorem dX5_sumOf_49 : decode cX5_sumOf 49 = .ok (.iconst 4, 1) := by decide +kernel
theorem dX5_sumOf_50 : decode cX5_sumOf 50 = .ok (.if_icmp .ne 12, 3) := by decide +kernel
theorem dX5_sumOf_53 : decode cX5_sumOf 53 = .ok (.aload_n 0, 1) := by decide +kernel
theorem dX5_sumOf_54 : decode cX5_sumOf 54 = .ok (.getfield 40, 3) := by decide +kernel
theorem dX5_sumOf_57 : decode cX5_sumOf 57 = .ok (.iload_n 3, 1) := by decide +kernel
theorem dX5_sumOf_58 : decode cX5_sumOf 58 = .ok (.iaload, 1) := by decide +kernel
theorem dX5_sumOf_59 : decode cX5_sumOf 59 = .ok (.goto 21, 3) := by decide +kernel
theorem dX5_sumOf_62 : decode cX5_sumOf 62 = .ok (.aload_n 0, 1) := by decide +kernel
theorem dX5_sumOf_63 : decode cX5_sumOf 63 = .ok (.getfield 7, 3) := by decide +kernel
theorem dX5_sumOf_66 : decode cX5_sumOf 66 = .ok (.iload_n 3, 1) := by decide +kernel
theorem dX5_sumOf_67 : decode cX5_sumOf 67 = .ok (.invokestatic 96, 3) := by decide +kernel
theorem dX5_sumOf_70 : decode cX5_sumOf 70 = .ok (.bipush (-4), 2) := by decide +kernel
theorem dX5_sumOf_72 : decode cX5_sumOf 72 = .ok (.if_icmp .eq 7, 3) := by decide +kernel
theorem dX5_sumOf_75 : decode cX5_sumOf 75 = .ok (.iconst 1, 1) := by decide +kernel
theorem dX5_sumOf_76 : decode cX5_sumOf 76 = .ok (.goto 4, 3) := by decide +kernel
theorem dX5_sumOf_79 : decode cX5_sumOf 79 = .ok (.iconst 0, 1) := by decide +kernel
theorem dX5_sumOf_80 : decode cX5_sumOf 80 = .ok (.iadd, 1) := by decide +kernel
theorem dX5_sumOf_81 : decode cX5_sumOf 81 = .ok (.istore_n 2, 1) := by decide +kernel
theorem dX5_sumOf_82 : decode cX5_sumOf 82 = .ok (.iinc 3 1, 3) := by decide +kernel
theorem dX5_sumOf_85 : decode cX5_sumOf 85 = .ok (.goto (-73), 3) := by decide +kernel
theorem dX5_sumOf_88 : decode cX5_sumOf 88 = .ok (.iload_n 1, 1) := by decide +kernel
theorem dX5_sumOf_89 : decode cX5_sumOf 89 = .ok (.iconst 2, 1) := by decide +kernel
theorem dX5_sumOf_90 : decode cX5_sumOf 90 = .ok (.if_icmp .ne 10, 3) := by decide +kernel
theorem dX5_sumOf_93 : decode cX5_sumOf 93 = .ok (.aload_n 0, 1) := by decide +kernel
theorem dX5_sumOf_94 : decode cX5_sumOf 94 = .ok (.getfield 117, 3) := by decide +kernel
theorem dX5_sumOf_97 : decode cX5_sumOf 97 = .ok (.goto 4, 3) := by decide +kernel
theorem dX5_sumOf_100 : decode cX5_sumOf 100 = .ok (.iload_n 2, 1) := by decide +kernel
theorem dX5_sumOf_101 : decode cX5_sumOf 101 = .ok (.ireturn, 1) := by decide +kernel
def t_X5_sumOf_101 : am_T := tb_iret
def t_X5_sumOf_100 : am_T := tb_iload 2 <|
  t_X5_sumOf_101
def t_X5_sumOf_88 : am_T := tb_iload 1 <|
  tb_const 2 <|
  tb_ic (fun x y => x ≠ y) (t_X5_sumOf_100) <|
  tb_aload 0 <|
  tb_getI 5 14 <|
  t_X5_sumOf_101
def t_X5_sumOf_80 : am_T := tb_bin (fun x y => x + y) <|
  tb_istore 2 <|
  tb_iinc 3 1 <|
  tb_head 12
def t_X5_sumOf_79 : am_T := tb_const 0 <|
  t_X5_sumOf_80
def t_X5_sumOf_62 : am_T := tb_aload 0 <|
  tb_getR 5 0 <|
  tb_iload 3 <|
  tb_callS sp_X5_counting 2 <|
  tb_const (-4) <|
  tb_ic (fun x y => x = y) (t_X5_sumOf_79) <|
  tb_const 1 <|
  t_X5_sumOf_80
def t_X5_sumOf_48 : am_T := tb_iload 1 <|
  tb_const 4 <|
  tb_ic (fun x y => x ≠ y) (t_X5_sumOf_62) <|
  tb_aload 0 <|
  tb_getR 5 12 <|
  tb_iload 3 <|
  tb_iald <|
  t_X5_sumOf_80
def t_X5_sumOf_44 : am_T := tb_const 0 <|
  t_X5_sumOf_80
def t_X5_sumOf_12 : am_T := tb_iload 3 <|
  tb_aload 0 <|
  tb_getR 5 0 <|
  tb_const 9 <|
  tb_iald <|
  tb_ic (fun x y => y ≤ x) (t_X5_sumOf_88) <|
  tb_iload 2 <|
  tb_iload 1 <|
  tb_const 3 <|
  tb_ic (fun x y => x ≠ y) (t_X5_sumOf_48) <|
  tb_aload 0 <|
  tb_getR 5 10 <|
  tb_iload 3 <|
  tb_iald <|
  tb_const (-4) <|
  tb_ic (fun x y => x ≠ y) (t_X5_sumOf_44) <|
  tb_const 1 <|
  t_X5_sumOf_80
def t_X5_sumOf_0 : am_T := tb_aload 0 <|
  tb_aload 0 <|
  tb_getR 5 0 <|
  tb_callV 5 sp_X5_lays 2 <|
  tb_const 0 <|
  tb_istore 2 <|
  tb_const 0 <|
  tb_istore 3 <|
  tb_head 12
def h_X5_sumOf : am_Hd := fun h => if h = 0 then t_X5_sumOf_0 else if h = 12 then t_X5_sumOf_12 else tb_bad
theorem h_X5_sumOf_0 : h_X5_sumOf 0 = t_X5_sumOf_0 := rfl
theorem h_X5_sumOf_12 : h_X5_sumOf 12 = t_X5_sumOf_12 := rfl
def rm_X5_sumOf : Room := { frames := 6, cells := 0, slots := 0, locals := 145 }
def sp_X5_sumOf : am_sp := fun as M Q => as.length ≤ 4 ∧ am_OK h_X5_sumOf Q 0 (am_in 4 as) M
theorem s_X5_sumOf_101 {G : am_G} {bc bs : Nat} (X : am_Cx G cX5_sumOf RX5 "sumOf" rm_X5_sumOf (some .int) 4 bc bs true) : am_S G 101 (t_X5_sumOf_101) := by
  unfold t_X5_sumOf_101
  exact as_iret (pc := 101) X ⟨rfl, rfl⟩ rfl dX5_sumOf_101
theorem s_X5_sumOf_100 {G : am_G} {bc bs : Nat} (X : am_Cx G cX5_sumOf RX5 "sumOf" rm_X5_sumOf (some .int) 4 bc bs true) : am_S G 100 (t_X5_sumOf_100) := by
  unfold t_X5_sumOf_100
  refine as_iload_n (pc := 100) X dX5_sumOf_100 rfl ?_
  exact s_X5_sumOf_101 X
theorem s_X5_sumOf_88 {G : am_G} {bc bs : Nat} (X : am_Cx G cX5_sumOf RX5 "sumOf" rm_X5_sumOf (some .int) 4 bc bs true) : am_S G 88 (t_X5_sumOf_88) := by
  unfold t_X5_sumOf_88
  refine as_iload_n (pc := 88) X dX5_sumOf_88 rfl ?_
  refine as_iconst (pc := 89) X dX5_sumOf_89 (by decide) ?_
  refine as_ic_ne (pc := 90) X 100 dX5_sumOf_90 (by decide) (s_X5_sumOf_100 X) ?_
  refine as_aload_n (pc := 93) X dX5_sumOf_93 rfl ?_
  refine as_getI (ci := 5) (j := 14) (pc := 94) X (Cn := RX5) (Tf := TX5) (N := 21) rfl rfl (by decide) iw_X5 aw_752 rfl dX5_sumOf_94 ?_
  exact as_goto (pc := 97) X 101 dX5_sumOf_97 (by decide) (s_X5_sumOf_101 X)
theorem s_X5_sumOf_80 {G : am_G} {bc bs : Nat} (X : am_Cx G cX5_sumOf RX5 "sumOf" rm_X5_sumOf (some .int) 4 bc bs true) : am_S G 80 (t_X5_sumOf_80) := by
  unfold t_X5_sumOf_80
  refine as_iadd (pc := 80) X dX5_sumOf_80 ?_
  refine as_istore_n (pc := 81) X dX5_sumOf_81 rfl ?_ (by decide)
  refine as_iinc (pc := 82) X dX5_sumOf_82 (by decide) (by decide) ?_
  exact as_goto (pc := 85) X 12 dX5_sumOf_85 (by decide) (as_head)
theorem s_X5_sumOf_79 {G : am_G} {bc bs : Nat} (X : am_Cx G cX5_sumOf RX5 "sumOf" rm_X5_sumOf (some .int) 4 bc bs true) : am_S G 79 (t_X5_sumOf_79) := by
  unfold t_X5_sumOf_79
  refine as_iconst (pc := 79) X dX5_sumOf_79 (by decide) ?_
  exact s_X5_sumOf_80 X
theorem s_X5_sumOf_62 {G : am_G} {bc bs : Nat} (X : am_Cx G cX5_sumOf RX5 "sumOf" rm_X5_sumOf (some .int) 4 bc bs true) : am_S G 62 (t_X5_sumOf_62) := by
  unfold t_X5_sumOf_62
  refine as_aload_n (pc := 62) X dX5_sumOf_62 rfl ?_
  refine as_getR (ci := 5) (j := 0) (pc := 63) X (Cn := RX5) (Tf := TX5) (N := 21) rfl rfl (by decide) iw_X5 aw_738 rfl dX5_sumOf_63 ?_
  refine as_iload_n (pc := 66) X dX5_sumOf_66 rfl ?_
  refine as_callS (np := 2) (ix := 96) (pc := 67) X ct_X5_counting ⟨rfl, rfl⟩ aw_894 aw_895 aw_896 aw_65 (by decide +kernel) (by decide) dX5_sumOf_67 ?_
  refine as_bipush (pc := 70) X dX5_sumOf_70 (by decide) ?_
  refine as_ic_eq (pc := 72) X 79 dX5_sumOf_72 (by decide) (s_X5_sumOf_79 X) ?_
  refine as_iconst (pc := 75) X dX5_sumOf_75 (by decide) ?_
  exact as_goto (pc := 76) X 80 dX5_sumOf_76 (by decide) (s_X5_sumOf_80 X)
theorem s_X5_sumOf_48 {G : am_G} {bc bs : Nat} (X : am_Cx G cX5_sumOf RX5 "sumOf" rm_X5_sumOf (some .int) 4 bc bs true) : am_S G 48 (t_X5_sumOf_48) := by
  unfold t_X5_sumOf_48
  refine as_iload_n (pc := 48) X dX5_sumOf_48 rfl ?_
  refine as_iconst (pc := 49) X dX5_sumOf_49 (by decide) ?_
  refine as_ic_ne (pc := 50) X 62 dX5_sumOf_50 (by decide) (s_X5_sumOf_62 X) ?_
  refine as_aload_n (pc := 53) X dX5_sumOf_53 rfl ?_
  refine as_getR (ci := 5) (j := 12) (pc := 54) X (Cn := RX5) (Tf := TX5) (N := 21) rfl rfl (by decide) iw_X5 aw_750 rfl dX5_sumOf_54 ?_
  refine as_iload_n (pc := 57) X dX5_sumOf_57 rfl ?_
  refine as_iald (pc := 58) X dX5_sumOf_58 ?_
  exact as_goto (pc := 59) X 80 dX5_sumOf_59 (by decide) (s_X5_sumOf_80 X)
theorem s_X5_sumOf_44 {G : am_G} {bc bs : Nat} (X : am_Cx G cX5_sumOf RX5 "sumOf" rm_X5_sumOf (some .int) 4 bc bs true) : am_S G 44 (t_X5_sumOf_44) := by
  unfold t_X5_sumOf_44
  refine as_iconst (pc := 44) X dX5_sumOf_44 (by decide) ?_
  exact as_goto (pc := 45) X 80 dX5_sumOf_45 (by decide) (s_X5_sumOf_80 X)
theorem s_X5_sumOf_12 {G : am_G} {bc bs : Nat} (X : am_Cx G cX5_sumOf RX5 "sumOf" rm_X5_sumOf (some .int) 4 bc bs true) : am_S G 12 (t_X5_sumOf_12) := by
  unfold t_X5_sumOf_12
  refine as_iload_n (pc := 12) X dX5_sumOf_12 rfl ?_
  refine as_aload_n (pc := 13) X dX5_sumOf_13 rfl ?_
  refine as_getR (ci := 5) (j := 0) (pc := 14) X (Cn := RX5) (Tf := TX5) (N := 21) rfl rfl (by decide) iw_X5 aw_738 rfl dX5_sumOf_14 ?_
  refine as_bipush (pc := 17) X dX5_sumOf_17 (by decide) ?_
  refine as_iald (pc := 19) X dX5_sumOf_19 ?_
  refine as_ic_ge (pc := 20) X 88 dX5_sumOf_20 (by decide) (s_X5_sumOf_88 X) ?_
  refine as_iload_n (pc := 23) X dX5_sumOf_23 rfl ?_
  refine as_iload_n (pc := 24) X dX5_sumOf_24 rfl ?_
  refine as_iconst (pc := 25) X dX5_sumOf_25 (by decide) ?_
  refine as_ic_ne (pc := 26) X 48 dX5_sumOf_26 (by decide) (s_X5_sumOf_48 X) ?_
  refine as_aload_n (pc := 29) X dX5_sumOf_29 rfl ?_
  refine as_getR (ci := 5) (j := 10) (pc := 30) X (Cn := RX5) (Tf := TX5) (N := 21) rfl rfl (by decide) iw_X5 aw_748 rfl dX5_sumOf_30 ?_
  refine as_iload_n (pc := 33) X dX5_sumOf_33 rfl ?_
  refine as_iald (pc := 34) X dX5_sumOf_34 ?_
  refine as_bipush (pc := 35) X dX5_sumOf_35 (by decide) ?_
  refine as_ic_ne (pc := 37) X 44 dX5_sumOf_37 (by decide) (s_X5_sumOf_44 X) ?_
  refine as_iconst (pc := 40) X dX5_sumOf_40 (by decide) ?_
  exact as_goto (pc := 41) X 80 dX5_sumOf_41 (by decide) (s_X5_sumOf_80 X)
theorem s_X5_sumOf_0 {G : am_G} {bc bs : Nat} (X : am_Cx G cX5_sumOf RX5 "sumOf" rm_X5_sumOf (some .int) 4 bc bs true) : am_S G 0 (t_X5_sumOf_0) := by
  unfold t_X5_sumOf_0
  refine as_aload_n (pc := 0) X dX5_sumOf_0 rfl ?_
  refine as_aload_n (pc := 1) X dX5_sumOf_1 rfl ?_
  refine as_getR (ci := 5) (j := 0) (pc := 2) X (Cn := RX5) (Tf := TX5) (N := 21) rfl rfl (by decide) iw_X5 aw_738 rfl dX5_sumOf_2 ?_
  refine as_callV (ci := 5) (np := 1) (ix := 145) (pc := 5) X ct_X5_lays (Cn := (RX5, TX5, 21)) rfl ⟨rfl, rfl⟩ aw_861 aw_863 aw_29 aw_864 aw_65 (by decide +kernel) (by decide) dX5_sumOf_5 ?_
  refine as_iconst (pc := 8) X dX5_sumOf_8 (by decide) ?_
  refine as_istore_n (pc := 9) X dX5_sumOf_9 rfl ?_ (by decide)
  refine as_iconst (pc := 10) X dX5_sumOf_10 (by decide) ?_
  refine as_istore_n (pc := 11) X dX5_sumOf_11 rfl ?_ (by decide)
  exact as_head
theorem s_X5_sumOf {G : am_G} {bc bs : Nat} (X : am_Cx G cX5_sumOf RX5 "sumOf" rm_X5_sumOf (some .int) 4 bc bs true) (h : Nat) : am_S G h (h_X5_sumOf h) := by
  unfold h_X5_sumOf
  split
  · next e => rw [e]; exact s_X5_sumOf_0 X
  split
  · next e => rw [e]; exact s_X5_sumOf_12 X
  exact as_bad
theorem ct_X5_sumOf : am_Ct yX5_sumOf cX5_sumOf 4 (some .int) rm_X5_sumOf sp_X5_sumOf := am_met (own := RX5) (nm := "sumOf") (by decide) rfl rfl (Or.inr (Or.inl rfl)) (fun _ _ => h_X5_sumOf) (fun _ _ _ X => s_X5_sumOf X) (fun _ _ _ _ h => h)
-- X5_count
theorem dX5_count_0 : decode cX5_count 0 = .ok (.iload_n 1, 1) := by decide +kernel
theorem dX5_count_1 : decode cX5_count 1 = .ok (.tableswitch 91 0 8 #[51, 59, 67, 67, 67, 67, 73, 81, 86], 51) := by decide +kernel
theorem dX5_count_52 : decode cX5_count 52 = .ok (.aload_n 0, 1) := by decide +kernel
theorem dX5_count_53 : decode cX5_count 53 = .ok (.getfield 7, 3) := by decide +kernel
theorem dX5_count_56 : decode cX5_count 56 = .ok (.bipush 9, 2) := by decide +kernel
theorem dX5_count_58 : decode cX5_count 58 = .ok (.iaload, 1) := by decide +kernel
theorem dX5_count_59 : decode cX5_count 59 = .ok (.ireturn, 1) := by decide +kernel
theorem dX5_count_60 : decode cX5_count 60 = .ok (.aload_n 0, 1) := by decide +kernel
theorem dX5_count_61 : decode cX5_count 61 = .ok (.getfield 7, 3) := by decide +kernel
theorem dX5_count_64 : decode cX5_count 64 = .ok (.bipush 10, 2) := by decide +kernel
theorem dX5_count_66 : decode cX5_count 66 = .ok (.iaload, 1) := by decide +kernel
theorem dX5_count_67 : decode cX5_count 67 = .ok (.ireturn, 1) := by decide +kernel
theorem dX5_count_68 : decode cX5_count 68 = .ok (.aload_n 0, 1) := by decide +kernel
theorem dX5_count_69 : decode cX5_count 69 = .ok (.iload_n 1, 1) := by decide +kernel
theorem dX5_count_70 : decode cX5_count 70 = .ok (.invokevirtual 162, 3) := by decide +kernel
theorem dX5_count_73 : decode cX5_count 73 = .ok (.ireturn, 1) := by decide +kernel
theorem dX5_count_74 : decode cX5_count 74 = .ok (.aload_n 0, 1) := by decide +kernel
theorem dX5_count_75 : decode cX5_count 75 = .ok (.getfield 7, 3) := by decide +kernel
theorem dX5_count_78 : decode cX5_count 78 = .ok (.bipush 8, 2) := by decide +kernel
theorem dX5_count_80 : decode cX5_count 80 = .ok (.iaload, 1) := by decide +kernel
theorem dX5_count_81 : decode cX5_count 81 = .ok (.ireturn, 1) := by decide +kernel
theorem dX5_count_82 : decode cX5_count 82 = .ok (.aload_n 0, 1) := by decide +kernel
theorem dX5_count_83 : decode cX5_count 83 = .ok (.getfield 52, 3) := by decide +kernel
theorem dX5_count_86 : decode cX5_count 86 = .ok (.ireturn, 1) := by decide +kernel
theorem dX5_count_87 : decode cX5_count 87 = .ok (.aload_n 0, 1) := by decide +kernel
theorem dX5_count_88 : decode cX5_count 88 = .ok (.getfield 165, 3) := by decide +kernel
theorem dX5_count_91 : decode cX5_count 91 = .ok (.ireturn, 1) := by decide +kernel
theorem dX5_count_92 : decode cX5_count 92 = .ok (.iload_n 1, 1) := by decide +kernel
theorem dX5_count_93 : decode cX5_count 93 = .ok (.bipush 10, 2) := by decide +kernel
theorem dX5_count_95 : decode cX5_count 95 = .ok (.bipush 17, 2) := by decide +kernel
theorem dX5_count_97 : decode cX5_count 97 = .ok (.invokestatic 60, 3) := by decide +kernel
theorem dX5_count_100 : decode cX5_count 100 = .ok (.ifCond .eq 15, 3) := by decide +kernel
theorem dX5_count_103 : decode cX5_count 103 = .ok (.aload_n 0, 1) := by decide +kernel
theorem dX5_count_104 : decode cX5_count 104 = .ok (.getfield 7, 3) := by decide +kernel
theorem dX5_count_107 : decode cX5_count 107 = .ok (.iload_n 1, 1) := by decide +kernel
theorem dX5_count_108 : decode cX5_count 108 = .ok (.bipush 10, 2) := by decide +kernel
theorem dX5_count_110 : decode cX5_count 110 = .ok (.isub, 1) := by decide +kernel
theorem dX5_count_111 : decode cX5_count 111 = .ok (.iaload, 1) := by decide +kernel
theorem dX5_count_112 : decode cX5_count 112 = .ok (.goto 4, 3) := by decide +kernel
theorem dX5_count_115 : decode cX5_count 115 = .ok (.iconst (-1), 1) := by decide +kernel
theorem dX5_count_116 : decode cX5_count 116 = .ok (.ireturn, 1) := by decide +kernel
def t_X5_count_116 : am_T := tb_iret
def t_X5_count_115 : am_T := tb_const (-1) <|
  t_X5_count_116
def t_X5_count_92 : am_T := tb_iload 1 <|
  tb_const 10 <|
  tb_const 17 <|
  tb_callS sp_X5_in 3 <|
  tb_if (fun x => x = 0) (t_X5_count_115) <|
  tb_aload 0 <|
  tb_getR 5 0 <|
  tb_iload 1 <|
  tb_const 10 <|
  tb_bin (fun x y => x - y) <|
  tb_iald <|
  t_X5_count_116
def t_X5_count_87 : am_T := tb_aload 0 <|
  tb_getI 5 5 <|
  tb_iret
def t_X5_count_82 : am_T := tb_aload 0 <|
  tb_getI 5 3 <|
  tb_iret
def t_X5_count_74 : am_T := tb_aload 0 <|
  tb_getR 5 0 <|
  tb_const 8 <|
  tb_iald <|
  tb_iret
def t_X5_count_68 : am_T := tb_aload 0 <|
  tb_iload 1 <|
  tb_callV 5 sp_X5_sumOf 2 <|
  tb_iret
def t_X5_count_60 : am_T := tb_aload 0 <|
  tb_getR 5 0 <|
  tb_const 10 <|
  tb_iald <|
  tb_iret
def t_X5_count_52 : am_T := tb_aload 0 <|
  tb_getR 5 0 <|
  tb_const 9 <|
  tb_iald <|
  tb_iret
def w_X5_count_1 : Nat → am_T := fun j => match j with
    | 0 => t_X5_count_52
    | 1 => t_X5_count_60
    | 2 => t_X5_count_68
    | 3 => t_X5_count_68
    | 4 => t_X5_count_68
    | 5 => t_X5_count_68
    | 6 => t_X5_count_74
    | 7 => t_X5_count_82
    | 8 => t_X5_count_87
    | _ => tb_bad
def v_X5_count_1 : Nat → Nat := fun j => match j with
    | 0 => 52
    | 1 => 60
    | 2 => 68
    | 3 => 68
    | 4 => 68
    | 5 => 68
    | 6 => 74
    | 7 => 82
    | 8 => 87
    | _ => 0
def t_X5_count_0 : am_T := tb_iload 1 <|
  tb_sw 0 8 w_X5_count_1 (t_X5_count_92)
def h_X5_count : am_Hd := fun h => if h = 0 then t_X5_count_0 else tb_bad
theorem h_X5_count_0 : h_X5_count 0 = t_X5_count_0 := rfl
def rm_X5_count : Room := { frames := 7, cells := 0, slots := 0, locals := 168 }
def sp_X5_count : am_sp := fun as M Q => as.length ≤ 2 ∧ am_OK h_X5_count Q 0 (am_in 2 as) M
theorem s_X5_count_116 {G : am_G} {bc bs : Nat} (X : am_Cx G cX5_count RX5 "count" rm_X5_count (some .int) 2 bc bs true) : am_S G 116 (t_X5_count_116) := by
  unfold t_X5_count_116
  exact as_iret (pc := 116) X ⟨rfl, rfl⟩ rfl dX5_count_116
theorem s_X5_count_115 {G : am_G} {bc bs : Nat} (X : am_Cx G cX5_count RX5 "count" rm_X5_count (some .int) 2 bc bs true) : am_S G 115 (t_X5_count_115) := by
  unfold t_X5_count_115
  refine as_iconst (pc := 115) X dX5_count_115 (by decide) ?_
  exact s_X5_count_116 X
theorem s_X5_count_92 {G : am_G} {bc bs : Nat} (X : am_Cx G cX5_count RX5 "count" rm_X5_count (some .int) 2 bc bs true) : am_S G 92 (t_X5_count_92) := by
  unfold t_X5_count_92
  refine as_iload_n (pc := 92) X dX5_count_92 rfl ?_
  refine as_bipush (pc := 93) X dX5_count_93 (by decide) ?_
  refine as_bipush (pc := 95) X dX5_count_95 (by decide) ?_
  refine as_callS (np := 3) (ix := 60) (pc := 97) X ct_X5_in ⟨rfl, rfl⟩ aw_806 aw_807 aw_808 aw_65 (by decide +kernel) (by decide) dX5_count_97 ?_
  refine as_if_eq (pc := 100) X 115 dX5_count_100 (by decide) (s_X5_count_115 X) ?_
  refine as_aload_n (pc := 103) X dX5_count_103 rfl ?_
  refine as_getR (ci := 5) (j := 0) (pc := 104) X (Cn := RX5) (Tf := TX5) (N := 21) rfl rfl (by decide) iw_X5 aw_738 rfl dX5_count_104 ?_
  refine as_iload_n (pc := 107) X dX5_count_107 rfl ?_
  refine as_bipush (pc := 108) X dX5_count_108 (by decide) ?_
  refine as_isub (pc := 110) X dX5_count_110 ?_
  refine as_iald (pc := 111) X dX5_count_111 ?_
  exact as_goto (pc := 112) X 116 dX5_count_112 (by decide) (s_X5_count_116 X)
theorem s_X5_count_87 {G : am_G} {bc bs : Nat} (X : am_Cx G cX5_count RX5 "count" rm_X5_count (some .int) 2 bc bs true) : am_S G 87 (t_X5_count_87) := by
  unfold t_X5_count_87
  refine as_aload_n (pc := 87) X dX5_count_87 rfl ?_
  refine as_getI (ci := 5) (j := 5) (pc := 88) X (Cn := RX5) (Tf := TX5) (N := 21) rfl rfl (by decide) iw_X5 aw_743 rfl dX5_count_88 ?_
  exact as_iret (pc := 91) X ⟨rfl, rfl⟩ rfl dX5_count_91
theorem s_X5_count_82 {G : am_G} {bc bs : Nat} (X : am_Cx G cX5_count RX5 "count" rm_X5_count (some .int) 2 bc bs true) : am_S G 82 (t_X5_count_82) := by
  unfold t_X5_count_82
  refine as_aload_n (pc := 82) X dX5_count_82 rfl ?_
  refine as_getI (ci := 5) (j := 3) (pc := 83) X (Cn := RX5) (Tf := TX5) (N := 21) rfl rfl (by decide) iw_X5 aw_741 rfl dX5_count_83 ?_
  exact as_iret (pc := 86) X ⟨rfl, rfl⟩ rfl dX5_count_86
theorem s_X5_count_74 {G : am_G} {bc bs : Nat} (X : am_Cx G cX5_count RX5 "count" rm_X5_count (some .int) 2 bc bs true) : am_S G 74 (t_X5_count_74) := by
  unfold t_X5_count_74
  refine as_aload_n (pc := 74) X dX5_count_74 rfl ?_
  refine as_getR (ci := 5) (j := 0) (pc := 75) X (Cn := RX5) (Tf := TX5) (N := 21) rfl rfl (by decide) iw_X5 aw_738 rfl dX5_count_75 ?_
  refine as_bipush (pc := 78) X dX5_count_78 (by decide) ?_
  refine as_iald (pc := 80) X dX5_count_80 ?_
  exact as_iret (pc := 81) X ⟨rfl, rfl⟩ rfl dX5_count_81
theorem s_X5_count_68 {G : am_G} {bc bs : Nat} (X : am_Cx G cX5_count RX5 "count" rm_X5_count (some .int) 2 bc bs true) : am_S G 68 (t_X5_count_68) := by
  unfold t_X5_count_68
  refine as_aload_n (pc := 68) X dX5_count_68 rfl ?_
  refine as_iload_n (pc := 69) X dX5_count_69 rfl ?_
  refine as_callV (ci := 5) (np := 1) (ix := 162) (pc := 70) X ct_X5_sumOf (Cn := (RX5, TX5, 21)) rfl ⟨rfl, rfl⟩ aw_950 aw_952 aw_41 aw_953 aw_65 (by decide +kernel) (by decide) dX5_count_70 ?_
  exact as_iret (pc := 73) X ⟨rfl, rfl⟩ rfl dX5_count_73
theorem s_X5_count_60 {G : am_G} {bc bs : Nat} (X : am_Cx G cX5_count RX5 "count" rm_X5_count (some .int) 2 bc bs true) : am_S G 60 (t_X5_count_60) := by
  unfold t_X5_count_60
  refine as_aload_n (pc := 60) X dX5_count_60 rfl ?_
  refine as_getR (ci := 5) (j := 0) (pc := 61) X (Cn := RX5) (Tf := TX5) (N := 21) rfl rfl (by decide) iw_X5 aw_738 rfl dX5_count_61 ?_
  refine as_bipush (pc := 64) X dX5_count_64 (by decide) ?_
  refine as_iald (pc := 66) X dX5_count_66 ?_
  exact as_iret (pc := 67) X ⟨rfl, rfl⟩ rfl dX5_count_67
theorem s_X5_count_52 {G : am_G} {bc bs : Nat} (X : am_Cx G cX5_count RX5 "count" rm_X5_count (some .int) 2 bc bs true) : am_S G 52 (t_X5_count_52) := by
  unfold t_X5_count_52
  refine as_aload_n (pc := 52) X dX5_count_52 rfl ?_
  refine as_getR (ci := 5) (j := 0) (pc := 53) X (Cn := RX5) (Tf := TX5) (N := 21) rfl rfl (by decide) iw_X5 aw_738 rfl dX5_count_53 ?_
  refine as_bipush (pc := 56) X dX5_count_56 (by decide) ?_
  refine as_iald (pc := 58) X dX5_count_58 ?_
  exact as_iret (pc := 59) X ⟨rfl, rfl⟩ rfl dX5_count_59
theorem s_X5_count_0 {G : am_G} {bc bs : Nat} (X : am_Cx G cX5_count RX5 "count" rm_X5_count (some .int) 2 bc bs true) : am_S G 0 (t_X5_count_0) := by
  unfold t_X5_count_0
  refine as_iload_n (pc := 0) X dX5_count_0 rfl ?_
  refine as_sw (pc := 1) X dX5_count_1 v_X5_count_1 92 (by decide) (fun j hj => ?_) (s_X5_count_92 X)
  match j, hj with
  | 0, _ => exact ⟨51, rfl, by decide, s_X5_count_52 X⟩
  | 1, _ => exact ⟨59, rfl, by decide, s_X5_count_60 X⟩
  | 2, _ => exact ⟨67, rfl, by decide, s_X5_count_68 X⟩
  | 3, _ => exact ⟨67, rfl, by decide, s_X5_count_68 X⟩
  | 4, _ => exact ⟨67, rfl, by decide, s_X5_count_68 X⟩
  | 5, _ => exact ⟨67, rfl, by decide, s_X5_count_68 X⟩
  | 6, _ => exact ⟨73, rfl, by decide, s_X5_count_74 X⟩
  | 7, _ => exact ⟨81, rfl, by decide, s_X5_count_82 X⟩
  | 8, _ => exact ⟨86, rfl, by decide, s_X5_count_87 X⟩
  | j + 9, hj => exact absurd hj (by omega)
theorem s_X5_count {G : am_G} {bc bs : Nat} (X : am_Cx G cX5_count RX5 "count" rm_X5_count (some .int) 2 bc bs true) (h : Nat) : am_S G h (h_X5_count h) := by
  unfold h_X5_count
  split
  · next e => rw [e]; exact s_X5_count_0 X
  exact as_bad
theorem ct_X5_count : am_Ct yX5_count cX5_count 2 (some .int) rm_X5_count sp_X5_count := am_met (own := RX5) (nm := "count") (by decide) rfl rfl (Or.inr (Or.inl rfl)) (fun _ _ => h_X5_count) (fun _ _ _ X => s_X5_count X) (fun _ _ _ _ h => h)
