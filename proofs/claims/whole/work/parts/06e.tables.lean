-- X3_addToThread
theorem dX3_addToThread_0 : decode cX3_addToThread 0 = .ok (.aload_n 0, 1) := by decide +kernel
theorem dX3_addToThread_1 : decode cX3_addToThread 1 = .ok (.iload_n 1, 1) := by decide +kernel
theorem dX3_addToThread_2 : decode cX3_addToThread 2 = .ok (.invokevirtual 147, 3) := by decide +kernel
theorem dX3_addToThread_5 : decode cX3_addToThread 5 = .ok (.istore_n 2, 1) := by decide +kernel
theorem dX3_addToThread_6 : decode cX3_addToThread 6 = .ok (.aload_n 0, 1) := by decide +kernel
theorem dX3_addToThread_7 : decode cX3_addToThread 7 = .ok (.getfield 43, 3) := by decide +kernel
theorem dX3_addToThread_10 : decode cX3_addToThread 10 = .ok (.iload_n 1, 1) := by decide +kernel
theorem dX3_addToThread_11 : decode cX3_addToThread 11 = .ok (.iload_n 2, 1) := by decide +kernel
theorem dX3_addToThread_12 : decode cX3_addToThread 12 = .ok (.iastore, 1) := by decide +kernel
theorem dX3_addToThread_13 : decode cX3_addToThread 13 = .ok (.aload_n 0, 1) := by decide +kernel
theorem dX3_addToThread_14 : decode cX3_addToThread 14 = .ok (.getfield 46, 3) := by decide +kernel
theorem dX3_addToThread_17 : decode cX3_addToThread 17 = .ok (.iload_n 1, 1) := by decide +kernel
theorem dX3_addToThread_18 : decode cX3_addToThread 18 = .ok (.iconst 0, 1) := by decide +kernel
theorem dX3_addToThread_19 : decode cX3_addToThread 19 = .ok (.iastore, 1) := by decide +kernel
theorem dX3_addToThread_20 : decode cX3_addToThread 20 = .ok (.iload_n 2, 1) := by decide +kernel
theorem dX3_addToThread_21 : decode cX3_addToThread 21 = .ok (.iconst (-1), 1) := by decide +kernel
theorem dX3_addToThread_22 : decode cX3_addToThread 22 = .ok (.if_icmp .ne 23, 3) := by decide +kernel
theorem dX3_addToThread_25 : decode cX3_addToThread 25 = .ok (.aload_n 0, 1) := by decide +kernel
theorem dX3_addToThread_26 : decode cX3_addToThread 26 = .ok (.getfield 49, 3) := by decide +kernel
theorem dX3_addToThread_29 : decode cX3_addToThread 29 = .ok (.iload_n 1, 1) := by decide +kernel
theorem dX3_addToThread_30 : decode cX3_addToThread 30 = .ok (.iconst 1, 1) := by decide +kernel
theorem dX3_addToThread_31 : decode cX3_addToThread 31 = .ok (.iastore, 1) := by decide +kernel
theorem dX3_addToThread_32 : decode cX3_addToThread 32 = .ok (.aload_n 0, 1) := by decide +kernel
theorem dX3_addToThread_33 : decode cX3_addToThread 33 = .ok (.getfield 52, 3) := by decide +kernel
theorem dX3_addToThread_36 : decode cX3_addToThread 36 = .ok (.iload_n 1, 1) := by decide +kernel
theorem dX3_addToThread_37 : decode cX3_addToThread 37 = .ok (.aload_n 0, 1) := by decide +kernel
theorem dX3_addToThread_38 : decode cX3_addToThread 38 = .ok (.getfield 22, 3) := by decide +kernel
theorem dX3_addToThread_41 : decode cX3_addToThread 41 = .ok (.iload_n 1, 1) := by decide +kernel
theorem dX3_addToThread_42 : decode cX3_addToThread 42 = .ok (.iaload, 1) := by decide +kernel
theorem dX3_addToThread_43 : decode cX3_addToThread 43 = .ok (.iastore, 1) := by decide +kernel
theorem dX3_addToThread_44 : decode cX3_addToThread 44 = .ok (.return_, 1) := by decide +kernel
theorem dX3_addToThread_45 : decode cX3_addToThread 45 = .ok (.aload_n 0, 1) := by decide +kernel
theorem dX3_addToThread_46 : decode cX3_addToThread 46 = .ok (.getfield 49, 3) := by decide +kernel
theorem dX3_addToThread_49 : decode cX3_addToThread 49 = .ok (.iload_n 1, 1) := by decide +kernel
theorem dX3_addToThread_50 : decode cX3_addToThread 50 = .ok (.aload_n 0, 1) := by decide +kernel
theorem dX3_addToThread_51 : decode cX3_addToThread 51 = .ok (.getfield 49, 3) := by decide +kernel
theorem dX3_addToThread_54 : decode cX3_addToThread 54 = .ok (.iload_n 2, 1) := by decide +kernel
theorem dX3_addToThread_55 : decode cX3_addToThread 55 = .ok (.iaload, 1) := by decide +kernel
theorem dX3_addToThread_56 : decode cX3_addToThread 56 = .ok (.iconst 1, 1) := by decide +kernel
theorem dX3_addToThread_57 : decode cX3_addToThread 57 = .ok (.iadd, 1) := by decide +kernel
theorem dX3_addToThread_58 : decode cX3_addToThread 58 = .ok (.iastore, 1) := by decide +kernel
theorem dX3_addToThread_59 : decode cX3_addToThread 59 = .ok (.aload_n 0, 1) := by decide +kernel
theorem dX3_addToThread_60 : decode cX3_addToThread 60 = .ok (.getfield 52, 3) := by decide +kernel
theorem dX3_addToThread_63 : decode cX3_addToThread 63 = .ok (.iload_n 1, 1) := by decide +kernel
theorem dX3_addToThread_64 : decode cX3_addToThread 64 = .ok (.aload_n 0, 1) := by decide +kernel
theorem dX3_addToThread_65 : decode cX3_addToThread 65 = .ok (.getfield 52, 3) := by decide +kernel
theorem dX3_addToThread_68 : decode cX3_addToThread 68 = .ok (.iload_n 2, 1) := by decide +kernel
theorem dX3_addToThread_69 : decode cX3_addToThread 69 = .ok (.iaload, 1) := by decide +kernel
theorem dX3_addToThread_70 : decode cX3_addToThread 70 = .ok (.iastore, 1) := by decide +kernel
theorem dX3_addToThread_71 : decode cX3_addToThread 71 = .ok (.aload_n 0, 1) := by decide +kernel
theorem dX3_addToThread_72 : decode cX3_addToThread 72 = .ok (.getfield 40, 3) := by decide +kernel
theorem dX3_addToThread_75 : decode cX3_addToThread 75 = .ok (.iload_n 1, 1) := by decide +kernel
theorem dX3_addToThread_76 : decode cX3_addToThread 76 = .ok (.iaload, 1) := by decide +kernel
theorem dX3_addToThread_77 : decode cX3_addToThread 77 = .ok (.ifCond .eq 8, 3) := by decide +kernel
theorem dX3_addToThread_80 : decode cX3_addToThread 80 = .ok (.aload_n 0, 1) := by decide +kernel
theorem dX3_addToThread_81 : decode cX3_addToThread 81 = .ok (.iload_n 1, 1) := by decide +kernel
theorem dX3_addToThread_82 : decode cX3_addToThread 82 = .ok (.invokevirtual 150, 3) := by decide +kernel
theorem dX3_addToThread_85 : decode cX3_addToThread 85 = .ok (.return_, 1) := by decide +kernel
def t_X3_addToThread_85 : am_T := tb_ret
def t_X3_addToThread_45 : am_T := tb_aload 0 <|
  tb_getR 3 11 <|
  tb_iload 1 <|
  tb_aload 0 <|
  tb_getR 3 11 <|
  tb_iload 2 <|
  tb_iald <|
  tb_const 1 <|
  tb_bin (fun x y => x + y) <|
  tb_iast <|
  tb_aload 0 <|
  tb_getR 3 12 <|
  tb_iload 1 <|
  tb_aload 0 <|
  tb_getR 3 12 <|
  tb_iload 2 <|
  tb_iald <|
  tb_iast <|
  tb_aload 0 <|
  tb_getR 3 8 <|
  tb_iload 1 <|
  tb_iald <|
  tb_if (fun x => x = 0) (t_X3_addToThread_85) <|
  tb_aload 0 <|
  tb_iload 1 <|
  tb_callV 3 sp_X3_joinRivals 2 <|
  t_X3_addToThread_85
def t_X3_addToThread_0 : am_T := tb_aload 0 <|
  tb_iload 1 <|
  tb_callV 3 sp_X3_answerOf 2 <|
  tb_istore 2 <|
  tb_aload 0 <|
  tb_getR 3 9 <|
  tb_iload 1 <|
  tb_iload 2 <|
  tb_iast <|
  tb_aload 0 <|
  tb_getR 3 10 <|
  tb_iload 1 <|
  tb_const 0 <|
  tb_iast <|
  tb_iload 2 <|
  tb_const (-1) <|
  tb_ic (fun x y => x ≠ y) (t_X3_addToThread_45) <|
  tb_aload 0 <|
  tb_getR 3 11 <|
  tb_iload 1 <|
  tb_const 1 <|
  tb_iast <|
  tb_aload 0 <|
  tb_getR 3 12 <|
  tb_iload 1 <|
  tb_aload 0 <|
  tb_getR 3 2 <|
  tb_iload 1 <|
  tb_iald <|
  tb_iast <|
  tb_ret
def h_X3_addToThread : am_Hd := fun h => if h = 0 then t_X3_addToThread_0 else tb_bad
theorem h_X3_addToThread_0 : h_X3_addToThread 0 = t_X3_addToThread_0 := rfl
def rm_X3_addToThread : Room := { frames := 3, cells := 0, slots := 0, locals := 70 }
def sp_X3_addToThread : am_sp := fun as M Q => as.length ≤ 3 ∧ am_OK h_X3_addToThread Q 0 (am_in 3 as) M
theorem s_X3_addToThread_85 {G : am_G} {bc bs : Nat} (X : am_Cx G cX3_addToThread RX3 "addToThread" rm_X3_addToThread none 3 bc bs true) : am_S G 85 (t_X3_addToThread_85) := by
  unfold t_X3_addToThread_85
  exact as_ret (pc := 85) X ⟨rfl, rfl⟩ rfl dX3_addToThread_85
theorem s_X3_addToThread_45 {G : am_G} {bc bs : Nat} (X : am_Cx G cX3_addToThread RX3 "addToThread" rm_X3_addToThread none 3 bc bs true) : am_S G 45 (t_X3_addToThread_45) := by
  unfold t_X3_addToThread_45
  refine as_aload_n (pc := 45) X dX3_addToThread_45 rfl ?_
  refine as_getR (ci := 3) (j := 11) (pc := 46) X (Cn := RX3) (Tf := TX3) (N := 17) rfl rfl (by decide) iw_X3 aw_176 rfl dX3_addToThread_46 ?_
  refine as_iload_n (pc := 49) X dX3_addToThread_49 rfl ?_
  refine as_aload_n (pc := 50) X dX3_addToThread_50 rfl ?_
  refine as_getR (ci := 3) (j := 11) (pc := 51) X (Cn := RX3) (Tf := TX3) (N := 17) rfl rfl (by decide) iw_X3 aw_176 rfl dX3_addToThread_51 ?_
  refine as_iload_n (pc := 54) X dX3_addToThread_54 rfl ?_
  refine as_iald (pc := 55) X dX3_addToThread_55 ?_
  refine as_iconst (pc := 56) X dX3_addToThread_56 (by decide) ?_
  refine as_iadd (pc := 57) X dX3_addToThread_57 ?_
  refine as_iast (pc := 58) X dX3_addToThread_58 ?_
  refine as_aload_n (pc := 59) X dX3_addToThread_59 rfl ?_
  refine as_getR (ci := 3) (j := 12) (pc := 60) X (Cn := RX3) (Tf := TX3) (N := 17) rfl rfl (by decide) iw_X3 aw_177 rfl dX3_addToThread_60 ?_
  refine as_iload_n (pc := 63) X dX3_addToThread_63 rfl ?_
  refine as_aload_n (pc := 64) X dX3_addToThread_64 rfl ?_
  refine as_getR (ci := 3) (j := 12) (pc := 65) X (Cn := RX3) (Tf := TX3) (N := 17) rfl rfl (by decide) iw_X3 aw_177 rfl dX3_addToThread_65 ?_
  refine as_iload_n (pc := 68) X dX3_addToThread_68 rfl ?_
  refine as_iald (pc := 69) X dX3_addToThread_69 ?_
  refine as_iast (pc := 70) X dX3_addToThread_70 ?_
  refine as_aload_n (pc := 71) X dX3_addToThread_71 rfl ?_
  refine as_getR (ci := 3) (j := 8) (pc := 72) X (Cn := RX3) (Tf := TX3) (N := 17) rfl rfl (by decide) iw_X3 aw_171 rfl dX3_addToThread_72 ?_
  refine as_iload_n (pc := 75) X dX3_addToThread_75 rfl ?_
  refine as_iald (pc := 76) X dX3_addToThread_76 ?_
  refine as_if_eq (pc := 77) X 85 dX3_addToThread_77 (by decide) (s_X3_addToThread_85 X) ?_
  refine as_aload_n (pc := 80) X dX3_addToThread_80 rfl ?_
  refine as_iload_n (pc := 81) X dX3_addToThread_81 rfl ?_
  refine as_callV (ci := 3) (np := 1) (ix := 150) (pc := 82) X ct_X3_joinRivals (Cn := (RX3, TX3, 17)) rfl ⟨rfl, rfl⟩ aw_467 aw_469 aw_13 aw_470 aw_60 (by decide +kernel) (by decide) dX3_addToThread_82 ?_
  exact s_X3_addToThread_85 X
theorem s_X3_addToThread_0 {G : am_G} {bc bs : Nat} (X : am_Cx G cX3_addToThread RX3 "addToThread" rm_X3_addToThread none 3 bc bs true) : am_S G 0 (t_X3_addToThread_0) := by
  unfold t_X3_addToThread_0
  refine as_aload_n (pc := 0) X dX3_addToThread_0 rfl ?_
  refine as_iload_n (pc := 1) X dX3_addToThread_1 rfl ?_
  refine as_callV (ci := 3) (np := 1) (ix := 147) (pc := 2) X ct_X3_answerOf (Cn := (RX3, TX3, 17)) rfl ⟨rfl, rfl⟩ aw_459 aw_461 aw_11 aw_462 aw_60 (by decide +kernel) (by decide) dX3_addToThread_2 ?_
  refine as_istore_n (pc := 5) X dX3_addToThread_5 rfl ?_ (by decide)
  refine as_aload_n (pc := 6) X dX3_addToThread_6 rfl ?_
  refine as_getR (ci := 3) (j := 9) (pc := 7) X (Cn := RX3) (Tf := TX3) (N := 17) rfl rfl (by decide) iw_X3 aw_172 rfl dX3_addToThread_7 ?_
  refine as_iload_n (pc := 10) X dX3_addToThread_10 rfl ?_
  refine as_iload_n (pc := 11) X dX3_addToThread_11 rfl ?_
  refine as_iast (pc := 12) X dX3_addToThread_12 ?_
  refine as_aload_n (pc := 13) X dX3_addToThread_13 rfl ?_
  refine as_getR (ci := 3) (j := 10) (pc := 14) X (Cn := RX3) (Tf := TX3) (N := 17) rfl rfl (by decide) iw_X3 aw_174 rfl dX3_addToThread_14 ?_
  refine as_iload_n (pc := 17) X dX3_addToThread_17 rfl ?_
  refine as_iconst (pc := 18) X dX3_addToThread_18 (by decide) ?_
  refine as_iast (pc := 19) X dX3_addToThread_19 ?_
  refine as_iload_n (pc := 20) X dX3_addToThread_20 rfl ?_
  refine as_iconst (pc := 21) X dX3_addToThread_21 (by decide) ?_
  refine as_ic_ne (pc := 22) X 45 dX3_addToThread_22 (by decide) (s_X3_addToThread_45 X) ?_
  refine as_aload_n (pc := 25) X dX3_addToThread_25 rfl ?_
  refine as_getR (ci := 3) (j := 11) (pc := 26) X (Cn := RX3) (Tf := TX3) (N := 17) rfl rfl (by decide) iw_X3 aw_176 rfl dX3_addToThread_26 ?_
  refine as_iload_n (pc := 29) X dX3_addToThread_29 rfl ?_
  refine as_iconst (pc := 30) X dX3_addToThread_30 (by decide) ?_
  refine as_iast (pc := 31) X dX3_addToThread_31 ?_
  refine as_aload_n (pc := 32) X dX3_addToThread_32 rfl ?_
  refine as_getR (ci := 3) (j := 12) (pc := 33) X (Cn := RX3) (Tf := TX3) (N := 17) rfl rfl (by decide) iw_X3 aw_177 rfl dX3_addToThread_33 ?_
  refine as_iload_n (pc := 36) X dX3_addToThread_36 rfl ?_
  refine as_aload_n (pc := 37) X dX3_addToThread_37 rfl ?_
  refine as_getR (ci := 3) (j := 2) (pc := 38) X (Cn := RX3) (Tf := TX3) (N := 17) rfl rfl (by decide) iw_X3 aw_163 rfl dX3_addToThread_38 ?_
  refine as_iload_n (pc := 41) X dX3_addToThread_41 rfl ?_
  refine as_iald (pc := 42) X dX3_addToThread_42 ?_
  refine as_iast (pc := 43) X dX3_addToThread_43 ?_
  exact as_ret (pc := 44) X ⟨rfl, rfl⟩ rfl dX3_addToThread_44
theorem s_X3_addToThread {G : am_G} {bc bs : Nat} (X : am_Cx G cX3_addToThread RX3 "addToThread" rm_X3_addToThread none 3 bc bs true) (h : Nat) : am_S G h (h_X3_addToThread h) := by
  unfold h_X3_addToThread
  split
  · next e => rw [e]; exact s_X3_addToThread_0 X
  exact as_bad
theorem ct_X3_addToThread : am_Ct yX3_addToThread cX3_addToThread 3 none rm_X3_addToThread sp_X3_addToThread := am_met (own := RX3) (nm := "addToThread") (by decide) rfl rfl (Or.inl rfl) (fun _ _ => h_X3_addToThread) (fun _ _ _ X => s_X3_addToThread X) (fun _ _ _ _ h => h)
-- X3_numberThreadAt
theorem dX3_numberThreadAt_0 : decode cX3_numberThreadAt 0 = .ok (.aload_n 0, 1) := by decide +kernel
theorem dX3_numberThreadAt_1 : decode cX3_numberThreadAt 1 = .ok (.getfield 18, 3) := by decide +kernel
theorem dX3_numberThreadAt_4 : decode cX3_numberThreadAt 4 = .ok (.iload_n 1, 1) := by decide +kernel
theorem dX3_numberThreadAt_5 : decode cX3_numberThreadAt 5 = .ok (.iaload, 1) := by decide +kernel
theorem dX3_numberThreadAt_6 : decode cX3_numberThreadAt 6 = .ok (.istore_n 2, 1) := by decide +kernel
theorem dX3_numberThreadAt_7 : decode cX3_numberThreadAt 7 = .ok (.aload_n 0, 1) := by decide +kernel
theorem dX3_numberThreadAt_8 : decode cX3_numberThreadAt 8 = .ok (.getfield 58, 3) := by decide +kernel
theorem dX3_numberThreadAt_11 : decode cX3_numberThreadAt 11 = .ok (.istore_n 3, 1) := by decide +kernel
theorem dX3_numberThreadAt_12 : decode cX3_numberThreadAt 12 = .ok (.aload_n 0, 1) := by decide +kernel
theorem dX3_numberThreadAt_13 : decode cX3_numberThreadAt 13 = .ok (.getfield 52, 3) := by decide +kernel
theorem dX3_numberThreadAt_16 : decode cX3_numberThreadAt 16 = .ok (.iload_n 2, 1) := by decide +kernel
theorem dX3_numberThreadAt_17 : decode cX3_numberThreadAt 17 = .ok (.iaload, 1) := by decide +kernel
theorem dX3_numberThreadAt_18 : decode cX3_numberThreadAt 18 = .ok (.iload_n 1, 1) := by decide +kernel
theorem dX3_numberThreadAt_19 : decode cX3_numberThreadAt 19 = .ok (.if_icmp .ne 23, 3) := by decide +kernel
theorem dX3_numberThreadAt_22 : decode cX3_numberThreadAt 22 = .ok (.aload_n 0, 1) := by decide +kernel
theorem dX3_numberThreadAt_23 : decode cX3_numberThreadAt 23 = .ok (.getfield 62, 3) := by decide +kernel
theorem dX3_numberThreadAt_26 : decode cX3_numberThreadAt 26 = .ok (.iload_n 3, 1) := by decide +kernel
theorem dX3_numberThreadAt_27 : decode cX3_numberThreadAt 27 = .ok (.iconst 0, 1) := by decide +kernel
theorem dX3_numberThreadAt_28 : decode cX3_numberThreadAt 28 = .ok (.iastore, 1) := by decide +kernel
theorem dX3_numberThreadAt_29 : decode cX3_numberThreadAt 29 = .ok (.aload_n 0, 1) := by decide +kernel
theorem dX3_numberThreadAt_30 : decode cX3_numberThreadAt 30 = .ok (.dup, 1) := by decide +kernel
theorem dX3_numberThreadAt_31 : decode cX3_numberThreadAt 31 = .ok (.getfield 58, 3) := by decide +kernel
theorem dX3_numberThreadAt_34 : decode cX3_numberThreadAt 34 = .ok (.iconst 1, 1) := by decide +kernel
theorem dX3_numberThreadAt_35 : decode cX3_numberThreadAt 35 = .ok (.iadd, 1) := by decide +kernel
theorem dX3_numberThreadAt_36 : decode cX3_numberThreadAt 36 = .ok (.putfield 58, 3) := by decide +kernel
theorem dX3_numberThreadAt_39 : decode cX3_numberThreadAt 39 = .ok (.goto 20, 3) := by decide +kernel
theorem dX3_numberThreadAt_42 : decode cX3_numberThreadAt 42 = .ok (.aload_n 0, 1) := by decide +kernel
theorem dX3_numberThreadAt_43 : decode cX3_numberThreadAt 43 = .ok (.getfield 55, 3) := by decide +kernel
theorem dX3_numberThreadAt_46 : decode cX3_numberThreadAt 46 = .ok (.aload_n 0, 1) := by decide +kernel
theorem dX3_numberThreadAt_47 : decode cX3_numberThreadAt 47 = .ok (.getfield 18, 3) := by decide +kernel
theorem dX3_numberThreadAt_50 : decode cX3_numberThreadAt 50 = .ok (.aload_n 0, 1) := by decide +kernel
theorem dX3_numberThreadAt_51 : decode cX3_numberThreadAt 51 = .ok (.getfield 52, 3) := by decide +kernel
theorem dX3_numberThreadAt_54 : decode cX3_numberThreadAt 54 = .ok (.iload_n 2, 1) := by decide +kernel
theorem dX3_numberThreadAt_55 : decode cX3_numberThreadAt 55 = .ok (.iaload, 1) := by decide +kernel
theorem dX3_numberThreadAt_56 : decode cX3_numberThreadAt 56 = .ok (.iaload, 1) := by decide +kernel
theorem dX3_numberThreadAt_57 : decode cX3_numberThreadAt 57 = .ok (.iaload, 1) := by decide +kernel
theorem dX3_numberThreadAt_58 : decode cX3_numberThreadAt 58 = .ok (.istore_n 3, 1) := by decide +kernel
theorem dX3_numberThreadAt_59 : decode cX3_numberThreadAt 59 = .ok (.aload_n 0, 1) := by decide +kernel
theorem dX3_numberThreadAt_60 : decode cX3_numberThreadAt 60 = .ok (.getfield 55, 3) := by decide +kernel
theorem dX3_numberThreadAt_63 : decode cX3_numberThreadAt 63 = .ok (.iload_n 2, 1) := by decide +kernel
theorem dX3_numberThreadAt_64 : decode cX3_numberThreadAt 64 = .ok (.iload_n 3, 1) := by decide +kernel
theorem dX3_numberThreadAt_65 : decode cX3_numberThreadAt 65 = .ok (.iastore, 1) := by decide +kernel
theorem dX3_numberThreadAt_66 : decode cX3_numberThreadAt 66 = .ok (.aload_n 0, 1) := by decide +kernel
theorem dX3_numberThreadAt_67 : decode cX3_numberThreadAt 67 = .ok (.getfield 62, 3) := by decide +kernel
theorem dX3_numberThreadAt_70 : decode cX3_numberThreadAt 70 = .ok (.iload_n 3, 1) := by decide +kernel
theorem dX3_numberThreadAt_71 : decode cX3_numberThreadAt 71 = .ok (.dup2, 1) := by decide +kernel
theorem dX3_numberThreadAt_72 : decode cX3_numberThreadAt 72 = .ok (.iaload, 1) := by decide +kernel
theorem dX3_numberThreadAt_73 : decode cX3_numberThreadAt 73 = .ok (.iconst 1, 1) := by decide +kernel
theorem dX3_numberThreadAt_74 : decode cX3_numberThreadAt 74 = .ok (.iadd, 1) := by decide +kernel
theorem dX3_numberThreadAt_75 : decode cX3_numberThreadAt 75 = .ok (.iastore, 1) := by decide +kernel
theorem dX3_numberThreadAt_76 : decode cX3_numberThreadAt 76 = .ok (.aload_n 0, 1) := by decide +kernel
theorem dX3_numberThreadAt_77 : decode cX3_numberThreadAt 77 = .ok (.getfield 65, 3) := by decide +kernel
theorem dX3_numberThreadAt_80 : decode cX3_numberThreadAt 80 = .ok (.iload_n 3, 1) := by decide +kernel
theorem dX3_numberThreadAt_81 : decode cX3_numberThreadAt 81 = .ok (.iload_n 2, 1) := by decide +kernel
theorem dX3_numberThreadAt_82 : decode cX3_numberThreadAt 82 = .ok (.iastore, 1) := by decide +kernel
theorem dX3_numberThreadAt_83 : decode cX3_numberThreadAt 83 = .ok (.return_, 1) := by decide +kernel
def t_X3_numberThreadAt_59 : am_T := tb_aload 0 <|
  tb_getR 3 13 <|
  tb_iload 2 <|
  tb_iload 3 <|
  tb_iast <|
  tb_aload 0 <|
  tb_getR 3 15 <|
  tb_iload 3 <|
  tb_dup2 <|
  tb_iald <|
  tb_const 1 <|
  tb_bin (fun x y => x + y) <|
  tb_iast <|
  tb_aload 0 <|
  tb_getR 3 16 <|
  tb_iload 3 <|
  tb_iload 2 <|
  tb_iast <|
  tb_ret
def t_X3_numberThreadAt_42 : am_T := tb_aload 0 <|
  tb_getR 3 13 <|
  tb_aload 0 <|
  tb_getR 3 1 <|
  tb_aload 0 <|
  tb_getR 3 12 <|
  tb_iload 2 <|
  tb_iald <|
  tb_iald <|
  tb_iald <|
  tb_istore 3 <|
  t_X3_numberThreadAt_59
def t_X3_numberThreadAt_0 : am_T := tb_aload 0 <|
  tb_getR 3 1 <|
  tb_iload 1 <|
  tb_iald <|
  tb_istore 2 <|
  tb_aload 0 <|
  tb_getI 3 14 <|
  tb_istore 3 <|
  tb_aload 0 <|
  tb_getR 3 12 <|
  tb_iload 2 <|
  tb_iald <|
  tb_iload 1 <|
  tb_ic (fun x y => x ≠ y) (t_X3_numberThreadAt_42) <|
  tb_aload 0 <|
  tb_getR 3 15 <|
  tb_iload 3 <|
  tb_const 0 <|
  tb_iast <|
  tb_aload 0 <|
  tb_dup <|
  tb_getI 3 14 <|
  tb_const 1 <|
  tb_bin (fun x y => x + y) <|
  tb_putI 3 14 <|
  t_X3_numberThreadAt_59
def h_X3_numberThreadAt : am_Hd := fun h => if h = 0 then t_X3_numberThreadAt_0 else tb_bad
theorem h_X3_numberThreadAt_0 : h_X3_numberThreadAt 0 = t_X3_numberThreadAt_0 := rfl
def rm_X3_numberThreadAt : Room := { frames := 0, cells := 0, slots := 0, locals := 0 }
def sp_X3_numberThreadAt : am_sp := fun as M Q => as.length ≤ 4 ∧ am_OK h_X3_numberThreadAt Q 0 (am_in 4 as) M
theorem s_X3_numberThreadAt_59 {G : am_G} {bc bs : Nat} (X : am_Cx G cX3_numberThreadAt RX3 "numberThreadAt" rm_X3_numberThreadAt none 4 bc bs true) : am_S G 59 (t_X3_numberThreadAt_59) := by
  unfold t_X3_numberThreadAt_59
  refine as_aload_n (pc := 59) X dX3_numberThreadAt_59 rfl ?_
  refine as_getR (ci := 3) (j := 13) (pc := 60) X (Cn := RX3) (Tf := TX3) (N := 17) rfl rfl (by decide) iw_X3 aw_178 rfl dX3_numberThreadAt_60 ?_
  refine as_iload_n (pc := 63) X dX3_numberThreadAt_63 rfl ?_
  refine as_iload_n (pc := 64) X dX3_numberThreadAt_64 rfl ?_
  refine as_iast (pc := 65) X dX3_numberThreadAt_65 ?_
  refine as_aload_n (pc := 66) X dX3_numberThreadAt_66 rfl ?_
  refine as_getR (ci := 3) (j := 15) (pc := 67) X (Cn := RX3) (Tf := TX3) (N := 17) rfl rfl (by decide) iw_X3 aw_182 rfl dX3_numberThreadAt_67 ?_
  refine as_iload_n (pc := 70) X dX3_numberThreadAt_70 rfl ?_
  refine as_dup2 (pc := 71) X dX3_numberThreadAt_71 ?_
  refine as_iald (pc := 72) X dX3_numberThreadAt_72 ?_
  refine as_iconst (pc := 73) X dX3_numberThreadAt_73 (by decide) ?_
  refine as_iadd (pc := 74) X dX3_numberThreadAt_74 ?_
  refine as_iast (pc := 75) X dX3_numberThreadAt_75 ?_
  refine as_aload_n (pc := 76) X dX3_numberThreadAt_76 rfl ?_
  refine as_getR (ci := 3) (j := 16) (pc := 77) X (Cn := RX3) (Tf := TX3) (N := 17) rfl rfl (by decide) iw_X3 aw_184 rfl dX3_numberThreadAt_77 ?_
  refine as_iload_n (pc := 80) X dX3_numberThreadAt_80 rfl ?_
  refine as_iload_n (pc := 81) X dX3_numberThreadAt_81 rfl ?_
  refine as_iast (pc := 82) X dX3_numberThreadAt_82 ?_
  exact as_ret (pc := 83) X ⟨rfl, rfl⟩ rfl dX3_numberThreadAt_83
theorem s_X3_numberThreadAt_42 {G : am_G} {bc bs : Nat} (X : am_Cx G cX3_numberThreadAt RX3 "numberThreadAt" rm_X3_numberThreadAt none 4 bc bs true) : am_S G 42 (t_X3_numberThreadAt_42) := by
  unfold t_X3_numberThreadAt_42
  refine as_aload_n (pc := 42) X dX3_numberThreadAt_42 rfl ?_
  refine as_getR (ci := 3) (j := 13) (pc := 43) X (Cn := RX3) (Tf := TX3) (N := 17) rfl rfl (by decide) iw_X3 aw_178 rfl dX3_numberThreadAt_43 ?_
  refine as_aload_n (pc := 46) X dX3_numberThreadAt_46 rfl ?_
  refine as_getR (ci := 3) (j := 1) (pc := 47) X (Cn := RX3) (Tf := TX3) (N := 17) rfl rfl (by decide) iw_X3 aw_161 rfl dX3_numberThreadAt_47 ?_
  refine as_aload_n (pc := 50) X dX3_numberThreadAt_50 rfl ?_
  refine as_getR (ci := 3) (j := 12) (pc := 51) X (Cn := RX3) (Tf := TX3) (N := 17) rfl rfl (by decide) iw_X3 aw_177 rfl dX3_numberThreadAt_51 ?_
  refine as_iload_n (pc := 54) X dX3_numberThreadAt_54 rfl ?_
  refine as_iald (pc := 55) X dX3_numberThreadAt_55 ?_
  refine as_iald (pc := 56) X dX3_numberThreadAt_56 ?_
  refine as_iald (pc := 57) X dX3_numberThreadAt_57 ?_
  refine as_istore_n (pc := 58) X dX3_numberThreadAt_58 rfl ?_ (by decide)
  exact s_X3_numberThreadAt_59 X
theorem s_X3_numberThreadAt_0 {G : am_G} {bc bs : Nat} (X : am_Cx G cX3_numberThreadAt RX3 "numberThreadAt" rm_X3_numberThreadAt none 4 bc bs true) : am_S G 0 (t_X3_numberThreadAt_0) := by
  unfold t_X3_numberThreadAt_0
  refine as_aload_n (pc := 0) X dX3_numberThreadAt_0 rfl ?_
  refine as_getR (ci := 3) (j := 1) (pc := 1) X (Cn := RX3) (Tf := TX3) (N := 17) rfl rfl (by decide) iw_X3 aw_161 rfl dX3_numberThreadAt_1 ?_
  refine as_iload_n (pc := 4) X dX3_numberThreadAt_4 rfl ?_
  refine as_iald (pc := 5) X dX3_numberThreadAt_5 ?_
  refine as_istore_n (pc := 6) X dX3_numberThreadAt_6 rfl ?_ (by decide)
  refine as_aload_n (pc := 7) X dX3_numberThreadAt_7 rfl ?_
  refine as_getI (ci := 3) (j := 14) (pc := 8) X (Cn := RX3) (Tf := TX3) (N := 17) rfl rfl (by decide) iw_X3 aw_180 rfl dX3_numberThreadAt_8 ?_
  refine as_istore_n (pc := 11) X dX3_numberThreadAt_11 rfl ?_ (by decide)
  refine as_aload_n (pc := 12) X dX3_numberThreadAt_12 rfl ?_
  refine as_getR (ci := 3) (j := 12) (pc := 13) X (Cn := RX3) (Tf := TX3) (N := 17) rfl rfl (by decide) iw_X3 aw_177 rfl dX3_numberThreadAt_13 ?_
  refine as_iload_n (pc := 16) X dX3_numberThreadAt_16 rfl ?_
  refine as_iald (pc := 17) X dX3_numberThreadAt_17 ?_
  refine as_iload_n (pc := 18) X dX3_numberThreadAt_18 rfl ?_
  refine as_ic_ne (pc := 19) X 42 dX3_numberThreadAt_19 (by decide) (s_X3_numberThreadAt_42 X) ?_
  refine as_aload_n (pc := 22) X dX3_numberThreadAt_22 rfl ?_
  refine as_getR (ci := 3) (j := 15) (pc := 23) X (Cn := RX3) (Tf := TX3) (N := 17) rfl rfl (by decide) iw_X3 aw_182 rfl dX3_numberThreadAt_23 ?_
  refine as_iload_n (pc := 26) X dX3_numberThreadAt_26 rfl ?_
  refine as_iconst (pc := 27) X dX3_numberThreadAt_27 (by decide) ?_
  refine as_iast (pc := 28) X dX3_numberThreadAt_28 ?_
  refine as_aload_n (pc := 29) X dX3_numberThreadAt_29 rfl ?_
  refine as_dup (pc := 30) X dX3_numberThreadAt_30 ?_
  refine as_getI (ci := 3) (j := 14) (pc := 31) X (Cn := RX3) (Tf := TX3) (N := 17) rfl rfl (by decide) iw_X3 aw_180 rfl dX3_numberThreadAt_31 ?_
  refine as_iconst (pc := 34) X dX3_numberThreadAt_34 (by decide) ?_
  refine as_iadd (pc := 35) X dX3_numberThreadAt_35 ?_
  refine as_putI (ci := 3) (j := 14) (pc := 36) X (Cn := RX3) (Tf := TX3) (N := 17) rfl rfl (by decide) iw_X3 aw_180 tyX3 tyX3_ok nmX3 rfl rfl (by decide +kernel) dX3_numberThreadAt_36 ?_
  exact as_goto (pc := 39) X 59 dX3_numberThreadAt_39 (by decide) (s_X3_numberThreadAt_59 X)
theorem s_X3_numberThreadAt {G : am_G} {bc bs : Nat} (X : am_Cx G cX3_numberThreadAt RX3 "numberThreadAt" rm_X3_numberThreadAt none 4 bc bs true) (h : Nat) : am_S G h (h_X3_numberThreadAt h) := by
  unfold h_X3_numberThreadAt
  split
  · next e => rw [e]; exact s_X3_numberThreadAt_0 X
  exact as_bad
theorem ct_X3_numberThreadAt : am_Ct yX3_numberThreadAt cX3_numberThreadAt 4 none rm_X3_numberThreadAt sp_X3_numberThreadAt := am_met (own := RX3) (nm := "numberThreadAt") (by decide) rfl rfl (Or.inl rfl) (fun _ _ => h_X3_numberThreadAt) (fun _ _ _ X => s_X3_numberThreadAt X) (fun _ _ _ _ h => h)
-- X3_follow
theorem dX3_follow_0 : decode cX3_follow 0 = .ok (.iconst 0, 1) := by decide +kernel
theorem dX3_follow_1 : decode cX3_follow 1 = .ok (.istore_n 1, 1) := by decide +kernel
theorem dX3_follow_2 : decode cX3_follow 2 = .ok (.iload_n 1, 1) := by decide +kernel
theorem dX3_follow_3 : decode cX3_follow 3 = .ok (.aload_n 0, 1) := by decide +kernel
theorem dX3_follow_4 : decode cX3_follow 4 = .ok (.getfield 12, 3) := by decide +kernel
theorem dX3_follow_7 : decode cX3_follow 7 = .ok (.getfield 71, 3) := by decide +kernel
theorem dX3_follow_10 : decode cX3_follow 10 = .ok (.if_icmp .ge 19, 3) := by decide +kernel
theorem dX3_follow_13 : decode cX3_follow 13 = .ok (.aload_n 0, 1) := by decide +kernel
theorem dX3_follow_14 : decode cX3_follow 14 = .ok (.aload_n 0, 1) := by decide +kernel
theorem dX3_follow_15 : decode cX3_follow 15 = .ok (.getfield 18, 3) := by decide +kernel
theorem dX3_follow_18 : decode cX3_follow 18 = .ok (.iload_n 1, 1) := by decide +kernel
theorem dX3_follow_19 : decode cX3_follow 19 = .ok (.iaload, 1) := by decide +kernel
theorem dX3_follow_20 : decode cX3_follow 20 = .ok (.invokevirtual 140, 3) := by decide +kernel
theorem dX3_follow_23 : decode cX3_follow 23 = .ok (.iinc 1 1, 3) := by decide +kernel
theorem dX3_follow_26 : decode cX3_follow 26 = .ok (.goto (-24), 3) := by decide +kernel
theorem dX3_follow_29 : decode cX3_follow 29 = .ok (.aload_n 0, 1) := by decide +kernel
theorem dX3_follow_30 : decode cX3_follow 30 = .ok (.iconst 0, 1) := by decide +kernel
theorem dX3_follow_31 : decode cX3_follow 31 = .ok (.putfield 58, 3) := by decide +kernel
theorem dX3_follow_34 : decode cX3_follow 34 = .ok (.iconst 0, 1) := by decide +kernel
theorem dX3_follow_35 : decode cX3_follow 35 = .ok (.istore_n 1, 1) := by decide +kernel
theorem dX3_follow_36 : decode cX3_follow 36 = .ok (.iload_n 1, 1) := by decide +kernel
theorem dX3_follow_37 : decode cX3_follow 37 = .ok (.aload_n 0, 1) := by decide +kernel
theorem dX3_follow_38 : decode cX3_follow 38 = .ok (.getfield 12, 3) := by decide +kernel
theorem dX3_follow_41 : decode cX3_follow 41 = .ok (.getfield 71, 3) := by decide +kernel
theorem dX3_follow_44 : decode cX3_follow 44 = .ok (.if_icmp .ge 14, 3) := by decide +kernel
theorem dX3_follow_47 : decode cX3_follow 47 = .ok (.aload_n 0, 1) := by decide +kernel
theorem dX3_follow_48 : decode cX3_follow 48 = .ok (.iload_n 1, 1) := by decide +kernel
theorem dX3_follow_49 : decode cX3_follow 49 = .ok (.invokevirtual 144, 3) := by decide +kernel
theorem dX3_follow_52 : decode cX3_follow 52 = .ok (.iinc 1 1, 3) := by decide +kernel
theorem dX3_follow_55 : decode cX3_follow 55 = .ok (.goto (-19), 3) := by decide +kernel
theorem dX3_follow_58 : decode cX3_follow 58 = .ok (.return_, 1) := by decide +kernel
def t_X3_follow_58 : am_T := tb_ret
def t_X3_follow_36 : am_T := tb_iload 1 <|
  tb_aload 0 <|
  tb_getR 3 0 <|
  tb_getI 1 4 <|
  tb_ic (fun x y => y ≤ x) (t_X3_follow_58) <|
  tb_aload 0 <|
  tb_iload 1 <|
  tb_callV 3 sp_X3_numberThreadAt 2 <|
  tb_iinc 1 1 <|
  tb_head 36
def t_X3_follow_29 : am_T := tb_aload 0 <|
  tb_const 0 <|
  tb_putI 3 14 <|
  tb_const 0 <|
  tb_istore 1 <|
  tb_head 36
def t_X3_follow_2 : am_T := tb_iload 1 <|
  tb_aload 0 <|
  tb_getR 3 0 <|
  tb_getI 1 4 <|
  tb_ic (fun x y => y ≤ x) (t_X3_follow_29) <|
  tb_aload 0 <|
  tb_aload 0 <|
  tb_getR 3 1 <|
  tb_iload 1 <|
  tb_iald <|
  tb_callV 3 sp_X3_addToThread 2 <|
  tb_iinc 1 1 <|
  tb_head 2
def t_X3_follow_0 : am_T := tb_const 0 <|
  tb_istore 1 <|
  tb_head 2
def h_X3_follow : am_Hd := fun h => if h = 0 then t_X3_follow_0 else if h = 2 then t_X3_follow_2 else if h = 36 then t_X3_follow_36 else tb_bad
theorem h_X3_follow_0 : h_X3_follow 0 = t_X3_follow_0 := rfl
theorem h_X3_follow_2 : h_X3_follow 2 = t_X3_follow_2 := rfl
theorem h_X3_follow_36 : h_X3_follow 36 = t_X3_follow_36 := rfl
def rm_X3_follow : Room := { frames := 4, cells := 0, slots := 0, locals := 92 }
def sp_X3_follow : am_sp := fun as M Q => as.length ≤ 2 ∧ am_OK h_X3_follow Q 0 (am_in 2 as) M
theorem s_X3_follow_58 {G : am_G} {bc bs : Nat} (X : am_Cx G cX3_follow RX3 "follow" rm_X3_follow none 2 bc bs true) : am_S G 58 (t_X3_follow_58) := by
  unfold t_X3_follow_58
  exact as_ret (pc := 58) X ⟨rfl, rfl⟩ rfl dX3_follow_58
theorem s_X3_follow_36 {G : am_G} {bc bs : Nat} (X : am_Cx G cX3_follow RX3 "follow" rm_X3_follow none 2 bc bs true) : am_S G 36 (t_X3_follow_36) := by
  unfold t_X3_follow_36
  refine as_iload_n (pc := 36) X dX3_follow_36 rfl ?_
  refine as_aload_n (pc := 37) X dX3_follow_37 rfl ?_
  refine as_getR (ci := 3) (j := 0) (pc := 38) X (Cn := RX3) (Tf := TX3) (N := 17) rfl rfl (by decide) iw_X3 aw_159 rfl dX3_follow_38 ?_
  refine as_getI (ci := 1) (j := 4) (pc := 41) X (Cn := RX1) (Tf := TX1) (N := 14) rfl rfl (by decide) iw_X1 aw_99 rfl dX3_follow_41 ?_
  refine as_ic_ge (pc := 44) X 58 dX3_follow_44 (by decide) (s_X3_follow_58 X) ?_
  refine as_aload_n (pc := 47) X dX3_follow_47 rfl ?_
  refine as_iload_n (pc := 48) X dX3_follow_48 rfl ?_
  refine as_callV (ci := 3) (np := 1) (ix := 144) (pc := 49) X ct_X3_numberThreadAt (Cn := (RX3, TX3, 17)) rfl ⟨rfl, rfl⟩ aw_481 aw_483 aw_15 aw_484 aw_60 (by decide +kernel) (by decide) dX3_follow_49 ?_
  refine as_iinc (pc := 52) X dX3_follow_52 (by decide) (by decide) ?_
  exact as_goto (pc := 55) X 36 dX3_follow_55 (by decide) (as_head)
theorem s_X3_follow_29 {G : am_G} {bc bs : Nat} (X : am_Cx G cX3_follow RX3 "follow" rm_X3_follow none 2 bc bs true) : am_S G 29 (t_X3_follow_29) := by
  unfold t_X3_follow_29
  refine as_aload_n (pc := 29) X dX3_follow_29 rfl ?_
  refine as_iconst (pc := 30) X dX3_follow_30 (by decide) ?_
  refine as_putI (ci := 3) (j := 14) (pc := 31) X (Cn := RX3) (Tf := TX3) (N := 17) rfl rfl (by decide) iw_X3 aw_180 tyX3 tyX3_ok nmX3 rfl rfl (by decide +kernel) dX3_follow_31 ?_
  refine as_iconst (pc := 34) X dX3_follow_34 (by decide) ?_
  refine as_istore_n (pc := 35) X dX3_follow_35 rfl ?_ (by decide)
  exact as_head
theorem s_X3_follow_2 {G : am_G} {bc bs : Nat} (X : am_Cx G cX3_follow RX3 "follow" rm_X3_follow none 2 bc bs true) : am_S G 2 (t_X3_follow_2) := by
  unfold t_X3_follow_2
  refine as_iload_n (pc := 2) X dX3_follow_2 rfl ?_
  refine as_aload_n (pc := 3) X dX3_follow_3 rfl ?_
  refine as_getR (ci := 3) (j := 0) (pc := 4) X (Cn := RX3) (Tf := TX3) (N := 17) rfl rfl (by decide) iw_X3 aw_159 rfl dX3_follow_4 ?_
  refine as_getI (ci := 1) (j := 4) (pc := 7) X (Cn := RX1) (Tf := TX1) (N := 14) rfl rfl (by decide) iw_X1 aw_99 rfl dX3_follow_7 ?_
  refine as_ic_ge (pc := 10) X 29 dX3_follow_10 (by decide) (s_X3_follow_29 X) ?_
  refine as_aload_n (pc := 13) X dX3_follow_13 rfl ?_
  refine as_aload_n (pc := 14) X dX3_follow_14 rfl ?_
  refine as_getR (ci := 3) (j := 1) (pc := 15) X (Cn := RX3) (Tf := TX3) (N := 17) rfl rfl (by decide) iw_X3 aw_161 rfl dX3_follow_15 ?_
  refine as_iload_n (pc := 18) X dX3_follow_18 rfl ?_
  refine as_iald (pc := 19) X dX3_follow_19 ?_
  refine as_callV (ci := 3) (np := 1) (ix := 140) (pc := 20) X ct_X3_addToThread (Cn := (RX3, TX3, 17)) rfl ⟨rfl, rfl⟩ aw_455 aw_457 aw_10 aw_458 aw_60 (by decide +kernel) (by decide) dX3_follow_20 ?_
  refine as_iinc (pc := 23) X dX3_follow_23 (by decide) (by decide) ?_
  exact as_goto (pc := 26) X 2 dX3_follow_26 (by decide) (as_head)
theorem s_X3_follow_0 {G : am_G} {bc bs : Nat} (X : am_Cx G cX3_follow RX3 "follow" rm_X3_follow none 2 bc bs true) : am_S G 0 (t_X3_follow_0) := by
  unfold t_X3_follow_0
  refine as_iconst (pc := 0) X dX3_follow_0 (by decide) ?_
  refine as_istore_n (pc := 1) X dX3_follow_1 rfl ?_ (by decide)
  exact as_head
theorem s_X3_follow {G : am_G} {bc bs : Nat} (X : am_Cx G cX3_follow RX3 "follow" rm_X3_follow none 2 bc bs true) (h : Nat) : am_S G h (h_X3_follow h) := by
  unfold h_X3_follow
  split
  · next e => rw [e]; exact s_X3_follow_0 X
  split
  · next e => rw [e]; exact s_X3_follow_2 X
  split
  · next e => rw [e]; exact s_X3_follow_36 X
  exact as_bad
theorem ct_X3_follow : am_Ct yX3_follow cX3_follow 2 none rm_X3_follow sp_X3_follow := am_met (own := RX3) (nm := "follow") (by decide) rfl rfl (Or.inl rfl) (fun _ _ => h_X3_follow) (fun _ _ _ X => s_X3_follow X) (fun _ _ _ _ h => h)
-- X4_currentThreads
theorem dX4_currentThreads_0 : decode cX4_currentThreads 0 = .ok (.aload_n 0, 1) := by decide +kernel
theorem dX4_currentThreads_1 : decode cX4_currentThreads 1 = .ok (.getfield 21, 3) := by decide +kernel
theorem dX4_currentThreads_4 : decode cX4_currentThreads 4 = .ok (.ifCond .eq 22, 3) := by decide +kernel
theorem dX4_currentThreads_7 : decode cX4_currentThreads 7 = .ok (.aload_n 0, 1) := by decide +kernel
theorem dX4_currentThreads_8 : decode cX4_currentThreads 8 = .ok (.getfield 10, 3) := by decide +kernel
theorem dX4_currentThreads_11 : decode cX4_currentThreads 11 = .ok (.invokevirtual 244, 3) := by decide +kernel
theorem dX4_currentThreads_14 : decode cX4_currentThreads 14 = .ok (.aload_n 0, 1) := by decide +kernel
theorem dX4_currentThreads_15 : decode cX4_currentThreads 15 = .ok (.getfield 10, 3) := by decide +kernel
theorem dX4_currentThreads_18 : decode cX4_currentThreads 18 = .ok (.invokevirtual 253, 3) := by decide +kernel
theorem dX4_currentThreads_21 : decode cX4_currentThreads 21 = .ok (.aload_n 0, 1) := by decide +kernel
theorem dX4_currentThreads_22 : decode cX4_currentThreads 22 = .ok (.iconst 0, 1) := by decide +kernel
theorem dX4_currentThreads_23 : decode cX4_currentThreads 23 = .ok (.putfield 21, 3) := by decide +kernel
theorem dX4_currentThreads_26 : decode cX4_currentThreads 26 = .ok (.aload_n 0, 1) := by decide +kernel
theorem dX4_currentThreads_27 : decode cX4_currentThreads 27 = .ok (.getfield 10, 3) := by decide +kernel
theorem dX4_currentThreads_30 : decode cX4_currentThreads 30 = .ok (.areturn, 1) := by decide +kernel
def t_X4_currentThreads_26 : am_T := tb_aload 0 <|
  tb_getR 4 0 <|
  tb_aret
def t_X4_currentThreads_0 : am_T := tb_aload 0 <|
  tb_getI 4 2 <|
  tb_if (fun x => x = 0) (t_X4_currentThreads_26) <|
  tb_aload 0 <|
  tb_getR 4 0 <|
  tb_callV 3 sp_X3_rateAll 1 <|
  tb_aload 0 <|
  tb_getR 4 0 <|
  tb_callV 3 sp_X3_follow 1 <|
  tb_aload 0 <|
  tb_const 0 <|
  tb_putN .boolean 4 2 <|
  t_X4_currentThreads_26
def h_X4_currentThreads : am_Hd := fun h => if h = 0 then t_X4_currentThreads_0 else tb_bad
theorem h_X4_currentThreads_0 : h_X4_currentThreads 0 = t_X4_currentThreads_0 := rfl
def rm_X4_currentThreads : Room := { frames := 5, cells := 0, slots := 0, locals := 113 }
def sp_X4_currentThreads : am_sp := fun as M Q => as.length ≤ 1 ∧ am_OK h_X4_currentThreads Q 0 (am_in 1 as) M
theorem s_X4_currentThreads_26 {G : am_G} {bc bs : Nat} (X : am_Cx G cX4_currentThreads RX4 "currentThreads" rm_X4_currentThreads (some (.object "ChatThreads$Threads")) 1 bc bs true) : am_S G 26 (t_X4_currentThreads_26) := by
  unfold t_X4_currentThreads_26
  refine as_aload_n (pc := 26) X dX4_currentThreads_26 rfl ?_
  refine as_getR (ci := 4) (j := 0) (pc := 27) X (Cn := RX4) (Tf := TX4) (N := 7) rfl rfl (by decide) iw_X4 aw_274 rfl dX4_currentThreads_27 ?_
  exact as_aret (pc := 30) X ⟨rfl, rfl⟩ ⟨_, rfl⟩ dX4_currentThreads_30
theorem s_X4_currentThreads_0 {G : am_G} {bc bs : Nat} (X : am_Cx G cX4_currentThreads RX4 "currentThreads" rm_X4_currentThreads (some (.object "ChatThreads$Threads")) 1 bc bs true) : am_S G 0 (t_X4_currentThreads_0) := by
  unfold t_X4_currentThreads_0
  refine as_aload_n (pc := 0) X dX4_currentThreads_0 rfl ?_
  refine as_getI (ci := 4) (j := 2) (pc := 1) X (Cn := RX4) (Tf := TX4) (N := 7) rfl rfl (by decide) iw_X4 aw_276 rfl dX4_currentThreads_1 ?_
  refine as_if_eq (pc := 4) X 26 dX4_currentThreads_4 (by decide) (s_X4_currentThreads_26 X) ?_
  refine as_aload_n (pc := 7) X dX4_currentThreads_7 rfl ?_
  refine as_getR (ci := 4) (j := 0) (pc := 8) X (Cn := RX4) (Tf := TX4) (N := 7) rfl rfl (by decide) iw_X4 aw_274 rfl dX4_currentThreads_8 ?_
  refine as_callV (ci := 3) (np := 0) (ix := 244) (pc := 11) X ct_X3_rateAll (Cn := (RX3, TX3, 17)) rfl ⟨rfl, rfl⟩ aw_393 aw_394 aw_395 aw_396 aw_60 (by decide +kernel) (by decide) dX4_currentThreads_11 ?_
  refine as_aload_n (pc := 14) X dX4_currentThreads_14 rfl ?_
  refine as_getR (ci := 4) (j := 0) (pc := 15) X (Cn := RX4) (Tf := TX4) (N := 7) rfl rfl (by decide) iw_X4 aw_274 rfl dX4_currentThreads_15 ?_
  refine as_callV (ci := 3) (np := 0) (ix := 253) (pc := 18) X ct_X3_follow (Cn := (RX3, TX3, 17)) rfl ⟨rfl, rfl⟩ aw_451 aw_452 aw_453 aw_454 aw_60 (by decide +kernel) (by decide) dX4_currentThreads_18 ?_
  refine as_aload_n (pc := 21) X dX4_currentThreads_21 rfl ?_
  refine as_iconst (pc := 22) X dX4_currentThreads_22 (by decide) ?_
  refine as_putN (ci := 4) (j := 2) (pc := 23) X (Cn := RX4) (Tf := TX4) (N := 7) rfl rfl (by decide) iw_X4 aw_276 tyX4 tyX4_ok nmX4 rfl (ty := .boolean) rfl (by decide +kernel) dX4_currentThreads_23 ?_
  exact s_X4_currentThreads_26 X
theorem s_X4_currentThreads {G : am_G} {bc bs : Nat} (X : am_Cx G cX4_currentThreads RX4 "currentThreads" rm_X4_currentThreads (some (.object "ChatThreads$Threads")) 1 bc bs true) (h : Nat) : am_S G h (h_X4_currentThreads h) := by
  unfold h_X4_currentThreads
  split
  · next e => rw [e]; exact s_X4_currentThreads_0 X
  exact as_bad
theorem ct_X4_currentThreads : am_Ct yX4_currentThreads cX4_currentThreads 1 (some (.object "ChatThreads$Threads")) rm_X4_currentThreads sp_X4_currentThreads := am_met (own := RX4) (nm := "currentThreads") (by decide) rfl rfl (Or.inr (Or.inr (Or.inr ⟨_, rfl⟩))) (fun _ _ => h_X4_currentThreads) (fun _ _ _ X => s_X4_currentThreads X) (fun _ _ _ _ h => h)
-- X3_answersTo
theorem dX3_answersTo_0 : decode cX3_answersTo 0 = .ok (.iconst 0, 1) := by decide +kernel
theorem dX3_answersTo_1 : decode cX3_answersTo 1 = .ok (.istore_n 2, 1) := by decide +kernel
theorem dX3_answersTo_2 : decode cX3_answersTo 2 = .ok (.iconst 0, 1) := by decide +kernel
theorem dX3_answersTo_3 : decode cX3_answersTo 3 = .ok (.istore_n 3, 1) := by decide +kernel
theorem dX3_answersTo_4 : decode cX3_answersTo 4 = .ok (.iload_n 3, 1) := by decide +kernel
theorem dX3_answersTo_5 : decode cX3_answersTo 5 = .ok (.aload_n 0, 1) := by decide +kernel
theorem dX3_answersTo_6 : decode cX3_answersTo 6 = .ok (.getfield 12, 3) := by decide +kernel
theorem dX3_answersTo_9 : decode cX3_answersTo 9 = .ok (.getfield 71, 3) := by decide +kernel
theorem dX3_answersTo_12 : decode cX3_answersTo 12 = .ok (.if_icmp .ge 22, 3) := by decide +kernel
theorem dX3_answersTo_15 : decode cX3_answersTo 15 = .ok (.aload_n 0, 1) := by decide +kernel
theorem dX3_answersTo_16 : decode cX3_answersTo 16 = .ok (.getfield 43, 3) := by decide +kernel
theorem dX3_answersTo_19 : decode cX3_answersTo 19 = .ok (.iload_n 3, 1) := by decide +kernel
theorem dX3_answersTo_20 : decode cX3_answersTo 20 = .ok (.iaload, 1) := by decide +kernel
theorem dX3_answersTo_21 : decode cX3_answersTo 21 = .ok (.iload_n 1, 1) := by decide +kernel
theorem dX3_answersTo_22 : decode cX3_answersTo 22 = .ok (.if_icmp .ne 6, 3) := by decide +kernel
theorem dX3_answersTo_25 : decode cX3_answersTo 25 = .ok (.iinc 2 1, 3) := by decide +kernel
theorem dX3_answersTo_28 : decode cX3_answersTo 28 = .ok (.iinc 3 1, 3) := by decide +kernel
theorem dX3_answersTo_31 : decode cX3_answersTo 31 = .ok (.goto (-27), 3) := by decide +kernel
theorem dX3_answersTo_34 : decode cX3_answersTo 34 = .ok (.iload_n 2, 1) := by decide +kernel
theorem dX3_answersTo_35 : decode cX3_answersTo 35 = .ok (.ireturn, 1) := by decide +kernel
def t_X3_answersTo_34 : am_T := tb_iload 2 <|
  tb_iret
def t_X3_answersTo_28 : am_T := tb_iinc 3 1 <|
  tb_head 4
def t_X3_answersTo_4 : am_T := tb_iload 3 <|
  tb_aload 0 <|
  tb_getR 3 0 <|
  tb_getI 1 4 <|
  tb_ic (fun x y => y ≤ x) (t_X3_answersTo_34) <|
  tb_aload 0 <|
  tb_getR 3 9 <|
  tb_iload 3 <|
  tb_iald <|
  tb_iload 1 <|
  tb_ic (fun x y => x ≠ y) (t_X3_answersTo_28) <|
  tb_iinc 2 1 <|
  t_X3_answersTo_28
def t_X3_answersTo_0 : am_T := tb_const 0 <|
  tb_istore 2 <|
  tb_const 0 <|
  tb_istore 3 <|
  tb_head 4
def h_X3_answersTo : am_Hd := fun h => if h = 0 then t_X3_answersTo_0 else if h = 4 then t_X3_answersTo_4 else tb_bad
theorem h_X3_answersTo_0 : h_X3_answersTo 0 = t_X3_answersTo_0 := rfl
theorem h_X3_answersTo_4 : h_X3_answersTo 4 = t_X3_answersTo_4 := rfl
def rm_X3_answersTo : Room := { frames := 0, cells := 0, slots := 0, locals := 0 }
def sp_X3_answersTo : am_sp := fun as M Q => as.length ≤ 4 ∧ am_OK h_X3_answersTo Q 0 (am_in 4 as) M
theorem s_X3_answersTo_34 {G : am_G} {bc bs : Nat} (X : am_Cx G cX3_answersTo RX3 "answersTo" rm_X3_answersTo (some .int) 4 bc bs true) : am_S G 34 (t_X3_answersTo_34) := by
  unfold t_X3_answersTo_34
  refine as_iload_n (pc := 34) X dX3_answersTo_34 rfl ?_
  exact as_iret (pc := 35) X ⟨rfl, rfl⟩ rfl dX3_answersTo_35
theorem s_X3_answersTo_28 {G : am_G} {bc bs : Nat} (X : am_Cx G cX3_answersTo RX3 "answersTo" rm_X3_answersTo (some .int) 4 bc bs true) : am_S G 28 (t_X3_answersTo_28) := by
  unfold t_X3_answersTo_28
  refine as_iinc (pc := 28) X dX3_answersTo_28 (by decide) (by decide) ?_
  exact as_goto (pc := 31) X 4 dX3_answersTo_31 (by decide) (as_head)
theorem s_X3_answersTo_4 {G : am_G} {bc bs : Nat} (X : am_Cx G cX3_answersTo RX3 "answersTo" rm_X3_answersTo (some .int) 4 bc bs true) : am_S G 4 (t_X3_answersTo_4) := by
  unfold t_X3_answersTo_4
  refine as_iload_n (pc := 4) X dX3_answersTo_4 rfl ?_
  refine as_aload_n (pc := 5) X dX3_answersTo_5 rfl ?_
  refine as_getR (ci := 3) (j := 0) (pc := 6) X (Cn := RX3) (Tf := TX3) (N := 17) rfl rfl (by decide) iw_X3 aw_159 rfl dX3_answersTo_6 ?_
  refine as_getI (ci := 1) (j := 4) (pc := 9) X (Cn := RX1) (Tf := TX1) (N := 14) rfl rfl (by decide) iw_X1 aw_99 rfl dX3_answersTo_9 ?_
  refine as_ic_ge (pc := 12) X 34 dX3_answersTo_12 (by decide) (s_X3_answersTo_34 X) ?_
  refine as_aload_n (pc := 15) X dX3_answersTo_15 rfl ?_
  refine as_getR (ci := 3) (j := 9) (pc := 16) X (Cn := RX3) (Tf := TX3) (N := 17) rfl rfl (by decide) iw_X3 aw_172 rfl dX3_answersTo_16 ?_
  refine as_iload_n (pc := 19) X dX3_answersTo_19 rfl ?_
  refine as_iald (pc := 20) X dX3_answersTo_20 ?_
  refine as_iload_n (pc := 21) X dX3_answersTo_21 rfl ?_
  refine as_ic_ne (pc := 22) X 28 dX3_answersTo_22 (by decide) (s_X3_answersTo_28 X) ?_
  refine as_iinc (pc := 25) X dX3_answersTo_25 (by decide) (by decide) ?_
  exact s_X3_answersTo_28 X
theorem s_X3_answersTo_0 {G : am_G} {bc bs : Nat} (X : am_Cx G cX3_answersTo RX3 "answersTo" rm_X3_answersTo (some .int) 4 bc bs true) : am_S G 0 (t_X3_answersTo_0) := by
  unfold t_X3_answersTo_0
  refine as_iconst (pc := 0) X dX3_answersTo_0 (by decide) ?_
  refine as_istore_n (pc := 1) X dX3_answersTo_1 rfl ?_ (by decide)
  refine as_iconst (pc := 2) X dX3_answersTo_2 (by decide) ?_
  refine as_istore_n (pc := 3) X dX3_answersTo_3 rfl ?_ (by decide)
  exact as_head
theorem s_X3_answersTo {G : am_G} {bc bs : Nat} (X : am_Cx G cX3_answersTo RX3 "answersTo" rm_X3_answersTo (some .int) 4 bc bs true) (h : Nat) : am_S G h (h_X3_answersTo h) := by
  unfold h_X3_answersTo
  split
  · next e => rw [e]; exact s_X3_answersTo_0 X
  split
  · next e => rw [e]; exact s_X3_answersTo_4 X
  exact as_bad
theorem ct_X3_answersTo : am_Ct yX3_answersTo cX3_answersTo 4 (some .int) rm_X3_answersTo sp_X3_answersTo := am_met (own := RX3) (nm := "answersTo") (by decide) rfl rfl (Or.inr (Or.inl rfl)) (fun _ _ => h_X3_answersTo) (fun _ _ _ X => s_X3_answersTo X) (fun _ _ _ _ h => h)
-- X4_lineOf
theorem dX4_lineOf_0 : decode cX4_lineOf 0 = .ok (.aload_n 0, 1) := by decide +kernel
theorem dX4_lineOf_1 : decode cX4_lineOf 1 = .ok (.getfield 20, 3) := by decide +kernel
theorem dX4_lineOf_4 : decode cX4_lineOf 4 = .ok (.iload_n 1, 1) := by decide +kernel
theorem dX4_lineOf_5 : decode cX4_lineOf 5 = .ok (.invokevirtual 93, 3) := by decide +kernel
theorem dX4_lineOf_8 : decode cX4_lineOf 8 = .ok (.ifCond .ne 5, 3) := by decide +kernel
theorem dX4_lineOf_11 : decode cX4_lineOf 11 = .ok (.iconst (-1), 1) := by decide +kernel
theorem dX4_lineOf_12 : decode cX4_lineOf 12 = .ok (.ireturn, 1) := by decide +kernel
theorem dX4_lineOf_13 : decode cX4_lineOf 13 = .ok (.iload_n 2, 1) := by decide +kernel
theorem dX4_lineOf_14 : decode cX4_lineOf 14 = .ok (.tableswitch 156 0 9 #[54, 64, 74, 84, 94, 104, 114, 127, 136, 146], 54) := by decide +kernel
theorem dX4_lineOf_68 : decode cX4_lineOf 68 = .ok (.aload_n 0, 1) := by decide +kernel
theorem dX4_lineOf_69 : decode cX4_lineOf 69 = .ok (.getfield 20, 3) := by decide +kernel
theorem dX4_lineOf_72 : decode cX4_lineOf 72 = .ok (.getfield 103, 3) := by decide +kernel
theorem dX4_lineOf_75 : decode cX4_lineOf 75 = .ok (.iload_n 1, 1) := by decide +kernel
theorem dX4_lineOf_76 : decode cX4_lineOf 76 = .ok (.iaload, 1) := by decide +kernel
theorem dX4_lineOf_77 : decode cX4_lineOf 77 = .ok (.ireturn, 1) := by decide +kernel
theorem dX4_lineOf_78 : decode cX4_lineOf 78 = .ok (.aload_n 0, 1) := by decide +kernel
theorem dX4_lineOf_79 : decode cX4_lineOf 79 = .ok (.getfield 20, 3) := by decide +kernel
theorem dX4_lineOf_82 : decode cX4_lineOf 82 = .ok (.getfield 107, 3) := by decide +kernel
theorem dX4_lineOf_85 : decode cX4_lineOf 85 = .ok (.iload_n 1, 1) := by decide +kernel
theorem dX4_lineOf_86 : decode cX4_lineOf 86 = .ok (.iaload, 1) := by decide +kernel
theorem dX4_lineOf_87 : decode cX4_lineOf 87 = .ok (.ireturn, 1) := by decide +kernel
theorem dX4_lineOf_88 : decode cX4_lineOf 88 = .ok (.aload_n 0, 1) := by decide +kernel
theorem dX4_lineOf_89 : decode cX4_lineOf 89 = .ok (.getfield 20, 3) := by decide +kernel
theorem dX4_lineOf_92 : decode cX4_lineOf 92 = .ok (.getfield 110, 3) := by decide +kernel
theorem dX4_lineOf_95 : decode cX4_lineOf 95 = .ok (.iload_n 1, 1) := by decide +kernel
theorem dX4_lineOf_96 : decode cX4_lineOf 96 = .ok (.iaload, 1) := by decide +kernel
theorem dX4_lineOf_97 : decode cX4_lineOf 97 = .ok (.ireturn, 1) := by decide +kernel
theorem dX4_lineOf_98 : decode cX4_lineOf 98 = .ok (.aload_n 0, 1) := by decide +kernel
theorem dX4_lineOf_99 : decode cX4_lineOf 99 = .ok (.getfield 20, 3) := by decide +kernel
theorem dX4_lineOf_102 : decode cX4_lineOf 102 = .ok (.getfield 113, 3) := by decide +kernel
theorem dX4_lineOf_105 : decode cX4_lineOf 105 = .ok (.iload_n 1, 1) := by decide +kernel
theorem dX4_lineOf_106 : decode cX4_lineOf 106 = .ok (.iaload, 1) := by decide +kernel
theorem dX4_lineOf_107 : decode cX4_lineOf 107 = .ok (.ireturn, 1) := by decide +kernel
theorem dX4_lineOf_108 : decode cX4_lineOf 108 = .ok (.aload_n 0, 1) := by decide +kernel
theorem dX4_lineOf_109 : decode cX4_lineOf 109 = .ok (.invokevirtual 116, 3) := by decide +kernel
theorem dX4_lineOf_112 : decode cX4_lineOf 112 = .ok (.getfield 120, 3) := by decide +kernel
theorem dX4_lineOf_115 : decode cX4_lineOf 115 = .ok (.iload_n 1, 1) := by decide +kernel
theorem dX4_lineOf_116 : decode cX4_lineOf 116 = .ok (.iaload, 1) := by decide +kernel
theorem dX4_lineOf_117 : decode cX4_lineOf 117 = .ok (.ireturn, 1) := by decide +kernel
theorem dX4_lineOf_118 : decode cX4_lineOf 118 = .ok (.aload_n 0, 1) := by decide +kernel
theorem dX4_lineOf_119 : decode cX4_lineOf 119 = .ok (.invokevirtual 116, 3) := by decide +kernel
theorem dX4_lineOf_122 : decode cX4_lineOf 122 = .ok (.getfield 123, 3) := by decide +kernel
theorem dX4_lineOf_125 : decode cX4_lineOf 125 = .ok (.iload_n 1, 1) := by decide +kernel
theorem dX4_lineOf_126 : decode cX4_lineOf 126 = .ok (.iaload, 1) := by decide +kernel
theorem dX4_lineOf_127 : decode cX4_lineOf 127 = .ok (.ireturn, 1) := by decide +kernel
theorem dX4_lineOf_128 : decode cX4_lineOf 128 = .ok (.aload_n 0, 1) := by decide +kernel
theorem dX4_lineOf_129 : decode cX4_lineOf 129 = .ok (.invokevirtual 116, 3) := by decide +kernel
theorem dX4_lineOf_132 : decode cX4_lineOf 132 = .ok (.getfield 126, 3) := by decide +kernel
theorem dX4_lineOf_135 : decode cX4_lineOf 135 = .ok (.iload_n 1, 1) := by decide +kernel
theorem dX4_lineOf_136 : decode cX4_lineOf 136 = .ok (.iaload, 1) := by decide +kernel
theorem dX4_lineOf_137 : decode cX4_lineOf 137 = .ok (.invokestatic 79, 3) := by decide +kernel
theorem dX4_lineOf_140 : decode cX4_lineOf 140 = .ok (.ireturn, 1) := by decide +kernel
theorem dX4_lineOf_141 : decode cX4_lineOf 141 = .ok (.aload_n 0, 1) := by decide +kernel
theorem dX4_lineOf_142 : decode cX4_lineOf 142 = .ok (.invokevirtual 116, 3) := by decide +kernel
theorem dX4_lineOf_145 : decode cX4_lineOf 145 = .ok (.iload_n 1, 1) := by decide +kernel
theorem dX4_lineOf_146 : decode cX4_lineOf 146 = .ok (.invokevirtual 129, 3) := by decide +kernel
theorem dX4_lineOf_149 : decode cX4_lineOf 149 = .ok (.ireturn, 1) := by decide +kernel
theorem dX4_lineOf_150 : decode cX4_lineOf 150 = .ok (.aload_n 0, 1) := by decide +kernel
theorem dX4_lineOf_151 : decode cX4_lineOf 151 = .ok (.invokevirtual 116, 3) := by decide +kernel
theorem dX4_lineOf_154 : decode cX4_lineOf 154 = .ok (.getfield 132, 3) := by decide +kernel
theorem dX4_lineOf_157 : decode cX4_lineOf 157 = .ok (.iload_n 1, 1) := by decide +kernel
theorem dX4_lineOf_158 : decode cX4_lineOf 158 = .ok (.iaload, 1) := by decide +kernel
theorem dX4_lineOf_159 : decode cX4_lineOf 159 = .ok (.ireturn, 1) := by decide +kernel
theorem dX4_lineOf_160 : decode cX4_lineOf 160 = .ok (.aload_n 0, 1) := by decide +kernel
theorem dX4_lineOf_161 : decode cX4_lineOf 161 = .ok (.invokevirtual 116, 3) := by decide +kernel
theorem dX4_lineOf_164 : decode cX4_lineOf 164 = .ok (.getfield 135, 3) := by decide +kernel
theorem dX4_lineOf_167 : decode cX4_lineOf 167 = .ok (.iload_n 1, 1) := by decide +kernel
theorem dX4_lineOf_168 : decode cX4_lineOf 168 = .ok (.iaload, 1) := by decide +kernel
theorem dX4_lineOf_169 : decode cX4_lineOf 169 = .ok (.ireturn, 1) := by decide +kernel
theorem dX4_lineOf_170 : decode cX4_lineOf 170 = .ok (.iconst (-1), 1) := by decide +kernel
theorem dX4_lineOf_171 : decode cX4_lineOf 171 = .ok (.ireturn, 1) := by decide +kernel
def t_X4_lineOf_170 : am_T := tb_const (-1) <|
  tb_iret
def t_X4_lineOf_160 : am_T := tb_aload 0 <|
  tb_callV 4 sp_X4_currentThreads 1 <|
  tb_getR 3 3 <|
  tb_iload 1 <|
  tb_iald <|
  tb_iret
def t_X4_lineOf_150 : am_T := tb_aload 0 <|
  tb_callV 4 sp_X4_currentThreads 1 <|
  tb_getR 3 10 <|
  tb_iload 1 <|
  tb_iald <|
  tb_iret
def t_X4_lineOf_141 : am_T := tb_aload 0 <|
  tb_callV 4 sp_X4_currentThreads 1 <|
  tb_iload 1 <|
  tb_callV 3 sp_X3_answersTo 2 <|
  tb_iret
def t_X4_lineOf_128 : am_T := tb_aload 0 <|
  tb_callV 4 sp_X4_currentThreads 1 <|
  tb_getR 3 9 <|
  tb_iload 1 <|
  tb_iald <|
  tb_callS sp_X4_orNotFound 1 <|
  tb_iret
def t_X4_lineOf_118 : am_T := tb_aload 0 <|
  tb_callV 4 sp_X4_currentThreads 1 <|
  tb_getR 3 13 <|
  tb_iload 1 <|
  tb_iald <|
  tb_iret
def t_X4_lineOf_108 : am_T := tb_aload 0 <|
  tb_callV 4 sp_X4_currentThreads 1 <|
  tb_getR 3 2 <|
  tb_iload 1 <|
  tb_iald <|
  tb_iret
def t_X4_lineOf_98 : am_T := tb_aload 0 <|
  tb_getR 4 1 <|
  tb_getR 1 8 <|
  tb_iload 1 <|
  tb_iald <|
  tb_iret
def t_X4_lineOf_88 : am_T := tb_aload 0 <|
  tb_getR 4 1 <|
  tb_getR 1 7 <|
  tb_iload 1 <|
  tb_iald <|
  tb_iret
def t_X4_lineOf_78 : am_T := tb_aload 0 <|
  tb_getR 4 1 <|
  tb_getR 1 6 <|
  tb_iload 1 <|
  tb_iald <|
  tb_iret
def t_X4_lineOf_68 : am_T := tb_aload 0 <|
  tb_getR 4 1 <|
  tb_getR 1 5 <|
  tb_iload 1 <|
  tb_iald <|
  tb_iret
def w_X4_lineOf_14 : Nat → am_T := fun j => match j with
    | 0 => t_X4_lineOf_68
    | 1 => t_X4_lineOf_78
    | 2 => t_X4_lineOf_88
    | 3 => t_X4_lineOf_98
    | 4 => t_X4_lineOf_108
    | 5 => t_X4_lineOf_118
    | 6 => t_X4_lineOf_128
    | 7 => t_X4_lineOf_141
    | 8 => t_X4_lineOf_150
    | 9 => t_X4_lineOf_160
    | _ => tb_bad
def v_X4_lineOf_14 : Nat → Nat := fun j => match j with
    | 0 => 68
    | 1 => 78
    | 2 => 88
    | 3 => 98
    | 4 => 108
    | 5 => 118
    | 6 => 128
    | 7 => 141
    | 8 => 150
    | 9 => 160
    | _ => 0
def t_X4_lineOf_13 : am_T := tb_iload 2 <|
  tb_sw 0 9 w_X4_lineOf_14 (t_X4_lineOf_170)
def t_X4_lineOf_0 : am_T := tb_aload 0 <|
  tb_getR 4 1 <|
  tb_iload 1 <|
  tb_callV 1 sp_X1_isLine 2 <|
  tb_if (fun x => x ≠ 0) (t_X4_lineOf_13) <|
  tb_const (-1) <|
  tb_iret
def h_X4_lineOf : am_Hd := fun h => if h = 0 then t_X4_lineOf_0 else tb_bad
theorem h_X4_lineOf_0 : h_X4_lineOf 0 = t_X4_lineOf_0 := rfl
def rm_X4_lineOf : Room := { frames := 6, cells := 0, slots := 0, locals := 133 }
def sp_X4_lineOf : am_sp := fun as M Q => as.length ≤ 3 ∧ am_OK h_X4_lineOf Q 0 (am_in 3 as) M
theorem s_X4_lineOf_170 {G : am_G} {bc bs : Nat} (X : am_Cx G cX4_lineOf RX4 "lineOf" rm_X4_lineOf (some .int) 3 bc bs true) : am_S G 170 (t_X4_lineOf_170) := by
  unfold t_X4_lineOf_170
  refine as_iconst (pc := 170) X dX4_lineOf_170 (by decide) ?_
  exact as_iret (pc := 171) X ⟨rfl, rfl⟩ rfl dX4_lineOf_171
theorem s_X4_lineOf_160 {G : am_G} {bc bs : Nat} (X : am_Cx G cX4_lineOf RX4 "lineOf" rm_X4_lineOf (some .int) 3 bc bs true) : am_S G 160 (t_X4_lineOf_160) := by
  unfold t_X4_lineOf_160
  refine as_aload_n (pc := 160) X dX4_lineOf_160 rfl ?_
  refine as_callV (ci := 4) (np := 0) (ix := 116) (pc := 161) X ct_X4_currentThreads (Cn := (RX4, TX4, 7)) rfl ⟨rfl, rfl⟩ aw_389 aw_391 aw_2 aw_392 aw_59 (by decide +kernel) (by decide) dX4_lineOf_161 ?_
  refine as_getR (ci := 3) (j := 3) (pc := 164) X (Cn := RX3) (Tf := TX3) (N := 17) rfl rfl (by decide) iw_X3 aw_166 rfl dX4_lineOf_164 ?_
  refine as_iload_n (pc := 167) X dX4_lineOf_167 rfl ?_
  refine as_iald (pc := 168) X dX4_lineOf_168 ?_
  exact as_iret (pc := 169) X ⟨rfl, rfl⟩ rfl dX4_lineOf_169
theorem s_X4_lineOf_150 {G : am_G} {bc bs : Nat} (X : am_Cx G cX4_lineOf RX4 "lineOf" rm_X4_lineOf (some .int) 3 bc bs true) : am_S G 150 (t_X4_lineOf_150) := by
  unfold t_X4_lineOf_150
  refine as_aload_n (pc := 150) X dX4_lineOf_150 rfl ?_
  refine as_callV (ci := 4) (np := 0) (ix := 116) (pc := 151) X ct_X4_currentThreads (Cn := (RX4, TX4, 7)) rfl ⟨rfl, rfl⟩ aw_389 aw_391 aw_2 aw_392 aw_59 (by decide +kernel) (by decide) dX4_lineOf_151 ?_
  refine as_getR (ci := 3) (j := 10) (pc := 154) X (Cn := RX3) (Tf := TX3) (N := 17) rfl rfl (by decide) iw_X3 aw_175 rfl dX4_lineOf_154 ?_
  refine as_iload_n (pc := 157) X dX4_lineOf_157 rfl ?_
  refine as_iald (pc := 158) X dX4_lineOf_158 ?_
  exact as_iret (pc := 159) X ⟨rfl, rfl⟩ rfl dX4_lineOf_159
theorem s_X4_lineOf_141 {G : am_G} {bc bs : Nat} (X : am_Cx G cX4_lineOf RX4 "lineOf" rm_X4_lineOf (some .int) 3 bc bs true) : am_S G 141 (t_X4_lineOf_141) := by
  unfold t_X4_lineOf_141
  refine as_aload_n (pc := 141) X dX4_lineOf_141 rfl ?_
  refine as_callV (ci := 4) (np := 0) (ix := 116) (pc := 142) X ct_X4_currentThreads (Cn := (RX4, TX4, 7)) rfl ⟨rfl, rfl⟩ aw_389 aw_391 aw_2 aw_392 aw_59 (by decide +kernel) (by decide) dX4_lineOf_142 ?_
  refine as_iload_n (pc := 145) X dX4_lineOf_145 rfl ?_
  refine as_callV (ci := 3) (np := 1) (ix := 129) (pc := 146) X ct_X3_answersTo (Cn := (RX3, TX3, 17)) rfl ⟨rfl, rfl⟩ aw_485 aw_486 aw_487 aw_488 aw_60 (by decide +kernel) (by decide) dX4_lineOf_146 ?_
  exact as_iret (pc := 149) X ⟨rfl, rfl⟩ rfl dX4_lineOf_149
theorem s_X4_lineOf_128 {G : am_G} {bc bs : Nat} (X : am_Cx G cX4_lineOf RX4 "lineOf" rm_X4_lineOf (some .int) 3 bc bs true) : am_S G 128 (t_X4_lineOf_128) := by
  unfold t_X4_lineOf_128
  refine as_aload_n (pc := 128) X dX4_lineOf_128 rfl ?_
  refine as_callV (ci := 4) (np := 0) (ix := 116) (pc := 129) X ct_X4_currentThreads (Cn := (RX4, TX4, 7)) rfl ⟨rfl, rfl⟩ aw_389 aw_391 aw_2 aw_392 aw_59 (by decide +kernel) (by decide) dX4_lineOf_129 ?_
  refine as_getR (ci := 3) (j := 9) (pc := 132) X (Cn := RX3) (Tf := TX3) (N := 17) rfl rfl (by decide) iw_X3 aw_173 rfl dX4_lineOf_132 ?_
  refine as_iload_n (pc := 135) X dX4_lineOf_135 rfl ?_
  refine as_iald (pc := 136) X dX4_lineOf_136 ?_
  refine as_callS (np := 1) (ix := 79) (pc := 137) X ct_X4_orNotFound ⟨rfl, rfl⟩ aw_347 aw_348 aw_349 aw_59 (by decide +kernel) (by decide) dX4_lineOf_137 ?_
  exact as_iret (pc := 140) X ⟨rfl, rfl⟩ rfl dX4_lineOf_140
theorem s_X4_lineOf_118 {G : am_G} {bc bs : Nat} (X : am_Cx G cX4_lineOf RX4 "lineOf" rm_X4_lineOf (some .int) 3 bc bs true) : am_S G 118 (t_X4_lineOf_118) := by
  unfold t_X4_lineOf_118
  refine as_aload_n (pc := 118) X dX4_lineOf_118 rfl ?_
  refine as_callV (ci := 4) (np := 0) (ix := 116) (pc := 119) X ct_X4_currentThreads (Cn := (RX4, TX4, 7)) rfl ⟨rfl, rfl⟩ aw_389 aw_391 aw_2 aw_392 aw_59 (by decide +kernel) (by decide) dX4_lineOf_119 ?_
  refine as_getR (ci := 3) (j := 13) (pc := 122) X (Cn := RX3) (Tf := TX3) (N := 17) rfl rfl (by decide) iw_X3 aw_179 rfl dX4_lineOf_122 ?_
  refine as_iload_n (pc := 125) X dX4_lineOf_125 rfl ?_
  refine as_iald (pc := 126) X dX4_lineOf_126 ?_
  exact as_iret (pc := 127) X ⟨rfl, rfl⟩ rfl dX4_lineOf_127
theorem s_X4_lineOf_108 {G : am_G} {bc bs : Nat} (X : am_Cx G cX4_lineOf RX4 "lineOf" rm_X4_lineOf (some .int) 3 bc bs true) : am_S G 108 (t_X4_lineOf_108) := by
  unfold t_X4_lineOf_108
  refine as_aload_n (pc := 108) X dX4_lineOf_108 rfl ?_
  refine as_callV (ci := 4) (np := 0) (ix := 116) (pc := 109) X ct_X4_currentThreads (Cn := (RX4, TX4, 7)) rfl ⟨rfl, rfl⟩ aw_389 aw_391 aw_2 aw_392 aw_59 (by decide +kernel) (by decide) dX4_lineOf_109 ?_
  refine as_getR (ci := 3) (j := 2) (pc := 112) X (Cn := RX3) (Tf := TX3) (N := 17) rfl rfl (by decide) iw_X3 aw_164 rfl dX4_lineOf_112 ?_
  refine as_iload_n (pc := 115) X dX4_lineOf_115 rfl ?_
  refine as_iald (pc := 116) X dX4_lineOf_116 ?_
  exact as_iret (pc := 117) X ⟨rfl, rfl⟩ rfl dX4_lineOf_117
theorem s_X4_lineOf_98 {G : am_G} {bc bs : Nat} (X : am_Cx G cX4_lineOf RX4 "lineOf" rm_X4_lineOf (some .int) 3 bc bs true) : am_S G 98 (t_X4_lineOf_98) := by
  unfold t_X4_lineOf_98
  refine as_aload_n (pc := 98) X dX4_lineOf_98 rfl ?_
  refine as_getR (ci := 4) (j := 1) (pc := 99) X (Cn := RX4) (Tf := TX4) (N := 7) rfl rfl (by decide) iw_X4 aw_275 rfl dX4_lineOf_99 ?_
  refine as_getR (ci := 1) (j := 8) (pc := 102) X (Cn := RX1) (Tf := TX1) (N := 14) rfl rfl (by decide) iw_X1 aw_112 rfl dX4_lineOf_102 ?_
  refine as_iload_n (pc := 105) X dX4_lineOf_105 rfl ?_
  refine as_iald (pc := 106) X dX4_lineOf_106 ?_
  exact as_iret (pc := 107) X ⟨rfl, rfl⟩ rfl dX4_lineOf_107
theorem s_X4_lineOf_88 {G : am_G} {bc bs : Nat} (X : am_Cx G cX4_lineOf RX4 "lineOf" rm_X4_lineOf (some .int) 3 bc bs true) : am_S G 88 (t_X4_lineOf_88) := by
  unfold t_X4_lineOf_88
  refine as_aload_n (pc := 88) X dX4_lineOf_88 rfl ?_
  refine as_getR (ci := 4) (j := 1) (pc := 89) X (Cn := RX4) (Tf := TX4) (N := 7) rfl rfl (by decide) iw_X4 aw_275 rfl dX4_lineOf_89 ?_
  refine as_getR (ci := 1) (j := 7) (pc := 92) X (Cn := RX1) (Tf := TX1) (N := 14) rfl rfl (by decide) iw_X1 aw_109 rfl dX4_lineOf_92 ?_
  refine as_iload_n (pc := 95) X dX4_lineOf_95 rfl ?_
  refine as_iald (pc := 96) X dX4_lineOf_96 ?_
  exact as_iret (pc := 97) X ⟨rfl, rfl⟩ rfl dX4_lineOf_97
theorem s_X4_lineOf_78 {G : am_G} {bc bs : Nat} (X : am_Cx G cX4_lineOf RX4 "lineOf" rm_X4_lineOf (some .int) 3 bc bs true) : am_S G 78 (t_X4_lineOf_78) := by
  unfold t_X4_lineOf_78
  refine as_aload_n (pc := 78) X dX4_lineOf_78 rfl ?_
  refine as_getR (ci := 4) (j := 1) (pc := 79) X (Cn := RX4) (Tf := TX4) (N := 7) rfl rfl (by decide) iw_X4 aw_275 rfl dX4_lineOf_79 ?_
  refine as_getR (ci := 1) (j := 6) (pc := 82) X (Cn := RX1) (Tf := TX1) (N := 14) rfl rfl (by decide) iw_X1 aw_107 rfl dX4_lineOf_82 ?_
  refine as_iload_n (pc := 85) X dX4_lineOf_85 rfl ?_
  refine as_iald (pc := 86) X dX4_lineOf_86 ?_
  exact as_iret (pc := 87) X ⟨rfl, rfl⟩ rfl dX4_lineOf_87
theorem s_X4_lineOf_68 {G : am_G} {bc bs : Nat} (X : am_Cx G cX4_lineOf RX4 "lineOf" rm_X4_lineOf (some .int) 3 bc bs true) : am_S G 68 (t_X4_lineOf_68) := by
  unfold t_X4_lineOf_68
  refine as_aload_n (pc := 68) X dX4_lineOf_68 rfl ?_
  refine as_getR (ci := 4) (j := 1) (pc := 69) X (Cn := RX4) (Tf := TX4) (N := 7) rfl rfl (by decide) iw_X4 aw_275 rfl dX4_lineOf_69 ?_
  refine as_getR (ci := 1) (j := 5) (pc := 72) X (Cn := RX1) (Tf := TX1) (N := 14) rfl rfl (by decide) iw_X1 aw_104 rfl dX4_lineOf_72 ?_
  refine as_iload_n (pc := 75) X dX4_lineOf_75 rfl ?_
  refine as_iald (pc := 76) X dX4_lineOf_76 ?_
  exact as_iret (pc := 77) X ⟨rfl, rfl⟩ rfl dX4_lineOf_77
theorem s_X4_lineOf_13 {G : am_G} {bc bs : Nat} (X : am_Cx G cX4_lineOf RX4 "lineOf" rm_X4_lineOf (some .int) 3 bc bs true) : am_S G 13 (t_X4_lineOf_13) := by
  unfold t_X4_lineOf_13
  refine as_iload_n (pc := 13) X dX4_lineOf_13 rfl ?_
  refine as_sw (pc := 14) X dX4_lineOf_14 v_X4_lineOf_14 170 (by decide) (fun j hj => ?_) (s_X4_lineOf_170 X)
  match j, hj with
  | 0, _ => exact ⟨54, rfl, by decide, s_X4_lineOf_68 X⟩
  | 1, _ => exact ⟨64, rfl, by decide, s_X4_lineOf_78 X⟩
  | 2, _ => exact ⟨74, rfl, by decide, s_X4_lineOf_88 X⟩
  | 3, _ => exact ⟨84, rfl, by decide, s_X4_lineOf_98 X⟩
  | 4, _ => exact ⟨94, rfl, by decide, s_X4_lineOf_108 X⟩
  | 5, _ => exact ⟨104, rfl, by decide, s_X4_lineOf_118 X⟩
  | 6, _ => exact ⟨114, rfl, by decide, s_X4_lineOf_128 X⟩
  | 7, _ => exact ⟨127, rfl, by decide, s_X4_lineOf_141 X⟩
  | 8, _ => exact ⟨136, rfl, by decide, s_X4_lineOf_150 X⟩
  | 9, _ => exact ⟨146, rfl, by decide, s_X4_lineOf_160 X⟩
  | j + 10, hj => exact absurd hj (by omega)
theorem s_X4_lineOf_0 {G : am_G} {bc bs : Nat} (X : am_Cx G cX4_lineOf RX4 "lineOf" rm_X4_lineOf (some .int) 3 bc bs true) : am_S G 0 (t_X4_lineOf_0) := by
  unfold t_X4_lineOf_0
  refine as_aload_n (pc := 0) X dX4_lineOf_0 rfl ?_
  refine as_getR (ci := 4) (j := 1) (pc := 1) X (Cn := RX4) (Tf := TX4) (N := 7) rfl rfl (by decide) iw_X4 aw_275 rfl dX4_lineOf_1 ?_
  refine as_iload_n (pc := 4) X dX4_lineOf_4 rfl ?_
  refine as_callV (ci := 1) (np := 1) (ix := 93) (pc := 5) X ct_X1_isLine (Cn := (RX1, TX1, 14)) rfl ⟨rfl, rfl⟩ aw_370 aw_371 aw_372 aw_373 aw_61 (by decide +kernel) (by decide) dX4_lineOf_5 ?_
  refine as_if_ne (pc := 8) X 13 dX4_lineOf_8 (by decide) (s_X4_lineOf_13 X) ?_
  refine as_iconst (pc := 11) X dX4_lineOf_11 (by decide) ?_
  exact as_iret (pc := 12) X ⟨rfl, rfl⟩ rfl dX4_lineOf_12
theorem s_X4_lineOf {G : am_G} {bc bs : Nat} (X : am_Cx G cX4_lineOf RX4 "lineOf" rm_X4_lineOf (some .int) 3 bc bs true) (h : Nat) : am_S G h (h_X4_lineOf h) := by
  unfold h_X4_lineOf
  split
  · next e => rw [e]; exact s_X4_lineOf_0 X
  exact as_bad
theorem ct_X4_lineOf : am_Ct yX4_lineOf cX4_lineOf 3 (some .int) rm_X4_lineOf sp_X4_lineOf := am_met (own := RX4) (nm := "lineOf") (by decide) rfl rfl (Or.inr (Or.inl rfl)) (fun _ _ => h_X4_lineOf) (fun _ _ _ X => s_X4_lineOf X) (fun _ _ _ _ h => h)
-- X5_of
theorem dX5_of_0 : decode cX5_of 0 = .ok (.aload_n 0, 1) := by decide +kernel
theorem dX5_of_1 : decode cX5_of 1 = .ok (.bipush 71, 2) := by decide +kernel
theorem dX5_of_3 : decode cX5_of 3 = .ok (.iconst 4, 1) := by decide +kernel
theorem dX5_of_4 : decode cX5_of 4 = .ok (.iload_n 1, 1) := by decide +kernel
theorem dX5_of_5 : decode cX5_of 5 = .ok (.imul, 1) := by decide +kernel
theorem dX5_of_6 : decode cX5_of 6 = .ok (.iadd, 1) := by decide +kernel
theorem dX5_of_7 : decode cX5_of 7 = .ok (.iload_n 2, 1) := by decide +kernel
theorem dX5_of_8 : decode cX5_of 8 = .ok (.iadd, 1) := by decide +kernel
theorem dX5_of_9 : decode cX5_of 9 = .ok (.iaload, 1) := by decide +kernel
theorem dX5_of_10 : decode cX5_of 10 = .ok (.ireturn, 1) := by decide +kernel
def t_X5_of_0 : am_T := tb_aload 0 <|
  tb_const 71 <|
  tb_const 4 <|
  tb_iload 1 <|
  tb_bin (fun x y => x * y) <|
  tb_bin (fun x y => x + y) <|
  tb_iload 2 <|
  tb_bin (fun x y => x + y) <|
  tb_iald <|
  tb_iret
def h_X5_of : am_Hd := fun h => if h = 0 then t_X5_of_0 else tb_bad
theorem h_X5_of_0 : h_X5_of 0 = t_X5_of_0 := rfl
def rm_X5_of : Room := { frames := 0, cells := 0, slots := 0, locals := 0 }
def sp_X5_of : am_sp := fun as M Q => as.length ≤ 3 ∧ am_OK h_X5_of Q 0 (am_in 3 as) M
theorem s_X5_of_0 {G : am_G} {bc bs : Nat} (X : am_Cx G cX5_of RX5 "of" rm_X5_of (some .int) 3 bc bs true) : am_S G 0 (t_X5_of_0) := by
  unfold t_X5_of_0
  refine as_aload_n (pc := 0) X dX5_of_0 rfl ?_
  refine as_bipush (pc := 1) X dX5_of_1 (by decide) ?_
  refine as_iconst (pc := 3) X dX5_of_3 (by decide) ?_
  refine as_iload_n (pc := 4) X dX5_of_4 rfl ?_
  refine as_imul (pc := 5) X dX5_of_5 ?_
  refine as_iadd (pc := 6) X dX5_of_6 ?_
  refine as_iload_n (pc := 7) X dX5_of_7 rfl ?_
  refine as_iadd (pc := 8) X dX5_of_8 ?_
  refine as_iald (pc := 9) X dX5_of_9 ?_
  exact as_iret (pc := 10) X ⟨rfl, rfl⟩ rfl dX5_of_10
theorem s_X5_of {G : am_G} {bc bs : Nat} (X : am_Cx G cX5_of RX5 "of" rm_X5_of (some .int) 3 bc bs true) (h : Nat) : am_S G h (h_X5_of h) := by
  unfold h_X5_of
  split
  · next e => rw [e]; exact s_X5_of_0 X
  exact as_bad
theorem ct_X5_of : am_Ct yX5_of cX5_of 3 (some .int) rm_X5_of sp_X5_of := am_met (own := RX5) (nm := "of") (by decide) rfl rfl (Or.inr (Or.inl rfl)) (fun _ _ => h_X5_of) (fun _ _ _ X => s_X5_of X) (fun _ _ _ _ h => h)
-- X5_speaksTo
theorem dX5_speaksTo_0 : decode cX5_speaksTo 0 = .ok (.iconst 0, 1) := by decide +kernel
theorem dX5_speaksTo_1 : decode cX5_speaksTo 1 = .ok (.istore_n 2, 1) := by decide +kernel
theorem dX5_speaksTo_2 : decode cX5_speaksTo 2 = .ok (.iconst 0, 1) := by decide +kernel
theorem dX5_speaksTo_3 : decode cX5_speaksTo 3 = .ok (.istore_n 3, 1) := by decide +kernel
theorem dX5_speaksTo_4 : decode cX5_speaksTo 4 = .ok (.iload_n 3, 1) := by decide +kernel
theorem dX5_speaksTo_5 : decode cX5_speaksTo 5 = .ok (.bipush 12, 2) := by decide +kernel
theorem dX5_speaksTo_7 : decode cX5_speaksTo 7 = .ok (.if_icmp .ge 54, 3) := by decide +kernel
theorem dX5_speaksTo_10 : decode cX5_speaksTo 10 = .ok (.aload_n 0, 1) := by decide +kernel
theorem dX5_speaksTo_11 : decode cX5_speaksTo 11 = .ok (.iload_n 3, 1) := by decide +kernel
theorem dX5_speaksTo_12 : decode cX5_speaksTo 12 = .ok (.aload_n 0, 1) := by decide +kernel
theorem dX5_speaksTo_13 : decode cX5_speaksTo 13 = .ok (.iload_n 1, 1) := by decide +kernel
theorem dX5_speaksTo_14 : decode cX5_speaksTo 14 = .ok (.iconst 0, 1) := by decide +kernel
theorem dX5_speaksTo_15 : decode cX5_speaksTo 15 = .ok (.invokestatic 71, 3) := by decide +kernel
theorem dX5_speaksTo_18 : decode cX5_speaksTo 18 = .ok (.invokestatic 56, 3) := by decide +kernel
theorem dX5_speaksTo_21 : decode cX5_speaksTo 21 = .ok (.istore 4, 2) := by decide +kernel
theorem dX5_speaksTo_23 : decode cX5_speaksTo 23 = .ok (.iload_n 2, 1) := by decide +kernel
theorem dX5_speaksTo_24 : decode cX5_speaksTo 24 = .ok (.iload 4, 2) := by decide +kernel
theorem dX5_speaksTo_26 : decode cX5_speaksTo 26 = .ok (.bipush (-4), 2) := by decide +kernel
theorem dX5_speaksTo_28 : decode cX5_speaksTo 28 = .ok (.if_icmp .eq 24, 3) := by decide +kernel
theorem dX5_speaksTo_31 : decode cX5_speaksTo 31 = .ok (.aload_n 0, 1) := by decide +kernel
theorem dX5_speaksTo_32 : decode cX5_speaksTo 32 = .ok (.iload_n 1, 1) := by decide +kernel
theorem dX5_speaksTo_33 : decode cX5_speaksTo 33 = .ok (.iconst 2, 1) := by decide +kernel
theorem dX5_speaksTo_34 : decode cX5_speaksTo 34 = .ok (.invokestatic 71, 3) := by decide +kernel
theorem dX5_speaksTo_37 : decode cX5_speaksTo 37 = .ok (.iload 4, 2) := by decide +kernel
theorem dX5_speaksTo_39 : decode cX5_speaksTo 39 = .ok (.ishr, 1) := by decide +kernel
theorem dX5_speaksTo_40 : decode cX5_speaksTo 40 = .ok (.iconst 1, 1) := by decide +kernel
theorem dX5_speaksTo_41 : decode cX5_speaksTo 41 = .ok (.iand, 1) := by decide +kernel
theorem dX5_speaksTo_42 : decode cX5_speaksTo 42 = .ok (.iconst 1, 1) := by decide +kernel
theorem dX5_speaksTo_43 : decode cX5_speaksTo 43 = .ok (.if_icmp .ne 9, 3) := by decide +kernel
theorem dX5_speaksTo_46 : decode cX5_speaksTo 46 = .ok (.iconst 1, 1) := by decide +kernel
theorem dX5_speaksTo_47 : decode cX5_speaksTo 47 = .ok (.iload_n 3, 1) := by decide +kernel
theorem dX5_speaksTo_48 : decode cX5_speaksTo 48 = .ok (.ishl, 1) := by decide +kernel
theorem dX5_speaksTo_49 : decode cX5_speaksTo 49 = .ok (.goto 4, 3) := by decide +kernel
theorem dX5_speaksTo_52 : decode cX5_speaksTo 52 = .ok (.iconst 0, 1) := by decide +kernel
theorem dX5_speaksTo_53 : decode cX5_speaksTo 53 = .ok (.ior, 1) := by decide +kernel
theorem dX5_speaksTo_54 : decode cX5_speaksTo 54 = .ok (.istore_n 2, 1) := by decide +kernel
theorem dX5_speaksTo_55 : decode cX5_speaksTo 55 = .ok (.iinc 3 1, 3) := by decide +kernel
theorem dX5_speaksTo_58 : decode cX5_speaksTo 58 = .ok (.goto (-54), 3) := by decide +kernel
theorem dX5_speaksTo_61 : decode cX5_speaksTo 61 = .ok (.iload_n 2, 1) := by decide +kernel
theorem dX5_speaksTo_62 : decode cX5_speaksTo 62 = .ok (.ireturn, 1) := by decide +kernel
def t_X5_speaksTo_61 : am_T := tb_iload 2 <|
  tb_iret
def t_X5_speaksTo_53 : am_T := tb_bin (fun x y => x ||| y) <|
  tb_istore 2 <|
  tb_iinc 3 1 <|
  tb_head 4
def t_X5_speaksTo_52 : am_T := tb_const 0 <|
  t_X5_speaksTo_53
def t_X5_speaksTo_4 : am_T := tb_iload 3 <|
  tb_const 12 <|
  tb_ic (fun x y => y ≤ x) (t_X5_speaksTo_61) <|
  tb_aload 0 <|
  tb_iload 3 <|
  tb_aload 0 <|
  tb_iload 1 <|
  tb_const 0 <|
  tb_callS sp_X5_of 3 <|
  tb_callS sp_X5_nameAt 3 <|
  tb_istore 4 <|
  tb_iload 2 <|
  tb_iload 4 <|
  tb_const (-4) <|
  tb_ic (fun x y => x = y) (t_X5_speaksTo_52) <|
  tb_aload 0 <|
  tb_iload 1 <|
  tb_const 2 <|
  tb_callS sp_X5_of 3 <|
  tb_iload 4 <|
  tb_bin (fun x y => x >>> (y &&& 31)) <|
  tb_const 1 <|
  tb_bin (fun x y => x &&& y) <|
  tb_const 1 <|
  tb_ic (fun x y => x ≠ y) (t_X5_speaksTo_52) <|
  tb_const 1 <|
  tb_iload 3 <|
  tb_bin (fun x y => x <<< (y &&& 31)) <|
  t_X5_speaksTo_53
def t_X5_speaksTo_0 : am_T := tb_const 0 <|
  tb_istore 2 <|
  tb_const 0 <|
  tb_istore 3 <|
  tb_head 4
def h_X5_speaksTo : am_Hd := fun h => if h = 0 then t_X5_speaksTo_0 else if h = 4 then t_X5_speaksTo_4 else tb_bad
theorem h_X5_speaksTo_0 : h_X5_speaksTo 0 = t_X5_speaksTo_0 := rfl
theorem h_X5_speaksTo_4 : h_X5_speaksTo 4 = t_X5_speaksTo_4 := rfl
def rm_X5_speaksTo : Room := { frames := 1, cells := 0, slots := 0, locals := 25 }
def sp_X5_speaksTo : am_sp := fun as M Q => as.length ≤ 5 ∧ am_OK h_X5_speaksTo Q 0 (am_in 5 as) M
theorem s_X5_speaksTo_61 {G : am_G} {bc bs : Nat} (X : am_Cx G cX5_speaksTo RX5 "speaksTo" rm_X5_speaksTo (some .int) 5 bc bs true) : am_S G 61 (t_X5_speaksTo_61) := by
  unfold t_X5_speaksTo_61
  refine as_iload_n (pc := 61) X dX5_speaksTo_61 rfl ?_
  exact as_iret (pc := 62) X ⟨rfl, rfl⟩ rfl dX5_speaksTo_62
theorem s_X5_speaksTo_53 {G : am_G} {bc bs : Nat} (X : am_Cx G cX5_speaksTo RX5 "speaksTo" rm_X5_speaksTo (some .int) 5 bc bs true) : am_S G 53 (t_X5_speaksTo_53) := by
  unfold t_X5_speaksTo_53
  refine as_ior (pc := 53) X dX5_speaksTo_53 ?_
  refine as_istore_n (pc := 54) X dX5_speaksTo_54 rfl ?_ (by decide)
  refine as_iinc (pc := 55) X dX5_speaksTo_55 (by decide) (by decide) ?_
  exact as_goto (pc := 58) X 4 dX5_speaksTo_58 (by decide) (as_head)
theorem s_X5_speaksTo_52 {G : am_G} {bc bs : Nat} (X : am_Cx G cX5_speaksTo RX5 "speaksTo" rm_X5_speaksTo (some .int) 5 bc bs true) : am_S G 52 (t_X5_speaksTo_52) := by
  unfold t_X5_speaksTo_52
  refine as_iconst (pc := 52) X dX5_speaksTo_52 (by decide) ?_
  exact s_X5_speaksTo_53 X
theorem s_X5_speaksTo_4 {G : am_G} {bc bs : Nat} (X : am_Cx G cX5_speaksTo RX5 "speaksTo" rm_X5_speaksTo (some .int) 5 bc bs true) : am_S G 4 (t_X5_speaksTo_4) := by
  unfold t_X5_speaksTo_4
  refine as_iload_n (pc := 4) X dX5_speaksTo_4 rfl ?_
  refine as_bipush (pc := 5) X dX5_speaksTo_5 (by decide) ?_
  refine as_ic_ge (pc := 7) X 61 dX5_speaksTo_7 (by decide) (s_X5_speaksTo_61 X) ?_
  refine as_aload_n (pc := 10) X dX5_speaksTo_10 rfl ?_
  refine as_iload_n (pc := 11) X dX5_speaksTo_11 rfl ?_
  refine as_aload_n (pc := 12) X dX5_speaksTo_12 rfl ?_
  refine as_iload_n (pc := 13) X dX5_speaksTo_13 rfl ?_
  refine as_iconst (pc := 14) X dX5_speaksTo_14 (by decide) ?_
  refine as_callS (np := 3) (ix := 71) (pc := 15) X ct_X5_of ⟨rfl, rfl⟩ aw_873 aw_874 aw_875 aw_65 (by decide +kernel) (by decide) dX5_speaksTo_15 ?_
  refine as_callS (np := 3) (ix := 56) (pc := 18) X ct_X5_nameAt ⟨rfl, rfl⟩ aw_813 aw_814 aw_815 aw_65 (by decide +kernel) (by decide) dX5_speaksTo_18 ?_
  refine as_istore (pc := 21) X dX5_speaksTo_21 ?_ (by decide)
  refine as_iload_n (pc := 23) X dX5_speaksTo_23 rfl ?_
  refine as_iload (pc := 24) X dX5_speaksTo_24 ?_
  refine as_bipush (pc := 26) X dX5_speaksTo_26 (by decide) ?_
  refine as_ic_eq (pc := 28) X 52 dX5_speaksTo_28 (by decide) (s_X5_speaksTo_52 X) ?_
  refine as_aload_n (pc := 31) X dX5_speaksTo_31 rfl ?_
  refine as_iload_n (pc := 32) X dX5_speaksTo_32 rfl ?_
  refine as_iconst (pc := 33) X dX5_speaksTo_33 (by decide) ?_
  refine as_callS (np := 3) (ix := 71) (pc := 34) X ct_X5_of ⟨rfl, rfl⟩ aw_873 aw_874 aw_875 aw_65 (by decide +kernel) (by decide) dX5_speaksTo_34 ?_
  refine as_iload (pc := 37) X dX5_speaksTo_37 ?_
  refine as_ishr (pc := 39) X dX5_speaksTo_39 ?_
  refine as_iconst (pc := 40) X dX5_speaksTo_40 (by decide) ?_
  refine as_iand (pc := 41) X dX5_speaksTo_41 ?_
  refine as_iconst (pc := 42) X dX5_speaksTo_42 (by decide) ?_
  refine as_ic_ne (pc := 43) X 52 dX5_speaksTo_43 (by decide) (s_X5_speaksTo_52 X) ?_
  refine as_iconst (pc := 46) X dX5_speaksTo_46 (by decide) ?_
  refine as_iload_n (pc := 47) X dX5_speaksTo_47 rfl ?_
  refine as_ishl (pc := 48) X dX5_speaksTo_48 ?_
  exact as_goto (pc := 49) X 53 dX5_speaksTo_49 (by decide) (s_X5_speaksTo_53 X)
theorem s_X5_speaksTo_0 {G : am_G} {bc bs : Nat} (X : am_Cx G cX5_speaksTo RX5 "speaksTo" rm_X5_speaksTo (some .int) 5 bc bs true) : am_S G 0 (t_X5_speaksTo_0) := by
  unfold t_X5_speaksTo_0
  refine as_iconst (pc := 0) X dX5_speaksTo_0 (by decide) ?_
  refine as_istore_n (pc := 1) X dX5_speaksTo_1 rfl ?_ (by decide)
  refine as_iconst (pc := 2) X dX5_speaksTo_2 (by decide) ?_
  refine as_istore_n (pc := 3) X dX5_speaksTo_3 rfl ?_ (by decide)
  exact as_head
theorem s_X5_speaksTo {G : am_G} {bc bs : Nat} (X : am_Cx G cX5_speaksTo RX5 "speaksTo" rm_X5_speaksTo (some .int) 5 bc bs true) (h : Nat) : am_S G h (h_X5_speaksTo h) := by
  unfold h_X5_speaksTo
  split
  · next e => rw [e]; exact s_X5_speaksTo_0 X
  split
  · next e => rw [e]; exact s_X5_speaksTo_4 X
  exact as_bad
theorem ct_X5_speaksTo : am_Ct yX5_speaksTo cX5_speaksTo 5 (some .int) rm_X5_speaksTo sp_X5_speaksTo := am_met (own := RX5) (nm := "speaksTo") (by decide) rfl rfl (Or.inr (Or.inl rfl)) (fun _ _ => h_X5_speaksTo) (fun _ _ _ X => s_X5_speaksTo X) (fun _ _ _ _ h => h)
-- X5_laysOrder
theorem dX5_laysOrder_0 : decode cX5_laysOrder 0 = .ok (.iconst 0, 1) := by decide +kernel
theorem dX5_laysOrder_1 : decode cX5_laysOrder 1 = .ok (.istore_n 2, 1) := by decide +kernel
theorem dX5_laysOrder_2 : decode cX5_laysOrder 2 = .ok (.iload_n 2, 1) := by decide +kernel
theorem dX5_laysOrder_3 : decode cX5_laysOrder 3 = .ok (.aload_n 1, 1) := by decide +kernel
theorem dX5_laysOrder_4 : decode cX5_laysOrder 4 = .ok (.bipush 9, 2) := by decide +kernel
theorem dX5_laysOrder_6 : decode cX5_laysOrder 6 = .ok (.iaload, 1) := by decide +kernel
theorem dX5_laysOrder_7 : decode cX5_laysOrder 7 = .ok (.if_icmp .ge 99, 3) := by decide +kernel
theorem dX5_laysOrder_10 : decode cX5_laysOrder 10 = .ok (.aload_n 0, 1) := by decide +kernel
theorem dX5_laysOrder_11 : decode cX5_laysOrder 11 = .ok (.getfield 25, 3) := by decide +kernel
theorem dX5_laysOrder_14 : decode cX5_laysOrder 14 = .ok (.iload_n 2, 1) := by decide +kernel
theorem dX5_laysOrder_15 : decode cX5_laysOrder 15 = .ok (.iconst 0, 1) := by decide +kernel
theorem dX5_laysOrder_16 : decode cX5_laysOrder 16 = .ok (.iastore, 1) := by decide +kernel
theorem dX5_laysOrder_17 : decode cX5_laysOrder 17 = .ok (.iconst 0, 1) := by decide +kernel
theorem dX5_laysOrder_18 : decode cX5_laysOrder 18 = .ok (.istore_n 3, 1) := by decide +kernel
theorem dX5_laysOrder_19 : decode cX5_laysOrder 19 = .ok (.iload_n 3, 1) := by decide +kernel
theorem dX5_laysOrder_20 : decode cX5_laysOrder 20 = .ok (.aload_n 1, 1) := by decide +kernel
theorem dX5_laysOrder_21 : decode cX5_laysOrder 21 = .ok (.bipush 9, 2) := by decide +kernel
theorem dX5_laysOrder_23 : decode cX5_laysOrder 23 = .ok (.iaload, 1) := by decide +kernel
theorem dX5_laysOrder_24 : decode cX5_laysOrder 24 = .ok (.if_icmp .ge 53, 3) := by decide +kernel
theorem dX5_laysOrder_27 : decode cX5_laysOrder 27 = .ok (.aload_n 1, 1) := by decide +kernel
theorem dX5_laysOrder_28 : decode cX5_laysOrder 28 = .ok (.iload_n 3, 1) := by decide +kernel
theorem dX5_laysOrder_29 : decode cX5_laysOrder 29 = .ok (.iconst 0, 1) := by decide +kernel
theorem dX5_laysOrder_30 : decode cX5_laysOrder 30 = .ok (.invokestatic 71, 3) := by decide +kernel
theorem dX5_laysOrder_33 : decode cX5_laysOrder 33 = .ok (.aload_n 1, 1) := by decide +kernel
theorem dX5_laysOrder_34 : decode cX5_laysOrder 34 = .ok (.iload_n 2, 1) := by decide +kernel
theorem dX5_laysOrder_35 : decode cX5_laysOrder 35 = .ok (.iconst 0, 1) := by decide +kernel
theorem dX5_laysOrder_36 : decode cX5_laysOrder 36 = .ok (.invokestatic 71, 3) := by decide +kernel
theorem dX5_laysOrder_39 : decode cX5_laysOrder 39 = .ok (.isub, 1) := by decide +kernel
theorem dX5_laysOrder_40 : decode cX5_laysOrder 40 = .ok (.istore 4, 2) := by decide +kernel
theorem dX5_laysOrder_42 : decode cX5_laysOrder 42 = .ok (.aload_n 0, 1) := by decide +kernel
theorem dX5_laysOrder_43 : decode cX5_laysOrder 43 = .ok (.getfield 25, 3) := by decide +kernel
theorem dX5_laysOrder_46 : decode cX5_laysOrder 46 = .ok (.iload_n 2, 1) := by decide +kernel
theorem dX5_laysOrder_47 : decode cX5_laysOrder 47 = .ok (.dup2, 1) := by decide +kernel
theorem dX5_laysOrder_48 : decode cX5_laysOrder 48 = .ok (.iaload, 1) := by decide +kernel
theorem dX5_laysOrder_49 : decode cX5_laysOrder 49 = .ok (.iload 4, 2) := by decide +kernel
theorem dX5_laysOrder_51 : decode cX5_laysOrder 51 = .ok (.ifCond .lt 13, 3) := by decide +kernel
theorem dX5_laysOrder_54 : decode cX5_laysOrder 54 = .ok (.iload 4, 2) := by decide +kernel
theorem dX5_laysOrder_56 : decode cX5_laysOrder 56 = .ok (.ifCond .ne 12, 3) := by decide +kernel
theorem dX5_laysOrder_59 : decode cX5_laysOrder 59 = .ok (.iload_n 3, 1) := by decide +kernel
theorem dX5_laysOrder_60 : decode cX5_laysOrder 60 = .ok (.iload_n 2, 1) := by decide +kernel
theorem dX5_laysOrder_61 : decode cX5_laysOrder 61 = .ok (.if_icmp .ge 7, 3) := by decide +kernel
theorem dX5_laysOrder_64 : decode cX5_laysOrder 64 = .ok (.iconst 1, 1) := by decide +kernel
theorem dX5_laysOrder_65 : decode cX5_laysOrder 65 = .ok (.goto 4, 3) := by decide +kernel
theorem dX5_laysOrder_68 : decode cX5_laysOrder 68 = .ok (.iconst 0, 1) := by decide +kernel
theorem dX5_laysOrder_69 : decode cX5_laysOrder 69 = .ok (.iadd, 1) := by decide +kernel
theorem dX5_laysOrder_70 : decode cX5_laysOrder 70 = .ok (.iastore, 1) := by decide +kernel
theorem dX5_laysOrder_71 : decode cX5_laysOrder 71 = .ok (.iinc 3 1, 3) := by decide +kernel
theorem dX5_laysOrder_74 : decode cX5_laysOrder 74 = .ok (.goto (-55), 3) := by decide +kernel
theorem dX5_laysOrder_77 : decode cX5_laysOrder 77 = .ok (.aload_n 0, 1) := by decide +kernel
theorem dX5_laysOrder_78 : decode cX5_laysOrder 78 = .ok (.getfield 22, 3) := by decide +kernel
theorem dX5_laysOrder_81 : decode cX5_laysOrder 81 = .ok (.aload_n 0, 1) := by decide +kernel
theorem dX5_laysOrder_82 : decode cX5_laysOrder 82 = .ok (.getfield 25, 3) := by decide +kernel
theorem dX5_laysOrder_85 : decode cX5_laysOrder 85 = .ok (.iload_n 2, 1) := by decide +kernel
theorem dX5_laysOrder_86 : decode cX5_laysOrder 86 = .ok (.iaload, 1) := by decide +kernel
theorem dX5_laysOrder_87 : decode cX5_laysOrder 87 = .ok (.iload_n 2, 1) := by decide +kernel
theorem dX5_laysOrder_88 : decode cX5_laysOrder 88 = .ok (.iastore, 1) := by decide +kernel
theorem dX5_laysOrder_89 : decode cX5_laysOrder 89 = .ok (.aload_n 0, 1) := by decide +kernel
theorem dX5_laysOrder_90 : decode cX5_laysOrder 90 = .ok (.getfield 28, 3) := by decide +kernel
theorem dX5_laysOrder_93 : decode cX5_laysOrder 93 = .ok (.iload_n 2, 1) := by decide +kernel
theorem dX5_laysOrder_94 : decode cX5_laysOrder 94 = .ok (.aload_n 1, 1) := by decide +kernel
theorem dX5_laysOrder_95 : decode cX5_laysOrder 95 = .ok (.iload_n 2, 1) := by decide +kernel
theorem dX5_laysOrder_96 : decode cX5_laysOrder 96 = .ok (.invokestatic 74, 3) := by decide +kernel
theorem dX5_laysOrder_99 : decode cX5_laysOrder 99 = .ok (.iastore, 1) := by decide +kernel
theorem dX5_laysOrder_100 : decode cX5_laysOrder 100 = .ok (.iinc 2 1, 3) := by decide +kernel
theorem dX5_laysOrder_103 : decode cX5_laysOrder 103 = .ok (.goto (-101), 3) := by decide +kernel
theorem dX5_laysOrder_106 : decode cX5_laysOrder 106 = .ok (.return_, 1) := by decide +kernel
def t_X5_laysOrder_106 : am_T := tb_ret
def t_X5_laysOrder_77 : am_T := tb_aload 0 <|
  tb_getR 5 6 <|
  tb_aload 0 <|
  tb_getR 5 7 <|
  tb_iload 2 <|
  tb_iald <|
  tb_iload 2 <|
  tb_iast <|
  tb_aload 0 <|
  tb_getR 5 8 <|
  tb_iload 2 <|
  tb_aload 1 <|
  tb_iload 2 <|
  tb_callS sp_X5_speaksTo 2 <|
  tb_iast <|
  tb_iinc 2 1 <|
  tb_head 2
def t_X5_laysOrder_69 : am_T := tb_bin (fun x y => x + y) <|
  tb_iast <|
  tb_iinc 3 1 <|
  tb_head 19
def t_X5_laysOrder_68 : am_T := tb_const 0 <|
  t_X5_laysOrder_69
def t_X5_laysOrder_64 : am_T := tb_const 1 <|
  t_X5_laysOrder_69
def t_X5_laysOrder_19 : am_T := tb_iload 3 <|
  tb_aload 1 <|
  tb_const 9 <|
  tb_iald <|
  tb_ic (fun x y => y ≤ x) (t_X5_laysOrder_77) <|
  tb_aload 1 <|
  tb_iload 3 <|
  tb_const 0 <|
  tb_callS sp_X5_of 3 <|
  tb_aload 1 <|
  tb_iload 2 <|
  tb_const 0 <|
  tb_callS sp_X5_of 3 <|
  tb_bin (fun x y => x - y) <|
  tb_istore 4 <|
  tb_aload 0 <|
  tb_getR 5 7 <|
  tb_iload 2 <|
  tb_dup2 <|
  tb_iald <|
  tb_iload 4 <|
  tb_if (fun x => x < 0) (t_X5_laysOrder_64) <|
  tb_iload 4 <|
  tb_if (fun x => x ≠ 0) (t_X5_laysOrder_68) <|
  tb_iload 3 <|
  tb_iload 2 <|
  tb_ic (fun x y => y ≤ x) (t_X5_laysOrder_68) <|
  t_X5_laysOrder_64
def t_X5_laysOrder_2 : am_T := tb_iload 2 <|
  tb_aload 1 <|
  tb_const 9 <|
  tb_iald <|
  tb_ic (fun x y => y ≤ x) (t_X5_laysOrder_106) <|
  tb_aload 0 <|
  tb_getR 5 7 <|
  tb_iload 2 <|
  tb_const 0 <|
  tb_iast <|
  tb_const 0 <|
  tb_istore 3 <|
  tb_head 19
def t_X5_laysOrder_0 : am_T := tb_const 0 <|
  tb_istore 2 <|
  tb_head 2
def h_X5_laysOrder : am_Hd := fun h => if h = 0 then t_X5_laysOrder_0 else if h = 2 then t_X5_laysOrder_2 else if h = 19 then t_X5_laysOrder_19 else tb_bad
theorem h_X5_laysOrder_0 : h_X5_laysOrder 0 = t_X5_laysOrder_0 := rfl
theorem h_X5_laysOrder_2 : h_X5_laysOrder 2 = t_X5_laysOrder_2 := rfl
theorem h_X5_laysOrder_19 : h_X5_laysOrder 19 = t_X5_laysOrder_19 := rfl
def rm_X5_laysOrder : Room := { frames := 2, cells := 0, slots := 0, locals := 49 }
def sp_X5_laysOrder : am_sp := fun as M Q => as.length ≤ 5 ∧ am_OK h_X5_laysOrder Q 0 (am_in 5 as) M
theorem s_X5_laysOrder_106 {G : am_G} {bc bs : Nat} (X : am_Cx G cX5_laysOrder RX5 "laysOrder" rm_X5_laysOrder none 5 bc bs true) : am_S G 106 (t_X5_laysOrder_106) := by
  unfold t_X5_laysOrder_106
  exact as_ret (pc := 106) X ⟨rfl, rfl⟩ rfl dX5_laysOrder_106
theorem s_X5_laysOrder_77 {G : am_G} {bc bs : Nat} (X : am_Cx G cX5_laysOrder RX5 "laysOrder" rm_X5_laysOrder none 5 bc bs true) : am_S G 77 (t_X5_laysOrder_77) := by
  unfold t_X5_laysOrder_77
  refine as_aload_n (pc := 77) X dX5_laysOrder_77 rfl ?_
  refine as_getR (ci := 5) (j := 6) (pc := 78) X (Cn := RX5) (Tf := TX5) (N := 21) rfl rfl (by decide) iw_X5 aw_744 rfl dX5_laysOrder_78 ?_
  refine as_aload_n (pc := 81) X dX5_laysOrder_81 rfl ?_
  refine as_getR (ci := 5) (j := 7) (pc := 82) X (Cn := RX5) (Tf := TX5) (N := 21) rfl rfl (by decide) iw_X5 aw_745 rfl dX5_laysOrder_82 ?_
  refine as_iload_n (pc := 85) X dX5_laysOrder_85 rfl ?_
  refine as_iald (pc := 86) X dX5_laysOrder_86 ?_
  refine as_iload_n (pc := 87) X dX5_laysOrder_87 rfl ?_
  refine as_iast (pc := 88) X dX5_laysOrder_88 ?_
  refine as_aload_n (pc := 89) X dX5_laysOrder_89 rfl ?_
  refine as_getR (ci := 5) (j := 8) (pc := 90) X (Cn := RX5) (Tf := TX5) (N := 21) rfl rfl (by decide) iw_X5 aw_746 rfl dX5_laysOrder_90 ?_
  refine as_iload_n (pc := 93) X dX5_laysOrder_93 rfl ?_
  refine as_aload_n (pc := 94) X dX5_laysOrder_94 rfl ?_
  refine as_iload_n (pc := 95) X dX5_laysOrder_95 rfl ?_
  refine as_callS (np := 2) (ix := 74) (pc := 96) X ct_X5_speaksTo ⟨rfl, rfl⟩ aw_876 aw_877 aw_878 aw_65 (by decide +kernel) (by decide) dX5_laysOrder_96 ?_
  refine as_iast (pc := 99) X dX5_laysOrder_99 ?_
  refine as_iinc (pc := 100) X dX5_laysOrder_100 (by decide) (by decide) ?_
  exact as_goto (pc := 103) X 2 dX5_laysOrder_103 (by decide) (as_head)
theorem s_X5_laysOrder_69 {G : am_G} {bc bs : Nat} (X : am_Cx G cX5_laysOrder RX5 "laysOrder" rm_X5_laysOrder none 5 bc bs true) : am_S G 69 (t_X5_laysOrder_69) := by
  unfold t_X5_laysOrder_69
  refine as_iadd (pc := 69) X dX5_laysOrder_69 ?_
  refine as_iast (pc := 70) X dX5_laysOrder_70 ?_
  refine as_iinc (pc := 71) X dX5_laysOrder_71 (by decide) (by decide) ?_
  exact as_goto (pc := 74) X 19 dX5_laysOrder_74 (by decide) (as_head)
theorem s_X5_laysOrder_68 {G : am_G} {bc bs : Nat} (X : am_Cx G cX5_laysOrder RX5 "laysOrder" rm_X5_laysOrder none 5 bc bs true) : am_S G 68 (t_X5_laysOrder_68) := by
  unfold t_X5_laysOrder_68
  refine as_iconst (pc := 68) X dX5_laysOrder_68 (by decide) ?_
  exact s_X5_laysOrder_69 X
theorem s_X5_laysOrder_64 {G : am_G} {bc bs : Nat} (X : am_Cx G cX5_laysOrder RX5 "laysOrder" rm_X5_laysOrder none 5 bc bs true) : am_S G 64 (t_X5_laysOrder_64) := by
  unfold t_X5_laysOrder_64
  refine as_iconst (pc := 64) X dX5_laysOrder_64 (by decide) ?_
  exact as_goto (pc := 65) X 69 dX5_laysOrder_65 (by decide) (s_X5_laysOrder_69 X)
theorem s_X5_laysOrder_19 {G : am_G} {bc bs : Nat} (X : am_Cx G cX5_laysOrder RX5 "laysOrder" rm_X5_laysOrder none 5 bc bs true) : am_S G 19 (t_X5_laysOrder_19) := by
  unfold t_X5_laysOrder_19
  refine as_iload_n (pc := 19) X dX5_laysOrder_19 rfl ?_
  refine as_aload_n (pc := 20) X dX5_laysOrder_20 rfl ?_
  refine as_bipush (pc := 21) X dX5_laysOrder_21 (by decide) ?_
  refine as_iald (pc := 23) X dX5_laysOrder_23 ?_
  refine as_ic_ge (pc := 24) X 77 dX5_laysOrder_24 (by decide) (s_X5_laysOrder_77 X) ?_
  refine as_aload_n (pc := 27) X dX5_laysOrder_27 rfl ?_
  refine as_iload_n (pc := 28) X dX5_laysOrder_28 rfl ?_
  refine as_iconst (pc := 29) X dX5_laysOrder_29 (by decide) ?_
  refine as_callS (np := 3) (ix := 71) (pc := 30) X ct_X5_of ⟨rfl, rfl⟩ aw_873 aw_874 aw_875 aw_65 (by decide +kernel) (by decide) dX5_laysOrder_30 ?_
  refine as_aload_n (pc := 33) X dX5_laysOrder_33 rfl ?_
  refine as_iload_n (pc := 34) X dX5_laysOrder_34 rfl ?_
  refine as_iconst (pc := 35) X dX5_laysOrder_35 (by decide) ?_
  refine as_callS (np := 3) (ix := 71) (pc := 36) X ct_X5_of ⟨rfl, rfl⟩ aw_873 aw_874 aw_875 aw_65 (by decide +kernel) (by decide) dX5_laysOrder_36 ?_
  refine as_isub (pc := 39) X dX5_laysOrder_39 ?_
  refine as_istore (pc := 40) X dX5_laysOrder_40 ?_ (by decide)
  refine as_aload_n (pc := 42) X dX5_laysOrder_42 rfl ?_
  refine as_getR (ci := 5) (j := 7) (pc := 43) X (Cn := RX5) (Tf := TX5) (N := 21) rfl rfl (by decide) iw_X5 aw_745 rfl dX5_laysOrder_43 ?_
  refine as_iload_n (pc := 46) X dX5_laysOrder_46 rfl ?_
  refine as_dup2 (pc := 47) X dX5_laysOrder_47 ?_
  refine as_iald (pc := 48) X dX5_laysOrder_48 ?_
  refine as_iload (pc := 49) X dX5_laysOrder_49 ?_
  refine as_if_lt (pc := 51) X 64 dX5_laysOrder_51 (by decide) (s_X5_laysOrder_64 X) ?_
  refine as_iload (pc := 54) X dX5_laysOrder_54 ?_
  refine as_if_ne (pc := 56) X 68 dX5_laysOrder_56 (by decide) (s_X5_laysOrder_68 X) ?_
  refine as_iload_n (pc := 59) X dX5_laysOrder_59 rfl ?_
  refine as_iload_n (pc := 60) X dX5_laysOrder_60 rfl ?_
  refine as_ic_ge (pc := 61) X 68 dX5_laysOrder_61 (by decide) (s_X5_laysOrder_68 X) ?_
  exact s_X5_laysOrder_64 X
theorem s_X5_laysOrder_2 {G : am_G} {bc bs : Nat} (X : am_Cx G cX5_laysOrder RX5 "laysOrder" rm_X5_laysOrder none 5 bc bs true) : am_S G 2 (t_X5_laysOrder_2) := by
  unfold t_X5_laysOrder_2
  refine as_iload_n (pc := 2) X dX5_laysOrder_2 rfl ?_
  refine as_aload_n (pc := 3) X dX5_laysOrder_3 rfl ?_
  refine as_bipush (pc := 4) X dX5_laysOrder_4 (by decide) ?_
  refine as_iald (pc := 6) X dX5_laysOrder_6 ?_
  refine as_ic_ge (pc := 7) X 106 dX5_laysOrder_7 (by decide) (s_X5_laysOrder_106 X) ?_
  refine as_aload_n (pc := 10) X dX5_laysOrder_10 rfl ?_
  refine as_getR (ci := 5) (j := 7) (pc := 11) X (Cn := RX5) (Tf := TX5) (N := 21) rfl rfl (by decide) iw_X5 aw_745 rfl dX5_laysOrder_11 ?_
  refine as_iload_n (pc := 14) X dX5_laysOrder_14 rfl ?_
  refine as_iconst (pc := 15) X dX5_laysOrder_15 (by decide) ?_
  refine as_iast (pc := 16) X dX5_laysOrder_16 ?_
  refine as_iconst (pc := 17) X dX5_laysOrder_17 (by decide) ?_
  refine as_istore_n (pc := 18) X dX5_laysOrder_18 rfl ?_ (by decide)
  exact as_head
theorem s_X5_laysOrder_0 {G : am_G} {bc bs : Nat} (X : am_Cx G cX5_laysOrder RX5 "laysOrder" rm_X5_laysOrder none 5 bc bs true) : am_S G 0 (t_X5_laysOrder_0) := by
  unfold t_X5_laysOrder_0
  refine as_iconst (pc := 0) X dX5_laysOrder_0 (by decide) ?_
  refine as_istore_n (pc := 1) X dX5_laysOrder_1 rfl ?_ (by decide)
  exact as_head
theorem s_X5_laysOrder {G : am_G} {bc bs : Nat} (X : am_Cx G cX5_laysOrder RX5 "laysOrder" rm_X5_laysOrder none 5 bc bs true) (h : Nat) : am_S G h (h_X5_laysOrder h) := by
  unfold h_X5_laysOrder
  split
  · next e => rw [e]; exact s_X5_laysOrder_0 X
  split
  · next e => rw [e]; exact s_X5_laysOrder_2 X
  split
  · next e => rw [e]; exact s_X5_laysOrder_19 X
  exact as_bad
theorem ct_X5_laysOrder : am_Ct yX5_laysOrder cX5_laysOrder 5 none rm_X5_laysOrder sp_X5_laysOrder := am_met (own := RX5) (nm := "laysOrder") (by decide) rfl rfl (Or.inl rfl) (fun _ _ => h_X5_laysOrder) (fun _ _ _ X => s_X5_laysOrder X) (fun _ _ _ _ h => h)
-- X5_ones
theorem dX5_ones_0 : decode cX5_ones 0 = .ok (.iconst 0, 1) := by decide +kernel
theorem dX5_ones_1 : decode cX5_ones 1 = .ok (.istore_n 1, 1) := by decide +kernel
theorem dX5_ones_2 : decode cX5_ones 2 = .ok (.iconst 0, 1) := by decide +kernel
theorem dX5_ones_3 : decode cX5_ones 3 = .ok (.istore_n 2, 1) := by decide +kernel
theorem dX5_ones_4 : decode cX5_ones 4 = .ok (.iload_n 2, 1) := by decide +kernel
theorem dX5_ones_5 : decode cX5_ones 5 = .ok (.bipush 16, 2) := by decide +kernel
theorem dX5_ones_7 : decode cX5_ones 7 = .ok (.if_icmp .ge 17, 3) := by decide +kernel
theorem dX5_ones_10 : decode cX5_ones 10 = .ok (.iload_n 1, 1) := by decide +kernel
theorem dX5_ones_11 : decode cX5_ones 11 = .ok (.iload_n 0, 1) := by decide +kernel
theorem dX5_ones_12 : decode cX5_ones 12 = .ok (.iload_n 2, 1) := by decide +kernel
theorem dX5_ones_13 : decode cX5_ones 13 = .ok (.ishr, 1) := by decide +kernel
theorem dX5_ones_14 : decode cX5_ones 14 = .ok (.iconst 1, 1) := by decide +kernel
theorem dX5_ones_15 : decode cX5_ones 15 = .ok (.iand, 1) := by decide +kernel
theorem dX5_ones_16 : decode cX5_ones 16 = .ok (.iadd, 1) := by decide +kernel
theorem dX5_ones_17 : decode cX5_ones 17 = .ok (.istore_n 1, 1) := by decide +kernel
theorem dX5_ones_18 : decode cX5_ones 18 = .ok (.iinc 2 1, 3) := by decide +kernel
theorem dX5_ones_21 : decode cX5_ones 21 = .ok (.goto (-17), 3) := by decide +kernel
theorem dX5_ones_24 : decode cX5_ones 24 = .ok (.iload_n 1, 1) := by decide +kernel
theorem dX5_ones_25 : decode cX5_ones 25 = .ok (.ireturn, 1) := by decide +kernel
def t_X5_ones_24 : am_T := tb_iload 1 <|
  tb_iret
def t_X5_ones_4 : am_T := tb_iload 2 <|
  tb_const 16 <|
  tb_ic (fun x y => y ≤ x) (t_X5_ones_24) <|
  tb_iload 1 <|
  tb_iload 0 <|
  tb_iload 2 <|
  tb_bin (fun x y => x >>> (y &&& 31)) <|
  tb_const 1 <|
  tb_bin (fun x y => x &&& y) <|
  tb_bin (fun x y => x + y) <|
  tb_istore 1 <|
  tb_iinc 2 1 <|
  tb_head 4
def t_X5_ones_0 : am_T := tb_const 0 <|
  tb_istore 1 <|
  tb_const 0 <|
  tb_istore 2 <|
  tb_head 4
def h_X5_ones : am_Hd := fun h => if h = 0 then t_X5_ones_0 else if h = 4 then t_X5_ones_4 else tb_bad
theorem h_X5_ones_0 : h_X5_ones 0 = t_X5_ones_0 := rfl
theorem h_X5_ones_4 : h_X5_ones 4 = t_X5_ones_4 := rfl
def rm_X5_ones : Room := { frames := 0, cells := 0, slots := 0, locals := 0 }
def sp_X5_ones : am_sp := fun as M Q => as.length ≤ 3 ∧ am_OK h_X5_ones Q 0 (am_in 3 as) M
theorem s_X5_ones_24 {G : am_G} {bc bs : Nat} (X : am_Cx G cX5_ones RX5 "ones" rm_X5_ones (some .int) 3 bc bs true) : am_S G 24 (t_X5_ones_24) := by
  unfold t_X5_ones_24
  refine as_iload_n (pc := 24) X dX5_ones_24 rfl ?_
  exact as_iret (pc := 25) X ⟨rfl, rfl⟩ rfl dX5_ones_25
theorem s_X5_ones_4 {G : am_G} {bc bs : Nat} (X : am_Cx G cX5_ones RX5 "ones" rm_X5_ones (some .int) 3 bc bs true) : am_S G 4 (t_X5_ones_4) := by
  unfold t_X5_ones_4
  refine as_iload_n (pc := 4) X dX5_ones_4 rfl ?_
  refine as_bipush (pc := 5) X dX5_ones_5 (by decide) ?_
  refine as_ic_ge (pc := 7) X 24 dX5_ones_7 (by decide) (s_X5_ones_24 X) ?_
  refine as_iload_n (pc := 10) X dX5_ones_10 rfl ?_
  refine as_iload_n (pc := 11) X dX5_ones_11 rfl ?_
  refine as_iload_n (pc := 12) X dX5_ones_12 rfl ?_
  refine as_ishr (pc := 13) X dX5_ones_13 ?_
  refine as_iconst (pc := 14) X dX5_ones_14 (by decide) ?_
  refine as_iand (pc := 15) X dX5_ones_15 ?_
  refine as_iadd (pc := 16) X dX5_ones_16 ?_
  refine as_istore_n (pc := 17) X dX5_ones_17 rfl ?_ (by decide)
  refine as_iinc (pc := 18) X dX5_ones_18 (by decide) (by decide) ?_
  exact as_goto (pc := 21) X 4 dX5_ones_21 (by decide) (as_head)
theorem s_X5_ones_0 {G : am_G} {bc bs : Nat} (X : am_Cx G cX5_ones RX5 "ones" rm_X5_ones (some .int) 3 bc bs true) : am_S G 0 (t_X5_ones_0) := by
  unfold t_X5_ones_0
  refine as_iconst (pc := 0) X dX5_ones_0 (by decide) ?_
  refine as_istore_n (pc := 1) X dX5_ones_1 rfl ?_ (by decide)
  refine as_iconst (pc := 2) X dX5_ones_2 (by decide) ?_
  refine as_istore_n (pc := 3) X dX5_ones_3 rfl ?_ (by decide)
  exact as_head
theorem s_X5_ones {G : am_G} {bc bs : Nat} (X : am_Cx G cX5_ones RX5 "ones" rm_X5_ones (some .int) 3 bc bs true) (h : Nat) : am_S G h (h_X5_ones h) := by
  unfold h_X5_ones
  split
  · next e => rw [e]; exact s_X5_ones_0 X
  split
  · next e => rw [e]; exact s_X5_ones_4 X
  exact as_bad
theorem ct_X5_ones : am_Ct yX5_ones cX5_ones 3 (some .int) rm_X5_ones sp_X5_ones := am_met (own := RX5) (nm := "ones") (by decide) rfl rfl (Or.inr (Or.inl rfl)) (fun _ _ => h_X5_ones) (fun _ _ _ X => s_X5_ones X) (fun _ _ _ _ h => h)
-- X5_scoreOf
theorem dX5_scoreOf_0 : decode cX5_scoreOf 0 = .ok (.aload_n 1, 1) := by decide +kernel
theorem dX5_scoreOf_1 : decode cX5_scoreOf 1 = .ok (.iload_n 2, 1) := by decide +kernel
theorem dX5_scoreOf_2 : decode cX5_scoreOf 2 = .ok (.iconst 1, 1) := by decide +kernel
theorem dX5_scoreOf_3 : decode cX5_scoreOf 3 = .ok (.invokestatic 71, 3) := by decide +kernel
theorem dX5_scoreOf_6 : decode cX5_scoreOf 6 = .ok (.istore 4, 2) := by decide +kernel
theorem dX5_scoreOf_8 : decode cX5_scoreOf 8 = .ok (.aload_n 1, 1) := by decide +kernel
theorem dX5_scoreOf_9 : decode cX5_scoreOf 9 = .ok (.iload_n 3, 1) := by decide +kernel
theorem dX5_scoreOf_10 : decode cX5_scoreOf 10 = .ok (.iconst 1, 1) := by decide +kernel
theorem dX5_scoreOf_11 : decode cX5_scoreOf 11 = .ok (.invokestatic 71, 3) := by decide +kernel
theorem dX5_scoreOf_14 : decode cX5_scoreOf 14 = .ok (.istore 5, 2) := by decide +kernel
theorem dX5_scoreOf_16 : decode cX5_scoreOf 16 = .ok (.aload_n 1, 1) := by decide +kernel
theorem dX5_scoreOf_17 : decode cX5_scoreOf 17 = .ok (.iconst 4, 1) := by decide +kernel
theorem dX5_scoreOf_18 : decode cX5_scoreOf 18 = .ok (.iaload, 1) := by decide +kernel
theorem dX5_scoreOf_19 : decode cX5_scoreOf 19 = .ok (.aload_n 1, 1) := by decide +kernel
theorem dX5_scoreOf_20 : decode cX5_scoreOf 20 = .ok (.iload_n 2, 1) := by decide +kernel
theorem dX5_scoreOf_21 : decode cX5_scoreOf 21 = .ok (.iconst 3, 1) := by decide +kernel
theorem dX5_scoreOf_22 : decode cX5_scoreOf 22 = .ok (.invokestatic 71, 3) := by decide +kernel
theorem dX5_scoreOf_25 : decode cX5_scoreOf 25 = .ok (.aload_n 1, 1) := by decide +kernel
theorem dX5_scoreOf_26 : decode cX5_scoreOf 26 = .ok (.iload_n 3, 1) := by decide +kernel
theorem dX5_scoreOf_27 : decode cX5_scoreOf 27 = .ok (.iconst 3, 1) := by decide +kernel
theorem dX5_scoreOf_28 : decode cX5_scoreOf 28 = .ok (.invokestatic 71, 3) := by decide +kernel
theorem dX5_scoreOf_31 : decode cX5_scoreOf 31 = .ok (.iand, 1) := by decide +kernel
theorem dX5_scoreOf_32 : decode cX5_scoreOf 32 = .ok (.invokestatic 78, 3) := by decide +kernel
theorem dX5_scoreOf_35 : decode cX5_scoreOf 35 = .ok (.imul, 1) := by decide +kernel
theorem dX5_scoreOf_36 : decode cX5_scoreOf 36 = .ok (.istore 6, 2) := by decide +kernel
theorem dX5_scoreOf_38 : decode cX5_scoreOf 38 = .ok (.iload 6, 2) := by decide +kernel
theorem dX5_scoreOf_40 : decode cX5_scoreOf 40 = .ok (.aload_n 0, 1) := by decide +kernel
theorem dX5_scoreOf_41 : decode cX5_scoreOf 41 = .ok (.getfield 28, 3) := by decide +kernel
theorem dX5_scoreOf_44 : decode cX5_scoreOf 44 = .ok (.iload_n 2, 1) := by decide +kernel
theorem dX5_scoreOf_45 : decode cX5_scoreOf 45 = .ok (.iaload, 1) := by decide +kernel
theorem dX5_scoreOf_46 : decode cX5_scoreOf 46 = .ok (.iload 5, 2) := by decide +kernel
theorem dX5_scoreOf_48 : decode cX5_scoreOf 48 = .ok (.ishr, 1) := by decide +kernel
theorem dX5_scoreOf_49 : decode cX5_scoreOf 49 = .ok (.iconst 1, 1) := by decide +kernel
theorem dX5_scoreOf_50 : decode cX5_scoreOf 50 = .ok (.iand, 1) := by decide +kernel
theorem dX5_scoreOf_51 : decode cX5_scoreOf 51 = .ok (.aload_n 1, 1) := by decide +kernel
theorem dX5_scoreOf_52 : decode cX5_scoreOf 52 = .ok (.iconst 2, 1) := by decide +kernel
theorem dX5_scoreOf_53 : decode cX5_scoreOf 53 = .ok (.iaload, 1) := by decide +kernel
theorem dX5_scoreOf_54 : decode cX5_scoreOf 54 = .ok (.imul, 1) := by decide +kernel
theorem dX5_scoreOf_55 : decode cX5_scoreOf 55 = .ok (.aload_n 0, 1) := by decide +kernel
theorem dX5_scoreOf_56 : decode cX5_scoreOf 56 = .ok (.getfield 28, 3) := by decide +kernel
theorem dX5_scoreOf_59 : decode cX5_scoreOf 59 = .ok (.iload_n 3, 1) := by decide +kernel
theorem dX5_scoreOf_60 : decode cX5_scoreOf 60 = .ok (.iaload, 1) := by decide +kernel
theorem dX5_scoreOf_61 : decode cX5_scoreOf 61 = .ok (.iload 4, 2) := by decide +kernel
theorem dX5_scoreOf_63 : decode cX5_scoreOf 63 = .ok (.ishr, 1) := by decide +kernel
theorem dX5_scoreOf_64 : decode cX5_scoreOf 64 = .ok (.iconst 1, 1) := by decide +kernel
theorem dX5_scoreOf_65 : decode cX5_scoreOf 65 = .ok (.iand, 1) := by decide +kernel
theorem dX5_scoreOf_66 : decode cX5_scoreOf 66 = .ok (.aload_n 1, 1) := by decide +kernel
theorem dX5_scoreOf_67 : decode cX5_scoreOf 67 = .ok (.iconst 3, 1) := by decide +kernel
theorem dX5_scoreOf_68 : decode cX5_scoreOf 68 = .ok (.iaload, 1) := by decide +kernel
theorem dX5_scoreOf_69 : decode cX5_scoreOf 69 = .ok (.imul, 1) := by decide +kernel
theorem dX5_scoreOf_70 : decode cX5_scoreOf 70 = .ok (.iadd, 1) := by decide +kernel
theorem dX5_scoreOf_71 : decode cX5_scoreOf 71 = .ok (.iadd, 1) := by decide +kernel
theorem dX5_scoreOf_72 : decode cX5_scoreOf 72 = .ok (.istore 6, 2) := by decide +kernel
theorem dX5_scoreOf_74 : decode cX5_scoreOf 74 = .ok (.iload 6, 2) := by decide +kernel
theorem dX5_scoreOf_76 : decode cX5_scoreOf 76 = .ok (.iload 4, 2) := by decide +kernel
theorem dX5_scoreOf_78 : decode cX5_scoreOf 78 = .ok (.iload 5, 2) := by decide +kernel
theorem dX5_scoreOf_80 : decode cX5_scoreOf 80 = .ok (.if_icmp .ne 9, 3) := by decide +kernel
theorem dX5_scoreOf_83 : decode cX5_scoreOf 83 = .ok (.aload_n 1, 1) := by decide +kernel
theorem dX5_scoreOf_84 : decode cX5_scoreOf 84 = .ok (.iconst 5, 1) := by decide +kernel
theorem dX5_scoreOf_85 : decode cX5_scoreOf 85 = .ok (.iaload, 1) := by decide +kernel
theorem dX5_scoreOf_86 : decode cX5_scoreOf 86 = .ok (.goto 4, 3) := by decide +kernel
theorem dX5_scoreOf_89 : decode cX5_scoreOf 89 = .ok (.iconst 0, 1) := by decide +kernel
theorem dX5_scoreOf_90 : decode cX5_scoreOf 90 = .ok (.iadd, 1) := by decide +kernel
theorem dX5_scoreOf_91 : decode cX5_scoreOf 91 = .ok (.istore 6, 2) := by decide +kernel
theorem dX5_scoreOf_93 : decode cX5_scoreOf 93 = .ok (.iload 6, 2) := by decide +kernel
theorem dX5_scoreOf_95 : decode cX5_scoreOf 95 = .ok (.aload_n 1, 1) := by decide +kernel
theorem dX5_scoreOf_96 : decode cX5_scoreOf 96 = .ok (.iload_n 2, 1) := by decide +kernel
theorem dX5_scoreOf_97 : decode cX5_scoreOf 97 = .ok (.iconst 0, 1) := by decide +kernel
theorem dX5_scoreOf_98 : decode cX5_scoreOf 98 = .ok (.invokestatic 71, 3) := by decide +kernel
theorem dX5_scoreOf_101 : decode cX5_scoreOf 101 = .ok (.aload_n 1, 1) := by decide +kernel
theorem dX5_scoreOf_102 : decode cX5_scoreOf 102 = .ok (.iload_n 3, 1) := by decide +kernel
theorem dX5_scoreOf_103 : decode cX5_scoreOf 103 = .ok (.iconst 0, 1) := by decide +kernel
theorem dX5_scoreOf_104 : decode cX5_scoreOf 104 = .ok (.invokestatic 71, 3) := by decide +kernel
theorem dX5_scoreOf_107 : decode cX5_scoreOf 107 = .ok (.isub, 1) := by decide +kernel
theorem dX5_scoreOf_108 : decode cX5_scoreOf 108 = .ok (.aload_n 1, 1) := by decide +kernel
theorem dX5_scoreOf_109 : decode cX5_scoreOf 109 = .ok (.bipush 6, 2) := by decide +kernel
theorem dX5_scoreOf_111 : decode cX5_scoreOf 111 = .ok (.iaload, 1) := by decide +kernel
theorem dX5_scoreOf_112 : decode cX5_scoreOf 112 = .ok (.idiv, 1) := by decide +kernel
theorem dX5_scoreOf_113 : decode cX5_scoreOf 113 = .ok (.isub, 1) := by decide +kernel
theorem dX5_scoreOf_114 : decode cX5_scoreOf 114 = .ok (.ireturn, 1) := by decide +kernel
def t_X5_scoreOf_90 : am_T := tb_bin (fun x y => x + y) <|
  tb_istore 6 <|
  tb_iload 6 <|
  tb_aload 1 <|
  tb_iload 2 <|
  tb_const 0 <|
  tb_callS sp_X5_of 3 <|
  tb_aload 1 <|
  tb_iload 3 <|
  tb_const 0 <|
  tb_callS sp_X5_of 3 <|
  tb_bin (fun x y => x - y) <|
  tb_aload 1 <|
  tb_const 6 <|
  tb_iald <|
  tb_idiv <|
  tb_bin (fun x y => x - y) <|
  tb_iret
def t_X5_scoreOf_89 : am_T := tb_const 0 <|
  t_X5_scoreOf_90
def t_X5_scoreOf_0 : am_T := tb_aload 1 <|
  tb_iload 2 <|
  tb_const 1 <|
  tb_callS sp_X5_of 3 <|
  tb_istore 4 <|
  tb_aload 1 <|
  tb_iload 3 <|
  tb_const 1 <|
  tb_callS sp_X5_of 3 <|
  tb_istore 5 <|
  tb_aload 1 <|
  tb_const 4 <|
  tb_iald <|
  tb_aload 1 <|
  tb_iload 2 <|
  tb_const 3 <|
  tb_callS sp_X5_of 3 <|
  tb_aload 1 <|
  tb_iload 3 <|
  tb_const 3 <|
  tb_callS sp_X5_of 3 <|
  tb_bin (fun x y => x &&& y) <|
  tb_callS sp_X5_ones 1 <|
  tb_bin (fun x y => x * y) <|
  tb_istore 6 <|
  tb_iload 6 <|
  tb_aload 0 <|
  tb_getR 5 8 <|
  tb_iload 2 <|
  tb_iald <|
  tb_iload 5 <|
  tb_bin (fun x y => x >>> (y &&& 31)) <|
  tb_const 1 <|
  tb_bin (fun x y => x &&& y) <|
  tb_aload 1 <|
  tb_const 2 <|
  tb_iald <|
  tb_bin (fun x y => x * y) <|
  tb_aload 0 <|
  tb_getR 5 8 <|
  tb_iload 3 <|
  tb_iald <|
  tb_iload 4 <|
  tb_bin (fun x y => x >>> (y &&& 31)) <|
  tb_const 1 <|
  tb_bin (fun x y => x &&& y) <|
  tb_aload 1 <|
  tb_const 3 <|
  tb_iald <|
  tb_bin (fun x y => x * y) <|
  tb_bin (fun x y => x + y) <|
  tb_bin (fun x y => x + y) <|
  tb_istore 6 <|
  tb_iload 6 <|
  tb_iload 4 <|
  tb_iload 5 <|
  tb_ic (fun x y => x ≠ y) (t_X5_scoreOf_89) <|
  tb_aload 1 <|
  tb_const 5 <|
  tb_iald <|
  t_X5_scoreOf_90
def h_X5_scoreOf : am_Hd := fun h => if h = 0 then t_X5_scoreOf_0 else tb_bad
theorem h_X5_scoreOf_0 : h_X5_scoreOf 0 = t_X5_scoreOf_0 := rfl
def rm_X5_scoreOf : Room := { frames := 1, cells := 0, slots := 0, locals := 22 }
def sp_X5_scoreOf : am_sp := fun as M Q => as.length ≤ 7 ∧ am_OK h_X5_scoreOf Q 0 (am_in 7 as) M
theorem s_X5_scoreOf_90 {G : am_G} {bc bs : Nat} (X : am_Cx G cX5_scoreOf RX5 "scoreOf" rm_X5_scoreOf (some .int) 7 bc bs true) : am_S G 90 (t_X5_scoreOf_90) := by
  unfold t_X5_scoreOf_90
  refine as_iadd (pc := 90) X dX5_scoreOf_90 ?_
  refine as_istore (pc := 91) X dX5_scoreOf_91 ?_ (by decide)
  refine as_iload (pc := 93) X dX5_scoreOf_93 ?_
  refine as_aload_n (pc := 95) X dX5_scoreOf_95 rfl ?_
  refine as_iload_n (pc := 96) X dX5_scoreOf_96 rfl ?_
  refine as_iconst (pc := 97) X dX5_scoreOf_97 (by decide) ?_
  refine as_callS (np := 3) (ix := 71) (pc := 98) X ct_X5_of ⟨rfl, rfl⟩ aw_873 aw_874 aw_875 aw_65 (by decide +kernel) (by decide) dX5_scoreOf_98 ?_
  refine as_aload_n (pc := 101) X dX5_scoreOf_101 rfl ?_
  refine as_iload_n (pc := 102) X dX5_scoreOf_102 rfl ?_
  refine as_iconst (pc := 103) X dX5_scoreOf_103 (by decide) ?_
  refine as_callS (np := 3) (ix := 71) (pc := 104) X ct_X5_of ⟨rfl, rfl⟩ aw_873 aw_874 aw_875 aw_65 (by decide +kernel) (by decide) dX5_scoreOf_104 ?_
  refine as_isub (pc := 107) X dX5_scoreOf_107 ?_
  refine as_aload_n (pc := 108) X dX5_scoreOf_108 rfl ?_
  refine as_bipush (pc := 109) X dX5_scoreOf_109 (by decide) ?_
  refine as_iald (pc := 111) X dX5_scoreOf_111 ?_
  refine as_idiv (pc := 112) X dX5_scoreOf_112 ?_
  refine as_isub (pc := 113) X dX5_scoreOf_113 ?_
  exact as_iret (pc := 114) X ⟨rfl, rfl⟩ rfl dX5_scoreOf_114
theorem s_X5_scoreOf_89 {G : am_G} {bc bs : Nat} (X : am_Cx G cX5_scoreOf RX5 "scoreOf" rm_X5_scoreOf (some .int) 7 bc bs true) : am_S G 89 (t_X5_scoreOf_89) := by
  unfold t_X5_scoreOf_89
  refine as_iconst (pc := 89) X dX5_scoreOf_89 (by decide) ?_
  exact s_X5_scoreOf_90 X
theorem s_X5_scoreOf_0 {G : am_G} {bc bs : Nat} (X : am_Cx G cX5_scoreOf RX5 "scoreOf" rm_X5_scoreOf (some .int) 7 bc bs true) : am_S G 0 (t_X5_scoreOf_0) := by
  unfold t_X5_scoreOf_0
  refine as_aload_n (pc := 0) X dX5_scoreOf_0 rfl ?_
  refine as_iload_n (pc := 1) X dX5_scoreOf_1 rfl ?_
  refine as_iconst (pc := 2) X dX5_scoreOf_2 (by decide) ?_
  refine as_callS (np := 3) (ix := 71) (pc := 3) X ct_X5_of ⟨rfl, rfl⟩ aw_873 aw_874 aw_875 aw_65 (by decide +kernel) (by decide) dX5_scoreOf_3 ?_
  refine as_istore (pc := 6) X dX5_scoreOf_6 ?_ (by decide)
  refine as_aload_n (pc := 8) X dX5_scoreOf_8 rfl ?_
  refine as_iload_n (pc := 9) X dX5_scoreOf_9 rfl ?_
  refine as_iconst (pc := 10) X dX5_scoreOf_10 (by decide) ?_
  refine as_callS (np := 3) (ix := 71) (pc := 11) X ct_X5_of ⟨rfl, rfl⟩ aw_873 aw_874 aw_875 aw_65 (by decide +kernel) (by decide) dX5_scoreOf_11 ?_
  refine as_istore (pc := 14) X dX5_scoreOf_14 ?_ (by decide)
  refine as_aload_n (pc := 16) X dX5_scoreOf_16 rfl ?_
  refine as_iconst (pc := 17) X dX5_scoreOf_17 (by decide) ?_
  refine as_iald (pc := 18) X dX5_scoreOf_18 ?_
  refine as_aload_n (pc := 19) X dX5_scoreOf_19 rfl ?_
  refine as_iload_n (pc := 20) X dX5_scoreOf_20 rfl ?_
  refine as_iconst (pc := 21) X dX5_scoreOf_21 (by decide) ?_
  refine as_callS (np := 3) (ix := 71) (pc := 22) X ct_X5_of ⟨rfl, rfl⟩ aw_873 aw_874 aw_875 aw_65 (by decide +kernel) (by decide) dX5_scoreOf_22 ?_
  refine as_aload_n (pc := 25) X dX5_scoreOf_25 rfl ?_
  refine as_iload_n (pc := 26) X dX5_scoreOf_26 rfl ?_
  refine as_iconst (pc := 27) X dX5_scoreOf_27 (by decide) ?_
  refine as_callS (np := 3) (ix := 71) (pc := 28) X ct_X5_of ⟨rfl, rfl⟩ aw_873 aw_874 aw_875 aw_65 (by decide +kernel) (by decide) dX5_scoreOf_28 ?_
  refine as_iand (pc := 31) X dX5_scoreOf_31 ?_
  refine as_callS (np := 1) (ix := 78) (pc := 32) X ct_X5_ones ⟨rfl, rfl⟩ aw_883 aw_884 aw_885 aw_65 (by decide +kernel) (by decide) dX5_scoreOf_32 ?_
  refine as_imul (pc := 35) X dX5_scoreOf_35 ?_
  refine as_istore (pc := 36) X dX5_scoreOf_36 ?_ (by decide)
  refine as_iload (pc := 38) X dX5_scoreOf_38 ?_
  refine as_aload_n (pc := 40) X dX5_scoreOf_40 rfl ?_
  refine as_getR (ci := 5) (j := 8) (pc := 41) X (Cn := RX5) (Tf := TX5) (N := 21) rfl rfl (by decide) iw_X5 aw_746 rfl dX5_scoreOf_41 ?_
  refine as_iload_n (pc := 44) X dX5_scoreOf_44 rfl ?_
  refine as_iald (pc := 45) X dX5_scoreOf_45 ?_
  refine as_iload (pc := 46) X dX5_scoreOf_46 ?_
  refine as_ishr (pc := 48) X dX5_scoreOf_48 ?_
  refine as_iconst (pc := 49) X dX5_scoreOf_49 (by decide) ?_
  refine as_iand (pc := 50) X dX5_scoreOf_50 ?_
  refine as_aload_n (pc := 51) X dX5_scoreOf_51 rfl ?_
  refine as_iconst (pc := 52) X dX5_scoreOf_52 (by decide) ?_
  refine as_iald (pc := 53) X dX5_scoreOf_53 ?_
  refine as_imul (pc := 54) X dX5_scoreOf_54 ?_
  refine as_aload_n (pc := 55) X dX5_scoreOf_55 rfl ?_
  refine as_getR (ci := 5) (j := 8) (pc := 56) X (Cn := RX5) (Tf := TX5) (N := 21) rfl rfl (by decide) iw_X5 aw_746 rfl dX5_scoreOf_56 ?_
  refine as_iload_n (pc := 59) X dX5_scoreOf_59 rfl ?_
  refine as_iald (pc := 60) X dX5_scoreOf_60 ?_
  refine as_iload (pc := 61) X dX5_scoreOf_61 ?_
  refine as_ishr (pc := 63) X dX5_scoreOf_63 ?_
  refine as_iconst (pc := 64) X dX5_scoreOf_64 (by decide) ?_
  refine as_iand (pc := 65) X dX5_scoreOf_65 ?_
  refine as_aload_n (pc := 66) X dX5_scoreOf_66 rfl ?_
  refine as_iconst (pc := 67) X dX5_scoreOf_67 (by decide) ?_
  refine as_iald (pc := 68) X dX5_scoreOf_68 ?_
  refine as_imul (pc := 69) X dX5_scoreOf_69 ?_
  refine as_iadd (pc := 70) X dX5_scoreOf_70 ?_
  refine as_iadd (pc := 71) X dX5_scoreOf_71 ?_
  refine as_istore (pc := 72) X dX5_scoreOf_72 ?_ (by decide)
  refine as_iload (pc := 74) X dX5_scoreOf_74 ?_
  refine as_iload (pc := 76) X dX5_scoreOf_76 ?_
  refine as_iload (pc := 78) X dX5_scoreOf_78 ?_
  refine as_ic_ne (pc := 80) X 89 dX5_scoreOf_80 (by decide) (s_X5_scoreOf_89 X) ?_
  refine as_aload_n (pc := 83) X dX5_scoreOf_83 rfl ?_
  refine as_iconst (pc := 84) X dX5_scoreOf_84 (by decide) ?_
  refine as_iald (pc := 85) X dX5_scoreOf_85 ?_
  exact as_goto (pc := 86) X 90 dX5_scoreOf_86 (by decide) (s_X5_scoreOf_90 X)
theorem s_X5_scoreOf {G : am_G} {bc bs : Nat} (X : am_Cx G cX5_scoreOf RX5 "scoreOf" rm_X5_scoreOf (some .int) 7 bc bs true) (h : Nat) : am_S G h (h_X5_scoreOf h) := by
  unfold h_X5_scoreOf
  split
  · next e => rw [e]; exact s_X5_scoreOf_0 X
  exact as_bad
theorem ct_X5_scoreOf : am_Ct yX5_scoreOf cX5_scoreOf 7 (some .int) rm_X5_scoreOf sp_X5_scoreOf := am_met (own := RX5) (nm := "scoreOf") (by decide) rfl rfl (Or.inr (Or.inl rfl)) (fun _ _ => h_X5_scoreOf) (fun _ _ _ X => s_X5_scoreOf X) (fun _ _ _ _ h => h)
-- X5_laysScores
theorem dX5_laysScores_0 : decode cX5_laysScores 0 = .ok (.aload_n 0, 1) := by decide +kernel
theorem dX5_laysScores_1 : decode cX5_laysScores 1 = .ok (.aload_n 1, 1) := by decide +kernel
theorem dX5_laysScores_2 : decode cX5_laysScores 2 = .ok (.invokevirtual 82, 3) := by decide +kernel
theorem dX5_laysScores_5 : decode cX5_laysScores 5 = .ok (.iconst 0, 1) := by decide +kernel
theorem dX5_laysScores_6 : decode cX5_laysScores 6 = .ok (.istore_n 2, 1) := by decide +kernel
theorem dX5_laysScores_7 : decode cX5_laysScores 7 = .ok (.iload_n 2, 1) := by decide +kernel
theorem dX5_laysScores_8 : decode cX5_laysScores 8 = .ok (.aload_n 1, 1) := by decide +kernel
theorem dX5_laysScores_9 : decode cX5_laysScores 9 = .ok (.bipush 9, 2) := by decide +kernel
theorem dX5_laysScores_11 : decode cX5_laysScores 11 = .ok (.iaload, 1) := by decide +kernel
theorem dX5_laysScores_12 : decode cX5_laysScores 12 = .ok (.if_icmp .ge 62, 3) := by decide +kernel
theorem dX5_laysScores_15 : decode cX5_laysScores 15 = .ok (.iconst 0, 1) := by decide +kernel
theorem dX5_laysScores_16 : decode cX5_laysScores 16 = .ok (.istore_n 3, 1) := by decide +kernel
theorem dX5_laysScores_17 : decode cX5_laysScores 17 = .ok (.iload_n 3, 1) := by decide +kernel
theorem dX5_laysScores_18 : decode cX5_laysScores 18 = .ok (.aload_n 1, 1) := by decide +kernel
theorem dX5_laysScores_19 : decode cX5_laysScores 19 = .ok (.bipush 9, 2) := by decide +kernel
theorem dX5_laysScores_21 : decode cX5_laysScores 21 = .ok (.iaload, 1) := by decide +kernel
theorem dX5_laysScores_22 : decode cX5_laysScores 22 = .ok (.if_icmp .ge 46, 3) := by decide +kernel
theorem dX5_laysScores_25 : decode cX5_laysScores 25 = .ok (.aload_n 0, 1) := by decide +kernel
theorem dX5_laysScores_26 : decode cX5_laysScores 26 = .ok (.getfield 31, 3) := by decide +kernel
theorem dX5_laysScores_29 : decode cX5_laysScores 29 = .ok (.bipush 30, 2) := by decide +kernel
theorem dX5_laysScores_31 : decode cX5_laysScores 31 = .ok (.iload_n 2, 1) := by decide +kernel
theorem dX5_laysScores_32 : decode cX5_laysScores 32 = .ok (.imul, 1) := by decide +kernel
theorem dX5_laysScores_33 : decode cX5_laysScores 33 = .ok (.iload_n 3, 1) := by decide +kernel
theorem dX5_laysScores_34 : decode cX5_laysScores 34 = .ok (.iadd, 1) := by decide +kernel
theorem dX5_laysScores_35 : decode cX5_laysScores 35 = .ok (.aload_n 0, 1) := by decide +kernel
theorem dX5_laysScores_36 : decode cX5_laysScores 36 = .ok (.getfield 25, 3) := by decide +kernel
theorem dX5_laysScores_39 : decode cX5_laysScores 39 = .ok (.iload_n 3, 1) := by decide +kernel
theorem dX5_laysScores_40 : decode cX5_laysScores 40 = .ok (.iaload, 1) := by decide +kernel
theorem dX5_laysScores_41 : decode cX5_laysScores 41 = .ok (.aload_n 0, 1) := by decide +kernel
theorem dX5_laysScores_42 : decode cX5_laysScores 42 = .ok (.getfield 25, 3) := by decide +kernel
theorem dX5_laysScores_45 : decode cX5_laysScores 45 = .ok (.iload_n 2, 1) := by decide +kernel
theorem dX5_laysScores_46 : decode cX5_laysScores 46 = .ok (.iaload, 1) := by decide +kernel
theorem dX5_laysScores_47 : decode cX5_laysScores 47 = .ok (.if_icmp .ge 13, 3) := by decide +kernel
theorem dX5_laysScores_50 : decode cX5_laysScores 50 = .ok (.aload_n 0, 1) := by decide +kernel
theorem dX5_laysScores_51 : decode cX5_laysScores 51 = .ok (.aload_n 1, 1) := by decide +kernel
theorem dX5_laysScores_52 : decode cX5_laysScores 52 = .ok (.iload_n 2, 1) := by decide +kernel
theorem dX5_laysScores_53 : decode cX5_laysScores 53 = .ok (.iload_n 3, 1) := by decide +kernel
theorem dX5_laysScores_54 : decode cX5_laysScores 54 = .ok (.invokevirtual 86, 3) := by decide +kernel
theorem dX5_laysScores_57 : decode cX5_laysScores 57 = .ok (.goto 4, 3) := by decide +kernel
theorem dX5_laysScores_60 : decode cX5_laysScores 60 = .ok (.iconst 0, 1) := by decide +kernel
theorem dX5_laysScores_61 : decode cX5_laysScores 61 = .ok (.iastore, 1) := by decide +kernel
theorem dX5_laysScores_62 : decode cX5_laysScores 62 = .ok (.iinc 3 1, 3) := by decide +kernel
theorem dX5_laysScores_65 : decode cX5_laysScores 65 = .ok (.goto (-48), 3) := by decide +kernel
theorem dX5_laysScores_68 : decode cX5_laysScores 68 = .ok (.iinc 2 1, 3) := by decide +kernel
theorem dX5_laysScores_71 : decode cX5_laysScores 71 = .ok (.goto (-64), 3) := by decide +kernel
theorem dX5_laysScores_74 : decode cX5_laysScores 74 = .ok (.return_, 1) := by decide +kernel
def t_X5_laysScores_74 : am_T := tb_ret
def t_X5_laysScores_68 : am_T := tb_iinc 2 1 <|
  tb_head 7
def t_X5_laysScores_61 : am_T := tb_iast <|
  tb_iinc 3 1 <|
  tb_head 17
def t_X5_laysScores_60 : am_T := tb_const 0 <|
  t_X5_laysScores_61
def t_X5_laysScores_17 : am_T := tb_iload 3 <|
  tb_aload 1 <|
  tb_const 9 <|
  tb_iald <|
  tb_ic (fun x y => y ≤ x) (t_X5_laysScores_68) <|
  tb_aload 0 <|
  tb_getR 5 9 <|
  tb_const 30 <|
  tb_iload 2 <|
  tb_bin (fun x y => x * y) <|
  tb_iload 3 <|
  tb_bin (fun x y => x + y) <|
  tb_aload 0 <|
  tb_getR 5 7 <|
  tb_iload 3 <|
  tb_iald <|
  tb_aload 0 <|
  tb_getR 5 7 <|
  tb_iload 2 <|
  tb_iald <|
  tb_ic (fun x y => y ≤ x) (t_X5_laysScores_60) <|
  tb_aload 0 <|
  tb_aload 1 <|
  tb_iload 2 <|
  tb_iload 3 <|
  tb_callV 5 sp_X5_scoreOf 4 <|
  t_X5_laysScores_61
def t_X5_laysScores_7 : am_T := tb_iload 2 <|
  tb_aload 1 <|
  tb_const 9 <|
  tb_iald <|
  tb_ic (fun x y => y ≤ x) (t_X5_laysScores_74) <|
  tb_const 0 <|
  tb_istore 3 <|
  tb_head 17
def t_X5_laysScores_0 : am_T := tb_aload 0 <|
  tb_aload 1 <|
  tb_callV 5 sp_X5_laysOrder 2 <|
  tb_const 0 <|
  tb_istore 2 <|
  tb_head 7
def h_X5_laysScores : am_Hd := fun h => if h = 0 then t_X5_laysScores_0 else if h = 7 then t_X5_laysScores_7 else if h = 17 then t_X5_laysScores_17 else tb_bad
theorem h_X5_laysScores_0 : h_X5_laysScores 0 = t_X5_laysScores_0 := rfl
theorem h_X5_laysScores_7 : h_X5_laysScores 7 = t_X5_laysScores_7 := rfl
theorem h_X5_laysScores_17 : h_X5_laysScores 17 = t_X5_laysScores_17 := rfl
def rm_X5_laysScores : Room := { frames := 3, cells := 0, slots := 0, locals := 73 }
def sp_X5_laysScores : am_sp := fun as M Q => as.length ≤ 4 ∧ am_OK h_X5_laysScores Q 0 (am_in 4 as) M
theorem s_X5_laysScores_74 {G : am_G} {bc bs : Nat} (X : am_Cx G cX5_laysScores RX5 "laysScores" rm_X5_laysScores none 4 bc bs true) : am_S G 74 (t_X5_laysScores_74) := by
  unfold t_X5_laysScores_74
  exact as_ret (pc := 74) X ⟨rfl, rfl⟩ rfl dX5_laysScores_74
theorem s_X5_laysScores_68 {G : am_G} {bc bs : Nat} (X : am_Cx G cX5_laysScores RX5 "laysScores" rm_X5_laysScores none 4 bc bs true) : am_S G 68 (t_X5_laysScores_68) := by
  unfold t_X5_laysScores_68
  refine as_iinc (pc := 68) X dX5_laysScores_68 (by decide) (by decide) ?_
  exact as_goto (pc := 71) X 7 dX5_laysScores_71 (by decide) (as_head)
theorem s_X5_laysScores_61 {G : am_G} {bc bs : Nat} (X : am_Cx G cX5_laysScores RX5 "laysScores" rm_X5_laysScores none 4 bc bs true) : am_S G 61 (t_X5_laysScores_61) := by
  unfold t_X5_laysScores_61
  refine as_iast (pc := 61) X dX5_laysScores_61 ?_
  refine as_iinc (pc := 62) X dX5_laysScores_62 (by decide) (by decide) ?_
  exact as_goto (pc := 65) X 17 dX5_laysScores_65 (by decide) (as_head)
theorem s_X5_laysScores_60 {G : am_G} {bc bs : Nat} (X : am_Cx G cX5_laysScores RX5 "laysScores" rm_X5_laysScores none 4 bc bs true) : am_S G 60 (t_X5_laysScores_60) := by
  unfold t_X5_laysScores_60
  refine as_iconst (pc := 60) X dX5_laysScores_60 (by decide) ?_
  exact s_X5_laysScores_61 X
theorem s_X5_laysScores_17 {G : am_G} {bc bs : Nat} (X : am_Cx G cX5_laysScores RX5 "laysScores" rm_X5_laysScores none 4 bc bs true) : am_S G 17 (t_X5_laysScores_17) := by
  unfold t_X5_laysScores_17
  refine as_iload_n (pc := 17) X dX5_laysScores_17 rfl ?_
  refine as_aload_n (pc := 18) X dX5_laysScores_18 rfl ?_
  refine as_bipush (pc := 19) X dX5_laysScores_19 (by decide) ?_
  refine as_iald (pc := 21) X dX5_laysScores_21 ?_
  refine as_ic_ge (pc := 22) X 68 dX5_laysScores_22 (by decide) (s_X5_laysScores_68 X) ?_
  refine as_aload_n (pc := 25) X dX5_laysScores_25 rfl ?_
  refine as_getR (ci := 5) (j := 9) (pc := 26) X (Cn := RX5) (Tf := TX5) (N := 21) rfl rfl (by decide) iw_X5 aw_747 rfl dX5_laysScores_26 ?_
  refine as_bipush (pc := 29) X dX5_laysScores_29 (by decide) ?_
  refine as_iload_n (pc := 31) X dX5_laysScores_31 rfl ?_
  refine as_imul (pc := 32) X dX5_laysScores_32 ?_
  refine as_iload_n (pc := 33) X dX5_laysScores_33 rfl ?_
  refine as_iadd (pc := 34) X dX5_laysScores_34 ?_
  refine as_aload_n (pc := 35) X dX5_laysScores_35 rfl ?_
  refine as_getR (ci := 5) (j := 7) (pc := 36) X (Cn := RX5) (Tf := TX5) (N := 21) rfl rfl (by decide) iw_X5 aw_745 rfl dX5_laysScores_36 ?_
  refine as_iload_n (pc := 39) X dX5_laysScores_39 rfl ?_
  refine as_iald (pc := 40) X dX5_laysScores_40 ?_
  refine as_aload_n (pc := 41) X dX5_laysScores_41 rfl ?_
  refine as_getR (ci := 5) (j := 7) (pc := 42) X (Cn := RX5) (Tf := TX5) (N := 21) rfl rfl (by decide) iw_X5 aw_745 rfl dX5_laysScores_42 ?_
  refine as_iload_n (pc := 45) X dX5_laysScores_45 rfl ?_
  refine as_iald (pc := 46) X dX5_laysScores_46 ?_
  refine as_ic_ge (pc := 47) X 60 dX5_laysScores_47 (by decide) (s_X5_laysScores_60 X) ?_
  refine as_aload_n (pc := 50) X dX5_laysScores_50 rfl ?_
  refine as_aload_n (pc := 51) X dX5_laysScores_51 rfl ?_
  refine as_iload_n (pc := 52) X dX5_laysScores_52 rfl ?_
  refine as_iload_n (pc := 53) X dX5_laysScores_53 rfl ?_
  refine as_callV (ci := 5) (np := 3) (ix := 86) (pc := 54) X ct_X5_scoreOf (Cn := (RX5, TX5, 21)) rfl ⟨rfl, rfl⟩ aw_879 aw_881 aw_32 aw_882 aw_65 (by decide +kernel) (by decide) dX5_laysScores_54 ?_
  exact as_goto (pc := 57) X 61 dX5_laysScores_57 (by decide) (s_X5_laysScores_61 X)
theorem s_X5_laysScores_7 {G : am_G} {bc bs : Nat} (X : am_Cx G cX5_laysScores RX5 "laysScores" rm_X5_laysScores none 4 bc bs true) : am_S G 7 (t_X5_laysScores_7) := by
  unfold t_X5_laysScores_7
  refine as_iload_n (pc := 7) X dX5_laysScores_7 rfl ?_
  refine as_aload_n (pc := 8) X dX5_laysScores_8 rfl ?_
  refine as_bipush (pc := 9) X dX5_laysScores_9 (by decide) ?_
  refine as_iald (pc := 11) X dX5_laysScores_11 ?_
  refine as_ic_ge (pc := 12) X 74 dX5_laysScores_12 (by decide) (s_X5_laysScores_74 X) ?_
  refine as_iconst (pc := 15) X dX5_laysScores_15 (by decide) ?_
  refine as_istore_n (pc := 16) X dX5_laysScores_16 rfl ?_ (by decide)
  exact as_head
theorem s_X5_laysScores_0 {G : am_G} {bc bs : Nat} (X : am_Cx G cX5_laysScores RX5 "laysScores" rm_X5_laysScores none 4 bc bs true) : am_S G 0 (t_X5_laysScores_0) := by
  unfold t_X5_laysScores_0
  refine as_aload_n (pc := 0) X dX5_laysScores_0 rfl ?_
  refine as_aload_n (pc := 1) X dX5_laysScores_1 rfl ?_
  refine as_callV (ci := 5) (np := 1) (ix := 82) (pc := 2) X ct_X5_laysOrder (Cn := (RX5, TX5, 21)) rfl ⟨rfl, rfl⟩ aw_869 aw_871 aw_31 aw_872 aw_65 (by decide +kernel) (by decide) dX5_laysScores_2 ?_
  refine as_iconst (pc := 5) X dX5_laysScores_5 (by decide) ?_
  refine as_istore_n (pc := 6) X dX5_laysScores_6 rfl ?_ (by decide)
  exact as_head
theorem s_X5_laysScores {G : am_G} {bc bs : Nat} (X : am_Cx G cX5_laysScores RX5 "laysScores" rm_X5_laysScores none 4 bc bs true) (h : Nat) : am_S G h (h_X5_laysScores h) := by
  unfold h_X5_laysScores
  split
  · next e => rw [e]; exact s_X5_laysScores_0 X
  split
  · next e => rw [e]; exact s_X5_laysScores_7 X
  split
  · next e => rw [e]; exact s_X5_laysScores_17 X
  exact as_bad
theorem ct_X5_laysScores : am_Ct yX5_laysScores cX5_laysScores 4 none rm_X5_laysScores sp_X5_laysScores := am_met (own := RX5) (nm := "laysScores") (by decide) rfl rfl (Or.inl rfl) (fun _ _ => h_X5_laysScores) (fun _ _ _ X => s_X5_laysScores X) (fun _ _ _ _ h => h)
-- X5_counting
theorem dX5_counting_0 : decode cX5_counting 0 = .ok (.bipush (-4), 2) := by decide +kernel
theorem dX5_counting_2 : decode cX5_counting 2 = .ok (.istore_n 2, 1) := by decide +kernel
theorem dX5_counting_3 : decode cX5_counting 3 = .ok (.iconst 0, 1) := by decide +kernel
theorem dX5_counting_4 : decode cX5_counting 4 = .ok (.istore_n 3, 1) := by decide +kernel
theorem dX5_counting_5 : decode cX5_counting 5 = .ok (.iload_n 3, 1) := by decide +kernel
theorem dX5_counting_6 : decode cX5_counting 6 = .ok (.aload_n 0, 1) := by decide +kernel
theorem dX5_counting_7 : decode cX5_counting 7 = .ok (.bipush 10, 2) := by decide +kernel
theorem dX5_counting_9 : decode cX5_counting 9 = .ok (.iaload, 1) := by decide +kernel
theorem dX5_counting_10 : decode cX5_counting 10 = .ok (.if_icmp .ge 35, 3) := by decide +kernel
theorem dX5_counting_13 : decode cX5_counting 13 = .ok (.aload_n 0, 1) := by decide +kernel
theorem dX5_counting_14 : decode cX5_counting 14 = .ok (.iload_n 3, 1) := by decide +kernel
theorem dX5_counting_15 : decode cX5_counting 15 = .ok (.iconst 1, 1) := by decide +kernel
theorem dX5_counting_16 : decode cX5_counting 16 = .ok (.invokestatic 89, 3) := by decide +kernel
theorem dX5_counting_19 : decode cX5_counting 19 = .ok (.iload_n 1, 1) := by decide +kernel
theorem dX5_counting_20 : decode cX5_counting 20 = .ok (.if_icmp .ne 17, 3) := by decide +kernel
theorem dX5_counting_23 : decode cX5_counting 23 = .ok (.aload_n 0, 1) := by decide +kernel
theorem dX5_counting_24 : decode cX5_counting 24 = .ok (.iload_n 3, 1) := by decide +kernel
theorem dX5_counting_25 : decode cX5_counting 25 = .ok (.iconst 0, 1) := by decide +kernel
theorem dX5_counting_26 : decode cX5_counting 26 = .ok (.invokestatic 89, 3) := by decide +kernel
theorem dX5_counting_29 : decode cX5_counting 29 = .ok (.iconst 2, 1) := by decide +kernel
theorem dX5_counting_30 : decode cX5_counting 30 = .ok (.if_icmp .eq 7, 3) := by decide +kernel
theorem dX5_counting_33 : decode cX5_counting 33 = .ok (.iload_n 3, 1) := by decide +kernel
theorem dX5_counting_34 : decode cX5_counting 34 = .ok (.goto 4, 3) := by decide +kernel
theorem dX5_counting_37 : decode cX5_counting 37 = .ok (.iload_n 2, 1) := by decide +kernel
theorem dX5_counting_38 : decode cX5_counting 38 = .ok (.istore_n 2, 1) := by decide +kernel
theorem dX5_counting_39 : decode cX5_counting 39 = .ok (.iinc 3 1, 3) := by decide +kernel
theorem dX5_counting_42 : decode cX5_counting 42 = .ok (.goto (-37), 3) := by decide +kernel
theorem dX5_counting_45 : decode cX5_counting 45 = .ok (.iload_n 2, 1) := by decide +kernel
theorem dX5_counting_46 : decode cX5_counting 46 = .ok (.ireturn, 1) := by decide +kernel
def t_X5_counting_45 : am_T := tb_iload 2 <|
  tb_iret
def t_X5_counting_38 : am_T := tb_istore 2 <|
  tb_iinc 3 1 <|
  tb_head 5
def t_X5_counting_37 : am_T := tb_iload 2 <|
  t_X5_counting_38
def t_X5_counting_5 : am_T := tb_iload 3 <|
  tb_aload 0 <|
  tb_const 10 <|
  tb_iald <|
  tb_ic (fun x y => y ≤ x) (t_X5_counting_45) <|
  tb_aload 0 <|
  tb_iload 3 <|
  tb_const 1 <|
  tb_callS sp_X5_told 3 <|
  tb_iload 1 <|
  tb_ic (fun x y => x ≠ y) (t_X5_counting_37) <|
  tb_aload 0 <|
  tb_iload 3 <|
  tb_const 0 <|
  tb_callS sp_X5_told 3 <|
  tb_const 2 <|
  tb_ic (fun x y => x = y) (t_X5_counting_37) <|
  tb_iload 3 <|
  t_X5_counting_38
def t_X5_counting_0 : am_T := tb_const (-4) <|
  tb_istore 2 <|
  tb_const 0 <|
  tb_istore 3 <|
  tb_head 5
def h_X5_counting : am_Hd := fun h => if h = 0 then t_X5_counting_0 else if h = 5 then t_X5_counting_5 else tb_bad
theorem h_X5_counting_0 : h_X5_counting 0 = t_X5_counting_0 := rfl
theorem h_X5_counting_5 : h_X5_counting 5 = t_X5_counting_5 := rfl
def rm_X5_counting : Room := { frames := 1, cells := 0, slots := 0, locals := 22 }
def sp_X5_counting : am_sp := fun as M Q => as.length ≤ 4 ∧ am_OK h_X5_counting Q 0 (am_in 4 as) M
theorem s_X5_counting_45 {G : am_G} {bc bs : Nat} (X : am_Cx G cX5_counting RX5 "counting" rm_X5_counting (some .int) 4 bc bs true) : am_S G 45 (t_X5_counting_45) := by
  unfold t_X5_counting_45
  refine as_iload_n (pc := 45) X dX5_counting_45 rfl ?_
  exact as_iret (pc := 46) X ⟨rfl, rfl⟩ rfl dX5_counting_46
theorem s_X5_counting_38 {G : am_G} {bc bs : Nat} (X : am_Cx G cX5_counting RX5 "counting" rm_X5_counting (some .int) 4 bc bs true) : am_S G 38 (t_X5_counting_38) := by
  unfold t_X5_counting_38
  refine as_istore_n (pc := 38) X dX5_counting_38 rfl ?_ (by decide)
  refine as_iinc (pc := 39) X dX5_counting_39 (by decide) (by decide) ?_
  exact as_goto (pc := 42) X 5 dX5_counting_42 (by decide) (as_head)
theorem s_X5_counting_37 {G : am_G} {bc bs : Nat} (X : am_Cx G cX5_counting RX5 "counting" rm_X5_counting (some .int) 4 bc bs true) : am_S G 37 (t_X5_counting_37) := by
  unfold t_X5_counting_37
  refine as_iload_n (pc := 37) X dX5_counting_37 rfl ?_
  exact s_X5_counting_38 X
theorem s_X5_counting_5 {G : am_G} {bc bs : Nat} (X : am_Cx G cX5_counting RX5 "counting" rm_X5_counting (some .int) 4 bc bs true) : am_S G 5 (t_X5_counting_5) := by
  unfold t_X5_counting_5
  refine as_iload_n (pc := 5) X dX5_counting_5 rfl ?_
  refine as_aload_n (pc := 6) X dX5_counting_6 rfl ?_
  refine as_bipush (pc := 7) X dX5_counting_7 (by decide) ?_
  refine as_iald (pc := 9) X dX5_counting_9 ?_
  refine as_ic_ge (pc := 10) X 45 dX5_counting_10 (by decide) (s_X5_counting_45 X) ?_
  refine as_aload_n (pc := 13) X dX5_counting_13 rfl ?_
  refine as_iload_n (pc := 14) X dX5_counting_14 rfl ?_
  refine as_iconst (pc := 15) X dX5_counting_15 (by decide) ?_
  refine as_callS (np := 3) (ix := 89) (pc := 16) X ct_X5_told ⟨rfl, rfl⟩ aw_851 aw_852 aw_853 aw_65 (by decide +kernel) (by decide) dX5_counting_16 ?_
  refine as_iload_n (pc := 19) X dX5_counting_19 rfl ?_
  refine as_ic_ne (pc := 20) X 37 dX5_counting_20 (by decide) (s_X5_counting_37 X) ?_
  refine as_aload_n (pc := 23) X dX5_counting_23 rfl ?_
  refine as_iload_n (pc := 24) X dX5_counting_24 rfl ?_
  refine as_iconst (pc := 25) X dX5_counting_25 (by decide) ?_
  refine as_callS (np := 3) (ix := 89) (pc := 26) X ct_X5_told ⟨rfl, rfl⟩ aw_851 aw_852 aw_853 aw_65 (by decide +kernel) (by decide) dX5_counting_26 ?_
  refine as_iconst (pc := 29) X dX5_counting_29 (by decide) ?_
  refine as_ic_eq (pc := 30) X 37 dX5_counting_30 (by decide) (s_X5_counting_37 X) ?_
  refine as_iload_n (pc := 33) X dX5_counting_33 rfl ?_
  exact as_goto (pc := 34) X 38 dX5_counting_34 (by decide) (s_X5_counting_38 X)
theorem s_X5_counting_0 {G : am_G} {bc bs : Nat} (X : am_Cx G cX5_counting RX5 "counting" rm_X5_counting (some .int) 4 bc bs true) : am_S G 0 (t_X5_counting_0) := by
  unfold t_X5_counting_0
  refine as_bipush (pc := 0) X dX5_counting_0 (by decide) ?_
  refine as_istore_n (pc := 2) X dX5_counting_2 rfl ?_ (by decide)
  refine as_iconst (pc := 3) X dX5_counting_3 (by decide) ?_
  refine as_istore_n (pc := 4) X dX5_counting_4 rfl ?_ (by decide)
  exact as_head
theorem s_X5_counting {G : am_G} {bc bs : Nat} (X : am_Cx G cX5_counting RX5 "counting" rm_X5_counting (some .int) 4 bc bs true) (h : Nat) : am_S G h (h_X5_counting h) := by
  unfold h_X5_counting
  split
  · next e => rw [e]; exact s_X5_counting_0 X
  split
  · next e => rw [e]; exact s_X5_counting_5 X
  exact as_bad
theorem ct_X5_counting : am_Ct yX5_counting cX5_counting 4 (some .int) rm_X5_counting sp_X5_counting := am_met (own := RX5) (nm := "counting") (by decide) rfl rfl (Or.inr (Or.inl rfl)) (fun _ _ => h_X5_counting) (fun _ _ _ X => s_X5_counting X) (fun _ _ _ _ h => h)
-- X5_find
theorem dX5_find_0 : decode cX5_find 0 = .ok (.bipush (-4), 2) := by decide +kernel
theorem dX5_find_2 : decode cX5_find 2 = .ok (.istore 4, 2) := by decide +kernel
theorem dX5_find_4 : decode cX5_find 4 = .ok (.iconst 0, 1) := by decide +kernel
theorem dX5_find_5 : decode cX5_find 5 = .ok (.istore 5, 2) := by decide +kernel
theorem dX5_find_7 : decode cX5_find 7 = .ok (.iload 5, 2) := by decide +kernel
theorem dX5_find_9 : decode cX5_find 9 = .ok (.aload_n 0, 1) := by decide +kernel
theorem dX5_find_10 : decode cX5_find 10 = .ok (.bipush 10, 2) := by decide +kernel
theorem dX5_find_12 : decode cX5_find 12 = .ok (.iaload, 1) := by decide +kernel
theorem dX5_find_13 : decode cX5_find 13 = .ok (.if_icmp .ge 67, 3) := by decide +kernel
theorem dX5_find_16 : decode cX5_find 16 = .ok (.aload_n 0, 1) := by decide +kernel
theorem dX5_find_17 : decode cX5_find 17 = .ok (.iload 5, 2) := by decide +kernel
theorem dX5_find_19 : decode cX5_find 19 = .ok (.iconst 0, 1) := by decide +kernel
theorem dX5_find_20 : decode cX5_find 20 = .ok (.invokestatic 89, 3) := by decide +kernel
theorem dX5_find_23 : decode cX5_find 23 = .ok (.iload_n 1, 1) := by decide +kernel
theorem dX5_find_24 : decode cX5_find 24 = .ok (.if_icmp .ne 33, 3) := by decide +kernel
theorem dX5_find_27 : decode cX5_find 27 = .ok (.aload_n 0, 1) := by decide +kernel
theorem dX5_find_28 : decode cX5_find 28 = .ok (.iload 5, 2) := by decide +kernel
theorem dX5_find_30 : decode cX5_find 30 = .ok (.iconst 1, 1) := by decide +kernel
theorem dX5_find_31 : decode cX5_find 31 = .ok (.invokestatic 89, 3) := by decide +kernel
theorem dX5_find_34 : decode cX5_find 34 = .ok (.iload_n 2, 1) := by decide +kernel
theorem dX5_find_35 : decode cX5_find 35 = .ok (.if_icmp .ne 22, 3) := by decide +kernel
theorem dX5_find_38 : decode cX5_find 38 = .ok (.iload_n 1, 1) := by decide +kernel
theorem dX5_find_39 : decode cX5_find 39 = .ok (.ifCond .eq 14, 3) := by decide +kernel
theorem dX5_find_42 : decode cX5_find 42 = .ok (.aload_n 0, 1) := by decide +kernel
theorem dX5_find_43 : decode cX5_find 43 = .ok (.iload 5, 2) := by decide +kernel
theorem dX5_find_45 : decode cX5_find 45 = .ok (.iconst 2, 1) := by decide +kernel
theorem dX5_find_46 : decode cX5_find 46 = .ok (.invokestatic 89, 3) := by decide +kernel
theorem dX5_find_49 : decode cX5_find 49 = .ok (.iload_n 3, 1) := by decide +kernel
theorem dX5_find_50 : decode cX5_find 50 = .ok (.if_icmp .ne 7, 3) := by decide +kernel
theorem dX5_find_53 : decode cX5_find 53 = .ok (.iconst 1, 1) := by decide +kernel
theorem dX5_find_54 : decode cX5_find 54 = .ok (.goto 4, 3) := by decide +kernel
theorem dX5_find_57 : decode cX5_find 57 = .ok (.iconst 0, 1) := by decide +kernel
theorem dX5_find_58 : decode cX5_find 58 = .ok (.istore 6, 2) := by decide +kernel
theorem dX5_find_60 : decode cX5_find 60 = .ok (.iload 6, 2) := by decide +kernel
theorem dX5_find_62 : decode cX5_find 62 = .ok (.ifCond .eq 8, 3) := by decide +kernel
theorem dX5_find_65 : decode cX5_find 65 = .ok (.iload 5, 2) := by decide +kernel
theorem dX5_find_67 : decode cX5_find 67 = .ok (.goto 5, 3) := by decide +kernel
theorem dX5_find_70 : decode cX5_find 70 = .ok (.iload 4, 2) := by decide +kernel
theorem dX5_find_72 : decode cX5_find 72 = .ok (.istore 4, 2) := by decide +kernel
theorem dX5_find_74 : decode cX5_find 74 = .ok (.iinc 5 1, 3) := by decide +kernel
theorem dX5_find_77 : decode cX5_find 77 = .ok (.goto (-70), 3) := by decide +kernel
theorem dX5_find_80 : decode cX5_find 80 = .ok (.iload 4, 2) := by decide +kernel
theorem dX5_find_82 : decode cX5_find 82 = .ok (.ireturn, 1) := by decide +kernel
def t_X5_find_80 : am_T := tb_iload 4 <|
  tb_iret
def t_X5_find_72 : am_T := tb_istore 4 <|
  tb_iinc 5 1 <|
  tb_head 7
def t_X5_find_70 : am_T := tb_iload 4 <|
  t_X5_find_72
def t_X5_find_58 : am_T := tb_istore 6 <|
  tb_iload 6 <|
  tb_if (fun x => x = 0) (t_X5_find_70) <|
  tb_iload 5 <|
  t_X5_find_72
def t_X5_find_57 : am_T := tb_const 0 <|
  t_X5_find_58
def t_X5_find_53 : am_T := tb_const 1 <|
  t_X5_find_58
def t_X5_find_7 : am_T := tb_iload 5 <|
  tb_aload 0 <|
  tb_const 10 <|
  tb_iald <|
  tb_ic (fun x y => y ≤ x) (t_X5_find_80) <|
  tb_aload 0 <|
  tb_iload 5 <|
  tb_const 0 <|
  tb_callS sp_X5_told 3 <|
  tb_iload 1 <|
  tb_ic (fun x y => x ≠ y) (t_X5_find_57) <|
  tb_aload 0 <|
  tb_iload 5 <|
  tb_const 1 <|
  tb_callS sp_X5_told 3 <|
  tb_iload 2 <|
  tb_ic (fun x y => x ≠ y) (t_X5_find_57) <|
  tb_iload 1 <|
  tb_if (fun x => x = 0) (t_X5_find_53) <|
  tb_aload 0 <|
  tb_iload 5 <|
  tb_const 2 <|
  tb_callS sp_X5_told 3 <|
  tb_iload 3 <|
  tb_ic (fun x y => x ≠ y) (t_X5_find_57) <|
  t_X5_find_53
def t_X5_find_0 : am_T := tb_const (-4) <|
  tb_istore 4 <|
  tb_const 0 <|
  tb_istore 5 <|
  tb_head 7
def h_X5_find : am_Hd := fun h => if h = 0 then t_X5_find_0 else if h = 7 then t_X5_find_7 else tb_bad
theorem h_X5_find_0 : h_X5_find 0 = t_X5_find_0 := rfl
theorem h_X5_find_7 : h_X5_find 7 = t_X5_find_7 := rfl
def rm_X5_find : Room := { frames := 1, cells := 0, slots := 0, locals := 22 }
def sp_X5_find : am_sp := fun as M Q => as.length ≤ 7 ∧ am_OK h_X5_find Q 0 (am_in 7 as) M
theorem s_X5_find_80 {G : am_G} {bc bs : Nat} (X : am_Cx G cX5_find RX5 "find" rm_X5_find (some .int) 7 bc bs true) : am_S G 80 (t_X5_find_80) := by
  unfold t_X5_find_80
  refine as_iload (pc := 80) X dX5_find_80 ?_
  exact as_iret (pc := 82) X ⟨rfl, rfl⟩ rfl dX5_find_82
theorem s_X5_find_72 {G : am_G} {bc bs : Nat} (X : am_Cx G cX5_find RX5 "find" rm_X5_find (some .int) 7 bc bs true) : am_S G 72 (t_X5_find_72) := by
  unfold t_X5_find_72
  refine as_istore (pc := 72) X dX5_find_72 ?_ (by decide)
  refine as_iinc (pc := 74) X dX5_find_74 (by decide) (by decide) ?_
  exact as_goto (pc := 77) X 7 dX5_find_77 (by decide) (as_head)
theorem s_X5_find_70 {G : am_G} {bc bs : Nat} (X : am_Cx G cX5_find RX5 "find" rm_X5_find (some .int) 7 bc bs true) : am_S G 70 (t_X5_find_70) := by
  unfold t_X5_find_70
  refine as_iload (pc := 70) X dX5_find_70 ?_
  exact s_X5_find_72 X
theorem s_X5_find_58 {G : am_G} {bc bs : Nat} (X : am_Cx G cX5_find RX5 "find" rm_X5_find (some .int) 7 bc bs true) : am_S G 58 (t_X5_find_58) := by
  unfold t_X5_find_58
  refine as_istore (pc := 58) X dX5_find_58 ?_ (by decide)
  refine as_iload (pc := 60) X dX5_find_60 ?_
  refine as_if_eq (pc := 62) X 70 dX5_find_62 (by decide) (s_X5_find_70 X) ?_
  refine as_iload (pc := 65) X dX5_find_65 ?_
  exact as_goto (pc := 67) X 72 dX5_find_67 (by decide) (s_X5_find_72 X)
theorem s_X5_find_57 {G : am_G} {bc bs : Nat} (X : am_Cx G cX5_find RX5 "find" rm_X5_find (some .int) 7 bc bs true) : am_S G 57 (t_X5_find_57) := by
  unfold t_X5_find_57
  refine as_iconst (pc := 57) X dX5_find_57 (by decide) ?_
  exact s_X5_find_58 X
theorem s_X5_find_53 {G : am_G} {bc bs : Nat} (X : am_Cx G cX5_find RX5 "find" rm_X5_find (some .int) 7 bc bs true) : am_S G 53 (t_X5_find_53) := by
  unfold t_X5_find_53
  refine as_iconst (pc := 53) X dX5_find_53 (by decide) ?_
  exact as_goto (pc := 54) X 58 dX5_find_54 (by decide) (s_X5_find_58 X)
theorem s_X5_find_7 {G : am_G} {bc bs : Nat} (X : am_Cx G cX5_find RX5 "find" rm_X5_find (some .int) 7 bc bs true) : am_S G 7 (t_X5_find_7) := by
  unfold t_X5_find_7
  refine as_iload (pc := 7) X dX5_find_7 ?_
  refine as_aload_n (pc := 9) X dX5_find_9 rfl ?_
  refine as_bipush (pc := 10) X dX5_find_10 (by decide) ?_
  refine as_iald (pc := 12) X dX5_find_12 ?_
  refine as_ic_ge (pc := 13) X 80 dX5_find_13 (by decide) (s_X5_find_80 X) ?_
  refine as_aload_n (pc := 16) X dX5_find_16 rfl ?_
  refine as_iload (pc := 17) X dX5_find_17 ?_
  refine as_iconst (pc := 19) X dX5_find_19 (by decide) ?_
  refine as_callS (np := 3) (ix := 89) (pc := 20) X ct_X5_told ⟨rfl, rfl⟩ aw_851 aw_852 aw_853 aw_65 (by decide +kernel) (by decide) dX5_find_20 ?_
  refine as_iload_n (pc := 23) X dX5_find_23 rfl ?_
  refine as_ic_ne (pc := 24) X 57 dX5_find_24 (by decide) (s_X5_find_57 X) ?_
  refine as_aload_n (pc := 27) X dX5_find_27 rfl ?_
  refine as_iload (pc := 28) X dX5_find_28 ?_
  refine as_iconst (pc := 30) X dX5_find_30 (by decide) ?_
  refine as_callS (np := 3) (ix := 89) (pc := 31) X ct_X5_told ⟨rfl, rfl⟩ aw_851 aw_852 aw_853 aw_65 (by decide +kernel) (by decide) dX5_find_31 ?_
  refine as_iload_n (pc := 34) X dX5_find_34 rfl ?_
  refine as_ic_ne (pc := 35) X 57 dX5_find_35 (by decide) (s_X5_find_57 X) ?_
  refine as_iload_n (pc := 38) X dX5_find_38 rfl ?_
  refine as_if_eq (pc := 39) X 53 dX5_find_39 (by decide) (s_X5_find_53 X) ?_
  refine as_aload_n (pc := 42) X dX5_find_42 rfl ?_
  refine as_iload (pc := 43) X dX5_find_43 ?_
  refine as_iconst (pc := 45) X dX5_find_45 (by decide) ?_
  refine as_callS (np := 3) (ix := 89) (pc := 46) X ct_X5_told ⟨rfl, rfl⟩ aw_851 aw_852 aw_853 aw_65 (by decide +kernel) (by decide) dX5_find_46 ?_
  refine as_iload_n (pc := 49) X dX5_find_49 rfl ?_
  refine as_ic_ne (pc := 50) X 57 dX5_find_50 (by decide) (s_X5_find_57 X) ?_
  exact s_X5_find_53 X
theorem s_X5_find_0 {G : am_G} {bc bs : Nat} (X : am_Cx G cX5_find RX5 "find" rm_X5_find (some .int) 7 bc bs true) : am_S G 0 (t_X5_find_0) := by
  unfold t_X5_find_0
  refine as_bipush (pc := 0) X dX5_find_0 (by decide) ?_
  refine as_istore (pc := 2) X dX5_find_2 ?_ (by decide)
  refine as_iconst (pc := 4) X dX5_find_4 (by decide) ?_
  refine as_istore (pc := 5) X dX5_find_5 ?_ (by decide)
  exact as_head
theorem s_X5_find {G : am_G} {bc bs : Nat} (X : am_Cx G cX5_find RX5 "find" rm_X5_find (some .int) 7 bc bs true) (h : Nat) : am_S G h (h_X5_find h) := by
  unfold h_X5_find
  split
  · next e => rw [e]; exact s_X5_find_0 X
  split
  · next e => rw [e]; exact s_X5_find_7 X
  exact as_bad
theorem ct_X5_find : am_Ct yX5_find cX5_find 7 (some .int) rm_X5_find sp_X5_find := am_met (own := RX5) (nm := "find") (by decide) rfl rfl (Or.inr (Or.inl rfl)) (fun _ _ => h_X5_find) (fun _ _ _ X => s_X5_find X) (fun _ _ _ _ h => h)
