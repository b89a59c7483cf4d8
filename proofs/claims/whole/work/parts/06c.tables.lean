-- X1_removeFix
theorem dX1_removeFix_0 : decode cX1_removeFix 0 = .ok (.iload_n 1, 1) := by decide +kernel
theorem dX1_removeFix_1 : decode cX1_removeFix 1 = .ok (.iconst 1, 1) := by decide +kernel
theorem dX1_removeFix_2 : decode cX1_removeFix 2 = .ok (.iadd, 1) := by decide +kernel
theorem dX1_removeFix_3 : decode cX1_removeFix 3 = .ok (.istore_n 2, 1) := by decide +kernel
theorem dX1_removeFix_4 : decode cX1_removeFix 4 = .ok (.iload_n 2, 1) := by decide +kernel
theorem dX1_removeFix_5 : decode cX1_removeFix 5 = .ok (.aload_n 0, 1) := by decide +kernel
theorem dX1_removeFix_6 : decode cX1_removeFix 6 = .ok (.getfield 40, 3) := by decide +kernel
theorem dX1_removeFix_9 : decode cX1_removeFix 9 = .ok (.if_icmp .ge 51, 3) := by decide +kernel
theorem dX1_removeFix_12 : decode cX1_removeFix 12 = .ok (.aload_n 0, 1) := by decide +kernel
theorem dX1_removeFix_13 : decode cX1_removeFix 13 = .ok (.getfield 43, 3) := by decide +kernel
theorem dX1_removeFix_16 : decode cX1_removeFix 16 = .ok (.iload_n 2, 1) := by decide +kernel
theorem dX1_removeFix_17 : decode cX1_removeFix 17 = .ok (.iconst 1, 1) := by decide +kernel
theorem dX1_removeFix_18 : decode cX1_removeFix 18 = .ok (.isub, 1) := by decide +kernel
theorem dX1_removeFix_19 : decode cX1_removeFix 19 = .ok (.aload_n 0, 1) := by decide +kernel
theorem dX1_removeFix_20 : decode cX1_removeFix 20 = .ok (.getfield 43, 3) := by decide +kernel
theorem dX1_removeFix_23 : decode cX1_removeFix 23 = .ok (.iload_n 2, 1) := by decide +kernel
theorem dX1_removeFix_24 : decode cX1_removeFix 24 = .ok (.iaload, 1) := by decide +kernel
theorem dX1_removeFix_25 : decode cX1_removeFix 25 = .ok (.iastore, 1) := by decide +kernel
theorem dX1_removeFix_26 : decode cX1_removeFix 26 = .ok (.aload_n 0, 1) := by decide +kernel
theorem dX1_removeFix_27 : decode cX1_removeFix 27 = .ok (.getfield 46, 3) := by decide +kernel
theorem dX1_removeFix_30 : decode cX1_removeFix 30 = .ok (.iload_n 2, 1) := by decide +kernel
theorem dX1_removeFix_31 : decode cX1_removeFix 31 = .ok (.iconst 1, 1) := by decide +kernel
theorem dX1_removeFix_32 : decode cX1_removeFix 32 = .ok (.isub, 1) := by decide +kernel
theorem dX1_removeFix_33 : decode cX1_removeFix 33 = .ok (.aload_n 0, 1) := by decide +kernel
theorem dX1_removeFix_34 : decode cX1_removeFix 34 = .ok (.getfield 46, 3) := by decide +kernel
theorem dX1_removeFix_37 : decode cX1_removeFix 37 = .ok (.iload_n 2, 1) := by decide +kernel
theorem dX1_removeFix_38 : decode cX1_removeFix 38 = .ok (.iaload, 1) := by decide +kernel
theorem dX1_removeFix_39 : decode cX1_removeFix 39 = .ok (.iastore, 1) := by decide +kernel
theorem dX1_removeFix_40 : decode cX1_removeFix 40 = .ok (.aload_n 0, 1) := by decide +kernel
theorem dX1_removeFix_41 : decode cX1_removeFix 41 = .ok (.getfield 49, 3) := by decide +kernel
theorem dX1_removeFix_44 : decode cX1_removeFix 44 = .ok (.iload_n 2, 1) := by decide +kernel
theorem dX1_removeFix_45 : decode cX1_removeFix 45 = .ok (.iconst 1, 1) := by decide +kernel
theorem dX1_removeFix_46 : decode cX1_removeFix 46 = .ok (.isub, 1) := by decide +kernel
theorem dX1_removeFix_47 : decode cX1_removeFix 47 = .ok (.aload_n 0, 1) := by decide +kernel
theorem dX1_removeFix_48 : decode cX1_removeFix 48 = .ok (.getfield 49, 3) := by decide +kernel
theorem dX1_removeFix_51 : decode cX1_removeFix 51 = .ok (.iload_n 2, 1) := by decide +kernel
theorem dX1_removeFix_52 : decode cX1_removeFix 52 = .ok (.iaload, 1) := by decide +kernel
theorem dX1_removeFix_53 : decode cX1_removeFix 53 = .ok (.iastore, 1) := by decide +kernel
theorem dX1_removeFix_54 : decode cX1_removeFix 54 = .ok (.iinc 2 1, 3) := by decide +kernel
theorem dX1_removeFix_57 : decode cX1_removeFix 57 = .ok (.goto (-53), 3) := by decide +kernel
theorem dX1_removeFix_60 : decode cX1_removeFix 60 = .ok (.aload_n 0, 1) := by decide +kernel
theorem dX1_removeFix_61 : decode cX1_removeFix 61 = .ok (.dup, 1) := by decide +kernel
theorem dX1_removeFix_62 : decode cX1_removeFix 62 = .ok (.getfield 40, 3) := by decide +kernel
theorem dX1_removeFix_65 : decode cX1_removeFix 65 = .ok (.iconst 1, 1) := by decide +kernel
theorem dX1_removeFix_66 : decode cX1_removeFix 66 = .ok (.isub, 1) := by decide +kernel
theorem dX1_removeFix_67 : decode cX1_removeFix 67 = .ok (.putfield 40, 3) := by decide +kernel
theorem dX1_removeFix_70 : decode cX1_removeFix 70 = .ok (.return_, 1) := by decide +kernel
def t_X1_removeFix_60 : am_T := tb_aload 0 <|
  tb_dup <|
  tb_getI 1 9 <|
  tb_const 1 <|
  tb_bin (fun x y => x - y) <|
  tb_putI 1 9 <|
  tb_ret
def t_X1_removeFix_4 : am_T := tb_iload 2 <|
  tb_aload 0 <|
  tb_getI 1 9 <|
  tb_ic (fun x y => y ≤ x) (t_X1_removeFix_60) <|
  tb_aload 0 <|
  tb_getR 1 10 <|
  tb_iload 2 <|
  tb_const 1 <|
  tb_bin (fun x y => x - y) <|
  tb_aload 0 <|
  tb_getR 1 10 <|
  tb_iload 2 <|
  tb_iald <|
  tb_iast <|
  tb_aload 0 <|
  tb_getR 1 11 <|
  tb_iload 2 <|
  tb_const 1 <|
  tb_bin (fun x y => x - y) <|
  tb_aload 0 <|
  tb_getR 1 11 <|
  tb_iload 2 <|
  tb_iald <|
  tb_iast <|
  tb_aload 0 <|
  tb_getR 1 12 <|
  tb_iload 2 <|
  tb_const 1 <|
  tb_bin (fun x y => x - y) <|
  tb_aload 0 <|
  tb_getR 1 12 <|
  tb_iload 2 <|
  tb_iald <|
  tb_iast <|
  tb_iinc 2 1 <|
  tb_head 4
def t_X1_removeFix_0 : am_T := tb_iload 1 <|
  tb_const 1 <|
  tb_bin (fun x y => x + y) <|
  tb_istore 2 <|
  tb_head 4
def h_X1_removeFix : am_Hd := fun h => if h = 0 then t_X1_removeFix_0 else if h = 4 then t_X1_removeFix_4 else tb_bad
theorem h_X1_removeFix_0 : h_X1_removeFix 0 = t_X1_removeFix_0 := rfl
theorem h_X1_removeFix_4 : h_X1_removeFix 4 = t_X1_removeFix_4 := rfl
def rm_X1_removeFix : Room := { frames := 0, cells := 0, slots := 0, locals := 0 }
def sp_X1_removeFix : am_sp := fun as M Q => as.length ≤ 3 ∧ am_OK h_X1_removeFix Q 0 (am_in 3 as) M
theorem s_X1_removeFix_60 {G : am_G} {bc bs : Nat} (X : am_Cx G cX1_removeFix RX1 "removeFix" rm_X1_removeFix none 3 bc bs true) : am_S G 60 (t_X1_removeFix_60) := by
  unfold t_X1_removeFix_60
  refine as_aload_n (pc := 60) X dX1_removeFix_60 rfl ?_
  refine as_dup (pc := 61) X dX1_removeFix_61 ?_
  refine as_getI (ci := 1) (j := 9) (pc := 62) X (Cn := RX1) (Tf := TX1) (N := 14) rfl rfl (by decide) iw_X1 aw_113 rfl dX1_removeFix_62 ?_
  refine as_iconst (pc := 65) X dX1_removeFix_65 (by decide) ?_
  refine as_isub (pc := 66) X dX1_removeFix_66 ?_
  refine as_putI (ci := 1) (j := 9) (pc := 67) X (Cn := RX1) (Tf := TX1) (N := 14) rfl rfl (by decide) iw_X1 aw_113 tyX1 tyX1_ok nmX1 rfl rfl (by decide +kernel) dX1_removeFix_67 ?_
  exact as_ret (pc := 70) X ⟨rfl, rfl⟩ rfl dX1_removeFix_70
theorem s_X1_removeFix_4 {G : am_G} {bc bs : Nat} (X : am_Cx G cX1_removeFix RX1 "removeFix" rm_X1_removeFix none 3 bc bs true) : am_S G 4 (t_X1_removeFix_4) := by
  unfold t_X1_removeFix_4
  refine as_iload_n (pc := 4) X dX1_removeFix_4 rfl ?_
  refine as_aload_n (pc := 5) X dX1_removeFix_5 rfl ?_
  refine as_getI (ci := 1) (j := 9) (pc := 6) X (Cn := RX1) (Tf := TX1) (N := 14) rfl rfl (by decide) iw_X1 aw_113 rfl dX1_removeFix_6 ?_
  refine as_ic_ge (pc := 9) X 60 dX1_removeFix_9 (by decide) (s_X1_removeFix_60 X) ?_
  refine as_aload_n (pc := 12) X dX1_removeFix_12 rfl ?_
  refine as_getR (ci := 1) (j := 10) (pc := 13) X (Cn := RX1) (Tf := TX1) (N := 14) rfl rfl (by decide) iw_X1 aw_117 rfl dX1_removeFix_13 ?_
  refine as_iload_n (pc := 16) X dX1_removeFix_16 rfl ?_
  refine as_iconst (pc := 17) X dX1_removeFix_17 (by decide) ?_
  refine as_isub (pc := 18) X dX1_removeFix_18 ?_
  refine as_aload_n (pc := 19) X dX1_removeFix_19 rfl ?_
  refine as_getR (ci := 1) (j := 10) (pc := 20) X (Cn := RX1) (Tf := TX1) (N := 14) rfl rfl (by decide) iw_X1 aw_117 rfl dX1_removeFix_20 ?_
  refine as_iload_n (pc := 23) X dX1_removeFix_23 rfl ?_
  refine as_iald (pc := 24) X dX1_removeFix_24 ?_
  refine as_iast (pc := 25) X dX1_removeFix_25 ?_
  refine as_aload_n (pc := 26) X dX1_removeFix_26 rfl ?_
  refine as_getR (ci := 1) (j := 11) (pc := 27) X (Cn := RX1) (Tf := TX1) (N := 14) rfl rfl (by decide) iw_X1 aw_120 rfl dX1_removeFix_27 ?_
  refine as_iload_n (pc := 30) X dX1_removeFix_30 rfl ?_
  refine as_iconst (pc := 31) X dX1_removeFix_31 (by decide) ?_
  refine as_isub (pc := 32) X dX1_removeFix_32 ?_
  refine as_aload_n (pc := 33) X dX1_removeFix_33 rfl ?_
  refine as_getR (ci := 1) (j := 11) (pc := 34) X (Cn := RX1) (Tf := TX1) (N := 14) rfl rfl (by decide) iw_X1 aw_120 rfl dX1_removeFix_34 ?_
  refine as_iload_n (pc := 37) X dX1_removeFix_37 rfl ?_
  refine as_iald (pc := 38) X dX1_removeFix_38 ?_
  refine as_iast (pc := 39) X dX1_removeFix_39 ?_
  refine as_aload_n (pc := 40) X dX1_removeFix_40 rfl ?_
  refine as_getR (ci := 1) (j := 12) (pc := 41) X (Cn := RX1) (Tf := TX1) (N := 14) rfl rfl (by decide) iw_X1 aw_123 rfl dX1_removeFix_41 ?_
  refine as_iload_n (pc := 44) X dX1_removeFix_44 rfl ?_
  refine as_iconst (pc := 45) X dX1_removeFix_45 (by decide) ?_
  refine as_isub (pc := 46) X dX1_removeFix_46 ?_
  refine as_aload_n (pc := 47) X dX1_removeFix_47 rfl ?_
  refine as_getR (ci := 1) (j := 12) (pc := 48) X (Cn := RX1) (Tf := TX1) (N := 14) rfl rfl (by decide) iw_X1 aw_123 rfl dX1_removeFix_48 ?_
  refine as_iload_n (pc := 51) X dX1_removeFix_51 rfl ?_
  refine as_iald (pc := 52) X dX1_removeFix_52 ?_
  refine as_iast (pc := 53) X dX1_removeFix_53 ?_
  refine as_iinc (pc := 54) X dX1_removeFix_54 (by decide) (by decide) ?_
  exact as_goto (pc := 57) X 4 dX1_removeFix_57 (by decide) (as_head)
theorem s_X1_removeFix_0 {G : am_G} {bc bs : Nat} (X : am_Cx G cX1_removeFix RX1 "removeFix" rm_X1_removeFix none 3 bc bs true) : am_S G 0 (t_X1_removeFix_0) := by
  unfold t_X1_removeFix_0
  refine as_iload_n (pc := 0) X dX1_removeFix_0 rfl ?_
  refine as_iconst (pc := 1) X dX1_removeFix_1 (by decide) ?_
  refine as_iadd (pc := 2) X dX1_removeFix_2 ?_
  refine as_istore_n (pc := 3) X dX1_removeFix_3 rfl ?_ (by decide)
  exact as_head
theorem s_X1_removeFix {G : am_G} {bc bs : Nat} (X : am_Cx G cX1_removeFix RX1 "removeFix" rm_X1_removeFix none 3 bc bs true) (h : Nat) : am_S G h (h_X1_removeFix h) := by
  unfold h_X1_removeFix
  split
  · next e => rw [e]; exact s_X1_removeFix_0 X
  split
  · next e => rw [e]; exact s_X1_removeFix_4 X
  exact as_bad
theorem ct_X1_removeFix : am_Ct yX1_removeFix cX1_removeFix 3 none rm_X1_removeFix sp_X1_removeFix := am_met (own := RX1) (nm := "removeFix") (by decide) rfl rfl (Or.inl rfl) (fun _ _ => h_X1_removeFix) (fun _ _ _ X => s_X1_removeFix X) (fun _ _ _ _ h => h)
-- X1_numberWithout
theorem dX1_numberWithout_0 : decode cX1_numberWithout 0 = .ok (.iload_n 1, 1) := by decide +kernel
theorem dX1_numberWithout_1 : decode cX1_numberWithout 1 = .ok (.iload_n 0, 1) := by decide +kernel
theorem dX1_numberWithout_2 : decode cX1_numberWithout 2 = .ok (.if_icmp .le 9, 3) := by decide +kernel
theorem dX1_numberWithout_5 : decode cX1_numberWithout 5 = .ok (.iload_n 1, 1) := by decide +kernel
theorem dX1_numberWithout_6 : decode cX1_numberWithout 6 = .ok (.iconst 1, 1) := by decide +kernel
theorem dX1_numberWithout_7 : decode cX1_numberWithout 7 = .ok (.isub, 1) := by decide +kernel
theorem dX1_numberWithout_8 : decode cX1_numberWithout 8 = .ok (.goto 4, 3) := by decide +kernel
theorem dX1_numberWithout_11 : decode cX1_numberWithout 11 = .ok (.iload_n 1, 1) := by decide +kernel
theorem dX1_numberWithout_12 : decode cX1_numberWithout 12 = .ok (.ireturn, 1) := by decide +kernel
def t_X1_numberWithout_12 : am_T := tb_iret
def t_X1_numberWithout_11 : am_T := tb_iload 1 <|
  t_X1_numberWithout_12
def t_X1_numberWithout_0 : am_T := tb_iload 1 <|
  tb_iload 0 <|
  tb_ic (fun x y => x ≤ y) (t_X1_numberWithout_11) <|
  tb_iload 1 <|
  tb_const 1 <|
  tb_bin (fun x y => x - y) <|
  t_X1_numberWithout_12
def h_X1_numberWithout : am_Hd := fun h => if h = 0 then t_X1_numberWithout_0 else tb_bad
theorem h_X1_numberWithout_0 : h_X1_numberWithout 0 = t_X1_numberWithout_0 := rfl
def rm_X1_numberWithout : Room := { frames := 0, cells := 0, slots := 0, locals := 0 }
def sp_X1_numberWithout : am_sp := fun as M Q => as.length ≤ 2 ∧ am_OK h_X1_numberWithout Q 0 (am_in 2 as) M
theorem s_X1_numberWithout_12 {G : am_G} {bc bs : Nat} (X : am_Cx G cX1_numberWithout RX1 "numberWithout" rm_X1_numberWithout (some .int) 2 bc bs true) : am_S G 12 (t_X1_numberWithout_12) := by
  unfold t_X1_numberWithout_12
  exact as_iret (pc := 12) X ⟨rfl, rfl⟩ rfl dX1_numberWithout_12
theorem s_X1_numberWithout_11 {G : am_G} {bc bs : Nat} (X : am_Cx G cX1_numberWithout RX1 "numberWithout" rm_X1_numberWithout (some .int) 2 bc bs true) : am_S G 11 (t_X1_numberWithout_11) := by
  unfold t_X1_numberWithout_11
  refine as_iload_n (pc := 11) X dX1_numberWithout_11 rfl ?_
  exact s_X1_numberWithout_12 X
theorem s_X1_numberWithout_0 {G : am_G} {bc bs : Nat} (X : am_Cx G cX1_numberWithout RX1 "numberWithout" rm_X1_numberWithout (some .int) 2 bc bs true) : am_S G 0 (t_X1_numberWithout_0) := by
  unfold t_X1_numberWithout_0
  refine as_iload_n (pc := 0) X dX1_numberWithout_0 rfl ?_
  refine as_iload_n (pc := 1) X dX1_numberWithout_1 rfl ?_
  refine as_ic_le (pc := 2) X 11 dX1_numberWithout_2 (by decide) (s_X1_numberWithout_11 X) ?_
  refine as_iload_n (pc := 5) X dX1_numberWithout_5 rfl ?_
  refine as_iconst (pc := 6) X dX1_numberWithout_6 (by decide) ?_
  refine as_isub (pc := 7) X dX1_numberWithout_7 ?_
  exact as_goto (pc := 8) X 12 dX1_numberWithout_8 (by decide) (s_X1_numberWithout_12 X)
theorem s_X1_numberWithout {G : am_G} {bc bs : Nat} (X : am_Cx G cX1_numberWithout RX1 "numberWithout" rm_X1_numberWithout (some .int) 2 bc bs true) (h : Nat) : am_S G h (h_X1_numberWithout h) := by
  unfold h_X1_numberWithout
  split
  · next e => rw [e]; exact s_X1_numberWithout_0 X
  exact as_bad
theorem ct_X1_numberWithout : am_Ct yX1_numberWithout cX1_numberWithout 2 (some .int) rm_X1_numberWithout sp_X1_numberWithout := am_met (own := RX1) (nm := "numberWithout") (by decide) rfl rfl (Or.inr (Or.inl rfl)) (fun _ _ => h_X1_numberWithout) (fun _ _ _ X => s_X1_numberWithout X) (fun _ _ _ _ h => h)
-- X1_removeLine
theorem dX1_removeLine_0 : decode cX1_removeLine 0 = .ok (.aload_n 0, 1) := by decide +kernel
theorem dX1_removeLine_1 : decode cX1_removeLine 1 = .ok (.getfield 40, 3) := by decide +kernel
theorem dX1_removeLine_4 : decode cX1_removeLine 4 = .ok (.iconst 1, 1) := by decide +kernel
theorem dX1_removeLine_5 : decode cX1_removeLine 5 = .ok (.isub, 1) := by decide +kernel
theorem dX1_removeLine_6 : decode cX1_removeLine 6 = .ok (.istore_n 2, 1) := by decide +kernel
theorem dX1_removeLine_7 : decode cX1_removeLine 7 = .ok (.iload_n 2, 1) := by decide +kernel
theorem dX1_removeLine_8 : decode cX1_removeLine 8 = .ok (.ifCond .lt 34, 3) := by decide +kernel
theorem dX1_removeLine_11 : decode cX1_removeLine 11 = .ok (.aload_n 0, 1) := by decide +kernel
theorem dX1_removeLine_12 : decode cX1_removeLine 12 = .ok (.getfield 46, 3) := by decide +kernel
theorem dX1_removeLine_15 : decode cX1_removeLine 15 = .ok (.iload_n 2, 1) := by decide +kernel
theorem dX1_removeLine_16 : decode cX1_removeLine 16 = .ok (.iaload, 1) := by decide +kernel
theorem dX1_removeLine_17 : decode cX1_removeLine 17 = .ok (.iload_n 1, 1) := by decide +kernel
theorem dX1_removeLine_18 : decode cX1_removeLine 18 = .ok (.if_icmp .eq 13, 3) := by decide +kernel
theorem dX1_removeLine_21 : decode cX1_removeLine 21 = .ok (.aload_n 0, 1) := by decide +kernel
theorem dX1_removeLine_22 : decode cX1_removeLine 22 = .ok (.getfield 49, 3) := by decide +kernel
theorem dX1_removeLine_25 : decode cX1_removeLine 25 = .ok (.iload_n 2, 1) := by decide +kernel
theorem dX1_removeLine_26 : decode cX1_removeLine 26 = .ok (.iaload, 1) := by decide +kernel
theorem dX1_removeLine_27 : decode cX1_removeLine 27 = .ok (.iload_n 1, 1) := by decide +kernel
theorem dX1_removeLine_28 : decode cX1_removeLine 28 = .ok (.if_icmp .ne 8, 3) := by decide +kernel
theorem dX1_removeLine_31 : decode cX1_removeLine 31 = .ok (.aload_n 0, 1) := by decide +kernel
theorem dX1_removeLine_32 : decode cX1_removeLine 32 = .ok (.iload_n 2, 1) := by decide +kernel
theorem dX1_removeLine_33 : decode cX1_removeLine 33 = .ok (.invokevirtual 72, 3) := by decide +kernel
theorem dX1_removeLine_36 : decode cX1_removeLine 36 = .ok (.iinc 2 (-1), 3) := by decide +kernel
theorem dX1_removeLine_39 : decode cX1_removeLine 39 = .ok (.goto (-32), 3) := by decide +kernel
theorem dX1_removeLine_42 : decode cX1_removeLine 42 = .ok (.iconst 0, 1) := by decide +kernel
theorem dX1_removeLine_43 : decode cX1_removeLine 43 = .ok (.istore_n 2, 1) := by decide +kernel
theorem dX1_removeLine_44 : decode cX1_removeLine 44 = .ok (.iload_n 2, 1) := by decide +kernel
theorem dX1_removeLine_45 : decode cX1_removeLine 45 = .ok (.aload_n 0, 1) := by decide +kernel
theorem dX1_removeLine_46 : decode cX1_removeLine 46 = .ok (.getfield 40, 3) := by decide +kernel
theorem dX1_removeLine_49 : decode cX1_removeLine 49 = .ok (.if_icmp .ge 41, 3) := by decide +kernel
theorem dX1_removeLine_52 : decode cX1_removeLine 52 = .ok (.aload_n 0, 1) := by decide +kernel
theorem dX1_removeLine_53 : decode cX1_removeLine 53 = .ok (.getfield 46, 3) := by decide +kernel
theorem dX1_removeLine_56 : decode cX1_removeLine 56 = .ok (.iload_n 2, 1) := by decide +kernel
theorem dX1_removeLine_57 : decode cX1_removeLine 57 = .ok (.iload_n 1, 1) := by decide +kernel
theorem dX1_removeLine_58 : decode cX1_removeLine 58 = .ok (.aload_n 0, 1) := by decide +kernel
theorem dX1_removeLine_59 : decode cX1_removeLine 59 = .ok (.getfield 46, 3) := by decide +kernel
theorem dX1_removeLine_62 : decode cX1_removeLine 62 = .ok (.iload_n 2, 1) := by decide +kernel
theorem dX1_removeLine_63 : decode cX1_removeLine 63 = .ok (.iaload, 1) := by decide +kernel
theorem dX1_removeLine_64 : decode cX1_removeLine 64 = .ok (.invokestatic 76, 3) := by decide +kernel
theorem dX1_removeLine_67 : decode cX1_removeLine 67 = .ok (.iastore, 1) := by decide +kernel
theorem dX1_removeLine_68 : decode cX1_removeLine 68 = .ok (.aload_n 0, 1) := by decide +kernel
theorem dX1_removeLine_69 : decode cX1_removeLine 69 = .ok (.getfield 49, 3) := by decide +kernel
theorem dX1_removeLine_72 : decode cX1_removeLine 72 = .ok (.iload_n 2, 1) := by decide +kernel
theorem dX1_removeLine_73 : decode cX1_removeLine 73 = .ok (.iload_n 1, 1) := by decide +kernel
theorem dX1_removeLine_74 : decode cX1_removeLine 74 = .ok (.aload_n 0, 1) := by decide +kernel
theorem dX1_removeLine_75 : decode cX1_removeLine 75 = .ok (.getfield 49, 3) := by decide +kernel
theorem dX1_removeLine_78 : decode cX1_removeLine 78 = .ok (.iload_n 2, 1) := by decide +kernel
theorem dX1_removeLine_79 : decode cX1_removeLine 79 = .ok (.iaload, 1) := by decide +kernel
theorem dX1_removeLine_80 : decode cX1_removeLine 80 = .ok (.invokestatic 76, 3) := by decide +kernel
theorem dX1_removeLine_83 : decode cX1_removeLine 83 = .ok (.iastore, 1) := by decide +kernel
theorem dX1_removeLine_84 : decode cX1_removeLine 84 = .ok (.iinc 2 1, 3) := by decide +kernel
theorem dX1_removeLine_87 : decode cX1_removeLine 87 = .ok (.goto (-43), 3) := by decide +kernel
theorem dX1_removeLine_90 : decode cX1_removeLine 90 = .ok (.iload_n 1, 1) := by decide +kernel
theorem dX1_removeLine_91 : decode cX1_removeLine 91 = .ok (.iconst 1, 1) := by decide +kernel
theorem dX1_removeLine_92 : decode cX1_removeLine 92 = .ok (.iadd, 1) := by decide +kernel
theorem dX1_removeLine_93 : decode cX1_removeLine 93 = .ok (.istore_n 2, 1) := by decide +kernel
theorem dX1_removeLine_94 : decode cX1_removeLine 94 = .ok (.iload_n 2, 1) := by decide +kernel
theorem dX1_removeLine_95 : decode cX1_removeLine 95 = .ok (.aload_n 0, 1) := by decide +kernel
theorem dX1_removeLine_96 : decode cX1_removeLine 96 = .ok (.getfield 25, 3) := by decide +kernel
theorem dX1_removeLine_99 : decode cX1_removeLine 99 = .ok (.if_icmp .ge 65, 3) := by decide +kernel
theorem dX1_removeLine_102 : decode cX1_removeLine 102 = .ok (.aload_n 0, 1) := by decide +kernel
theorem dX1_removeLine_103 : decode cX1_removeLine 103 = .ok (.getfield 28, 3) := by decide +kernel
theorem dX1_removeLine_106 : decode cX1_removeLine 106 = .ok (.iload_n 2, 1) := by decide +kernel
theorem dX1_removeLine_107 : decode cX1_removeLine 107 = .ok (.iconst 1, 1) := by decide +kernel
theorem dX1_removeLine_108 : decode cX1_removeLine 108 = .ok (.isub, 1) := by decide +kernel
theorem dX1_removeLine_109 : decode cX1_removeLine 109 = .ok (.aload_n 0, 1) := by decide +kernel
theorem dX1_removeLine_110 : decode cX1_removeLine 110 = .ok (.getfield 28, 3) := by decide +kernel
theorem dX1_removeLine_113 : decode cX1_removeLine 113 = .ok (.iload_n 2, 1) := by decide +kernel
theorem dX1_removeLine_114 : decode cX1_removeLine 114 = .ok (.iaload, 1) := by decide +kernel
theorem dX1_removeLine_115 : decode cX1_removeLine 115 = .ok (.iastore, 1) := by decide +kernel
theorem dX1_removeLine_116 : decode cX1_removeLine 116 = .ok (.aload_n 0, 1) := by decide +kernel
theorem dX1_removeLine_117 : decode cX1_removeLine 117 = .ok (.getfield 31, 3) := by decide +kernel
theorem dX1_removeLine_120 : decode cX1_removeLine 120 = .ok (.iload_n 2, 1) := by decide +kernel
theorem dX1_removeLine_121 : decode cX1_removeLine 121 = .ok (.iconst 1, 1) := by decide +kernel
theorem dX1_removeLine_122 : decode cX1_removeLine 122 = .ok (.isub, 1) := by decide +kernel
theorem dX1_removeLine_123 : decode cX1_removeLine 123 = .ok (.aload_n 0, 1) := by decide +kernel
theorem dX1_removeLine_124 : decode cX1_removeLine 124 = .ok (.getfield 31, 3) := by decide +kernel
theorem dX1_removeLine_127 : decode cX1_removeLine 127 = .ok (.iload_n 2, 1) := by decide +kernel
theorem dX1_removeLine_128 : decode cX1_removeLine 128 = .ok (.iaload, 1) := by decide +kernel
theorem dX1_removeLine_129 : decode cX1_removeLine 129 = .ok (.iastore, 1) := by decide +kernel
theorem dX1_removeLine_130 : decode cX1_removeLine 130 = .ok (.aload_n 0, 1) := by decide +kernel
theorem dX1_removeLine_131 : decode cX1_removeLine 131 = .ok (.getfield 34, 3) := by decide +kernel
theorem dX1_removeLine_134 : decode cX1_removeLine 134 = .ok (.iload_n 2, 1) := by decide +kernel
theorem dX1_removeLine_135 : decode cX1_removeLine 135 = .ok (.iconst 1, 1) := by decide +kernel
theorem dX1_removeLine_136 : decode cX1_removeLine 136 = .ok (.isub, 1) := by decide +kernel
theorem dX1_removeLine_137 : decode cX1_removeLine 137 = .ok (.aload_n 0, 1) := by decide +kernel
theorem dX1_removeLine_138 : decode cX1_removeLine 138 = .ok (.getfield 34, 3) := by decide +kernel
theorem dX1_removeLine_141 : decode cX1_removeLine 141 = .ok (.iload_n 2, 1) := by decide +kernel
theorem dX1_removeLine_142 : decode cX1_removeLine 142 = .ok (.iaload, 1) := by decide +kernel
theorem dX1_removeLine_143 : decode cX1_removeLine 143 = .ok (.iastore, 1) := by decide +kernel
theorem dX1_removeLine_144 : decode cX1_removeLine 144 = .ok (.aload_n 0, 1) := by decide +kernel
theorem dX1_removeLine_145 : decode cX1_removeLine 145 = .ok (.getfield 37, 3) := by decide +kernel
theorem dX1_removeLine_148 : decode cX1_removeLine 148 = .ok (.iload_n 2, 1) := by decide +kernel
theorem dX1_removeLine_149 : decode cX1_removeLine 149 = .ok (.iconst 1, 1) := by decide +kernel
theorem dX1_removeLine_150 : decode cX1_removeLine 150 = .ok (.isub, 1) := by decide +kernel
theorem dX1_removeLine_151 : decode cX1_removeLine 151 = .ok (.aload_n 0, 1) := by decide +kernel
theorem dX1_removeLine_152 : decode cX1_removeLine 152 = .ok (.getfield 37, 3) := by decide +kernel
theorem dX1_removeLine_155 : decode cX1_removeLine 155 = .ok (.iload_n 2, 1) := by decide +kernel
theorem dX1_removeLine_156 : decode cX1_removeLine 156 = .ok (.iaload, 1) := by decide +kernel
theorem dX1_removeLine_157 : decode cX1_removeLine 157 = .ok (.iastore, 1) := by decide +kernel
theorem dX1_removeLine_158 : decode cX1_removeLine 158 = .ok (.iinc 2 1, 3) := by decide +kernel
theorem dX1_removeLine_161 : decode cX1_removeLine 161 = .ok (.goto (-67), 3) := by decide +kernel
theorem dX1_removeLine_164 : decode cX1_removeLine 164 = .ok (.aload_n 0, 1) := by decide +kernel
theorem dX1_removeLine_165 : decode cX1_removeLine 165 = .ok (.dup, 1) := by decide +kernel
theorem dX1_removeLine_166 : decode cX1_removeLine 166 = .ok (.getfield 25, 3) := by decide +kernel
theorem dX1_removeLine_169 : decode cX1_removeLine 169 = .ok (.iconst 1, 1) := by decide +kernel
theorem dX1_removeLine_170 : decode cX1_removeLine 170 = .ok (.isub, 1) := by decide +kernel
theorem dX1_removeLine_171 : decode cX1_removeLine 171 = .ok (.putfield 25, 3) := by decide +kernel
theorem dX1_removeLine_174 : decode cX1_removeLine 174 = .ok (.return_, 1) := by decide +kernel
def t_X1_removeLine_164 : am_T := tb_aload 0 <|
  tb_dup <|
  tb_getI 1 4 <|
  tb_const 1 <|
  tb_bin (fun x y => x - y) <|
  tb_putI 1 4 <|
  tb_ret
def t_X1_removeLine_94 : am_T := tb_iload 2 <|
  tb_aload 0 <|
  tb_getI 1 4 <|
  tb_ic (fun x y => y ≤ x) (t_X1_removeLine_164) <|
  tb_aload 0 <|
  tb_getR 1 5 <|
  tb_iload 2 <|
  tb_const 1 <|
  tb_bin (fun x y => x - y) <|
  tb_aload 0 <|
  tb_getR 1 5 <|
  tb_iload 2 <|
  tb_iald <|
  tb_iast <|
  tb_aload 0 <|
  tb_getR 1 6 <|
  tb_iload 2 <|
  tb_const 1 <|
  tb_bin (fun x y => x - y) <|
  tb_aload 0 <|
  tb_getR 1 6 <|
  tb_iload 2 <|
  tb_iald <|
  tb_iast <|
  tb_aload 0 <|
  tb_getR 1 7 <|
  tb_iload 2 <|
  tb_const 1 <|
  tb_bin (fun x y => x - y) <|
  tb_aload 0 <|
  tb_getR 1 7 <|
  tb_iload 2 <|
  tb_iald <|
  tb_iast <|
  tb_aload 0 <|
  tb_getR 1 8 <|
  tb_iload 2 <|
  tb_const 1 <|
  tb_bin (fun x y => x - y) <|
  tb_aload 0 <|
  tb_getR 1 8 <|
  tb_iload 2 <|
  tb_iald <|
  tb_iast <|
  tb_iinc 2 1 <|
  tb_head 94
def t_X1_removeLine_90 : am_T := tb_iload 1 <|
  tb_const 1 <|
  tb_bin (fun x y => x + y) <|
  tb_istore 2 <|
  tb_head 94
def t_X1_removeLine_44 : am_T := tb_iload 2 <|
  tb_aload 0 <|
  tb_getI 1 9 <|
  tb_ic (fun x y => y ≤ x) (t_X1_removeLine_90) <|
  tb_aload 0 <|
  tb_getR 1 11 <|
  tb_iload 2 <|
  tb_iload 1 <|
  tb_aload 0 <|
  tb_getR 1 11 <|
  tb_iload 2 <|
  tb_iald <|
  tb_callS sp_X1_numberWithout 2 <|
  tb_iast <|
  tb_aload 0 <|
  tb_getR 1 12 <|
  tb_iload 2 <|
  tb_iload 1 <|
  tb_aload 0 <|
  tb_getR 1 12 <|
  tb_iload 2 <|
  tb_iald <|
  tb_callS sp_X1_numberWithout 2 <|
  tb_iast <|
  tb_iinc 2 1 <|
  tb_head 44
def t_X1_removeLine_42 : am_T := tb_const 0 <|
  tb_istore 2 <|
  tb_head 44
def t_X1_removeLine_36 : am_T := tb_iinc 2 (-1) <|
  tb_head 7
def t_X1_removeLine_31 : am_T := tb_aload 0 <|
  tb_iload 2 <|
  tb_callV 1 sp_X1_removeFix 2 <|
  t_X1_removeLine_36
def t_X1_removeLine_7 : am_T := tb_iload 2 <|
  tb_if (fun x => x < 0) (t_X1_removeLine_42) <|
  tb_aload 0 <|
  tb_getR 1 11 <|
  tb_iload 2 <|
  tb_iald <|
  tb_iload 1 <|
  tb_ic (fun x y => x = y) (t_X1_removeLine_31) <|
  tb_aload 0 <|
  tb_getR 1 12 <|
  tb_iload 2 <|
  tb_iald <|
  tb_iload 1 <|
  tb_ic (fun x y => x ≠ y) (t_X1_removeLine_36) <|
  t_X1_removeLine_31
def t_X1_removeLine_0 : am_T := tb_aload 0 <|
  tb_getI 1 9 <|
  tb_const 1 <|
  tb_bin (fun x y => x - y) <|
  tb_istore 2 <|
  tb_head 7
def h_X1_removeLine : am_Hd := fun h => if h = 0 then t_X1_removeLine_0 else if h = 7 then t_X1_removeLine_7 else if h = 44 then t_X1_removeLine_44 else if h = 94 then t_X1_removeLine_94 else tb_bad
theorem h_X1_removeLine_0 : h_X1_removeLine 0 = t_X1_removeLine_0 := rfl
theorem h_X1_removeLine_7 : h_X1_removeLine 7 = t_X1_removeLine_7 := rfl
theorem h_X1_removeLine_44 : h_X1_removeLine 44 = t_X1_removeLine_44 := rfl
theorem h_X1_removeLine_94 : h_X1_removeLine 94 = t_X1_removeLine_94 := rfl
def rm_X1_removeLine : Room := { frames := 1, cells := 0, slots := 0, locals := 22 }
def sp_X1_removeLine : am_sp := fun as M Q => as.length ≤ 3 ∧ am_OK h_X1_removeLine Q 0 (am_in 3 as) M
theorem s_X1_removeLine_164 {G : am_G} {bc bs : Nat} (X : am_Cx G cX1_removeLine RX1 "removeLine" rm_X1_removeLine none 3 bc bs true) : am_S G 164 (t_X1_removeLine_164) := by
  unfold t_X1_removeLine_164
  refine as_aload_n (pc := 164) X dX1_removeLine_164 rfl ?_
  refine as_dup (pc := 165) X dX1_removeLine_165 ?_
  refine as_getI (ci := 1) (j := 4) (pc := 166) X (Cn := RX1) (Tf := TX1) (N := 14) rfl rfl (by decide) iw_X1 aw_98 rfl dX1_removeLine_166 ?_
  refine as_iconst (pc := 169) X dX1_removeLine_169 (by decide) ?_
  refine as_isub (pc := 170) X dX1_removeLine_170 ?_
  refine as_putI (ci := 1) (j := 4) (pc := 171) X (Cn := RX1) (Tf := TX1) (N := 14) rfl rfl (by decide) iw_X1 aw_98 tyX1 tyX1_ok nmX1 rfl rfl (by decide +kernel) dX1_removeLine_171 ?_
  exact as_ret (pc := 174) X ⟨rfl, rfl⟩ rfl dX1_removeLine_174
theorem s_X1_removeLine_94 {G : am_G} {bc bs : Nat} (X : am_Cx G cX1_removeLine RX1 "removeLine" rm_X1_removeLine none 3 bc bs true) : am_S G 94 (t_X1_removeLine_94) := by
  unfold t_X1_removeLine_94
  refine as_iload_n (pc := 94) X dX1_removeLine_94 rfl ?_
  refine as_aload_n (pc := 95) X dX1_removeLine_95 rfl ?_
  refine as_getI (ci := 1) (j := 4) (pc := 96) X (Cn := RX1) (Tf := TX1) (N := 14) rfl rfl (by decide) iw_X1 aw_98 rfl dX1_removeLine_96 ?_
  refine as_ic_ge (pc := 99) X 164 dX1_removeLine_99 (by decide) (s_X1_removeLine_164 X) ?_
  refine as_aload_n (pc := 102) X dX1_removeLine_102 rfl ?_
  refine as_getR (ci := 1) (j := 5) (pc := 103) X (Cn := RX1) (Tf := TX1) (N := 14) rfl rfl (by decide) iw_X1 aw_102 rfl dX1_removeLine_103 ?_
  refine as_iload_n (pc := 106) X dX1_removeLine_106 rfl ?_
  refine as_iconst (pc := 107) X dX1_removeLine_107 (by decide) ?_
  refine as_isub (pc := 108) X dX1_removeLine_108 ?_
  refine as_aload_n (pc := 109) X dX1_removeLine_109 rfl ?_
  refine as_getR (ci := 1) (j := 5) (pc := 110) X (Cn := RX1) (Tf := TX1) (N := 14) rfl rfl (by decide) iw_X1 aw_102 rfl dX1_removeLine_110 ?_
  refine as_iload_n (pc := 113) X dX1_removeLine_113 rfl ?_
  refine as_iald (pc := 114) X dX1_removeLine_114 ?_
  refine as_iast (pc := 115) X dX1_removeLine_115 ?_
  refine as_aload_n (pc := 116) X dX1_removeLine_116 rfl ?_
  refine as_getR (ci := 1) (j := 6) (pc := 117) X (Cn := RX1) (Tf := TX1) (N := 14) rfl rfl (by decide) iw_X1 aw_105 rfl dX1_removeLine_117 ?_
  refine as_iload_n (pc := 120) X dX1_removeLine_120 rfl ?_
  refine as_iconst (pc := 121) X dX1_removeLine_121 (by decide) ?_
  refine as_isub (pc := 122) X dX1_removeLine_122 ?_
  refine as_aload_n (pc := 123) X dX1_removeLine_123 rfl ?_
  refine as_getR (ci := 1) (j := 6) (pc := 124) X (Cn := RX1) (Tf := TX1) (N := 14) rfl rfl (by decide) iw_X1 aw_105 rfl dX1_removeLine_124 ?_
  refine as_iload_n (pc := 127) X dX1_removeLine_127 rfl ?_
  refine as_iald (pc := 128) X dX1_removeLine_128 ?_
  refine as_iast (pc := 129) X dX1_removeLine_129 ?_
  refine as_aload_n (pc := 130) X dX1_removeLine_130 rfl ?_
  refine as_getR (ci := 1) (j := 7) (pc := 131) X (Cn := RX1) (Tf := TX1) (N := 14) rfl rfl (by decide) iw_X1 aw_108 rfl dX1_removeLine_131 ?_
  refine as_iload_n (pc := 134) X dX1_removeLine_134 rfl ?_
  refine as_iconst (pc := 135) X dX1_removeLine_135 (by decide) ?_
  refine as_isub (pc := 136) X dX1_removeLine_136 ?_
  refine as_aload_n (pc := 137) X dX1_removeLine_137 rfl ?_
  refine as_getR (ci := 1) (j := 7) (pc := 138) X (Cn := RX1) (Tf := TX1) (N := 14) rfl rfl (by decide) iw_X1 aw_108 rfl dX1_removeLine_138 ?_
  refine as_iload_n (pc := 141) X dX1_removeLine_141 rfl ?_
  refine as_iald (pc := 142) X dX1_removeLine_142 ?_
  refine as_iast (pc := 143) X dX1_removeLine_143 ?_
  refine as_aload_n (pc := 144) X dX1_removeLine_144 rfl ?_
  refine as_getR (ci := 1) (j := 8) (pc := 145) X (Cn := RX1) (Tf := TX1) (N := 14) rfl rfl (by decide) iw_X1 aw_110 rfl dX1_removeLine_145 ?_
  refine as_iload_n (pc := 148) X dX1_removeLine_148 rfl ?_
  refine as_iconst (pc := 149) X dX1_removeLine_149 (by decide) ?_
  refine as_isub (pc := 150) X dX1_removeLine_150 ?_
  refine as_aload_n (pc := 151) X dX1_removeLine_151 rfl ?_
  refine as_getR (ci := 1) (j := 8) (pc := 152) X (Cn := RX1) (Tf := TX1) (N := 14) rfl rfl (by decide) iw_X1 aw_110 rfl dX1_removeLine_152 ?_
  refine as_iload_n (pc := 155) X dX1_removeLine_155 rfl ?_
  refine as_iald (pc := 156) X dX1_removeLine_156 ?_
  refine as_iast (pc := 157) X dX1_removeLine_157 ?_
  refine as_iinc (pc := 158) X dX1_removeLine_158 (by decide) (by decide) ?_
  exact as_goto (pc := 161) X 94 dX1_removeLine_161 (by decide) (as_head)
theorem s_X1_removeLine_90 {G : am_G} {bc bs : Nat} (X : am_Cx G cX1_removeLine RX1 "removeLine" rm_X1_removeLine none 3 bc bs true) : am_S G 90 (t_X1_removeLine_90) := by
  unfold t_X1_removeLine_90
  refine as_iload_n (pc := 90) X dX1_removeLine_90 rfl ?_
  refine as_iconst (pc := 91) X dX1_removeLine_91 (by decide) ?_
  refine as_iadd (pc := 92) X dX1_removeLine_92 ?_
  refine as_istore_n (pc := 93) X dX1_removeLine_93 rfl ?_ (by decide)
  exact as_head
theorem s_X1_removeLine_44 {G : am_G} {bc bs : Nat} (X : am_Cx G cX1_removeLine RX1 "removeLine" rm_X1_removeLine none 3 bc bs true) : am_S G 44 (t_X1_removeLine_44) := by
  unfold t_X1_removeLine_44
  refine as_iload_n (pc := 44) X dX1_removeLine_44 rfl ?_
  refine as_aload_n (pc := 45) X dX1_removeLine_45 rfl ?_
  refine as_getI (ci := 1) (j := 9) (pc := 46) X (Cn := RX1) (Tf := TX1) (N := 14) rfl rfl (by decide) iw_X1 aw_113 rfl dX1_removeLine_46 ?_
  refine as_ic_ge (pc := 49) X 90 dX1_removeLine_49 (by decide) (s_X1_removeLine_90 X) ?_
  refine as_aload_n (pc := 52) X dX1_removeLine_52 rfl ?_
  refine as_getR (ci := 1) (j := 11) (pc := 53) X (Cn := RX1) (Tf := TX1) (N := 14) rfl rfl (by decide) iw_X1 aw_120 rfl dX1_removeLine_53 ?_
  refine as_iload_n (pc := 56) X dX1_removeLine_56 rfl ?_
  refine as_iload_n (pc := 57) X dX1_removeLine_57 rfl ?_
  refine as_aload_n (pc := 58) X dX1_removeLine_58 rfl ?_
  refine as_getR (ci := 1) (j := 11) (pc := 59) X (Cn := RX1) (Tf := TX1) (N := 14) rfl rfl (by decide) iw_X1 aw_120 rfl dX1_removeLine_59 ?_
  refine as_iload_n (pc := 62) X dX1_removeLine_62 rfl ?_
  refine as_iald (pc := 63) X dX1_removeLine_63 ?_
  refine as_callS (np := 2) (ix := 76) (pc := 64) X ct_X1_numberWithout ⟨rfl, rfl⟩ aw_382 aw_383 aw_384 aw_61 (by decide +kernel) (by decide) dX1_removeLine_64 ?_
  refine as_iast (pc := 67) X dX1_removeLine_67 ?_
  refine as_aload_n (pc := 68) X dX1_removeLine_68 rfl ?_
  refine as_getR (ci := 1) (j := 12) (pc := 69) X (Cn := RX1) (Tf := TX1) (N := 14) rfl rfl (by decide) iw_X1 aw_123 rfl dX1_removeLine_69 ?_
  refine as_iload_n (pc := 72) X dX1_removeLine_72 rfl ?_
  refine as_iload_n (pc := 73) X dX1_removeLine_73 rfl ?_
  refine as_aload_n (pc := 74) X dX1_removeLine_74 rfl ?_
  refine as_getR (ci := 1) (j := 12) (pc := 75) X (Cn := RX1) (Tf := TX1) (N := 14) rfl rfl (by decide) iw_X1 aw_123 rfl dX1_removeLine_75 ?_
  refine as_iload_n (pc := 78) X dX1_removeLine_78 rfl ?_
  refine as_iald (pc := 79) X dX1_removeLine_79 ?_
  refine as_callS (np := 2) (ix := 76) (pc := 80) X ct_X1_numberWithout ⟨rfl, rfl⟩ aw_382 aw_383 aw_384 aw_61 (by decide +kernel) (by decide) dX1_removeLine_80 ?_
  refine as_iast (pc := 83) X dX1_removeLine_83 ?_
  refine as_iinc (pc := 84) X dX1_removeLine_84 (by decide) (by decide) ?_
  exact as_goto (pc := 87) X 44 dX1_removeLine_87 (by decide) (as_head)
theorem s_X1_removeLine_42 {G : am_G} {bc bs : Nat} (X : am_Cx G cX1_removeLine RX1 "removeLine" rm_X1_removeLine none 3 bc bs true) : am_S G 42 (t_X1_removeLine_42) := by
  unfold t_X1_removeLine_42
  refine as_iconst (pc := 42) X dX1_removeLine_42 (by decide) ?_
  refine as_istore_n (pc := 43) X dX1_removeLine_43 rfl ?_ (by decide)
  exact as_head
theorem s_X1_removeLine_36 {G : am_G} {bc bs : Nat} (X : am_Cx G cX1_removeLine RX1 "removeLine" rm_X1_removeLine none 3 bc bs true) : am_S G 36 (t_X1_removeLine_36) := by
  unfold t_X1_removeLine_36
  refine as_iinc (pc := 36) X dX1_removeLine_36 (by decide) (by decide) ?_
  exact as_goto (pc := 39) X 7 dX1_removeLine_39 (by decide) (as_head)
theorem s_X1_removeLine_31 {G : am_G} {bc bs : Nat} (X : am_Cx G cX1_removeLine RX1 "removeLine" rm_X1_removeLine none 3 bc bs true) : am_S G 31 (t_X1_removeLine_31) := by
  unfold t_X1_removeLine_31
  refine as_aload_n (pc := 31) X dX1_removeLine_31 rfl ?_
  refine as_iload_n (pc := 32) X dX1_removeLine_32 rfl ?_
  refine as_callV (ci := 1) (np := 1) (ix := 72) (pc := 33) X ct_X1_removeFix (Cn := (RX1, TX1, 14)) rfl ⟨rfl, rfl⟩ aw_378 aw_379 aw_380 aw_381 aw_61 (by decide +kernel) (by decide) dX1_removeLine_33 ?_
  exact s_X1_removeLine_36 X
theorem s_X1_removeLine_7 {G : am_G} {bc bs : Nat} (X : am_Cx G cX1_removeLine RX1 "removeLine" rm_X1_removeLine none 3 bc bs true) : am_S G 7 (t_X1_removeLine_7) := by
  unfold t_X1_removeLine_7
  refine as_iload_n (pc := 7) X dX1_removeLine_7 rfl ?_
  refine as_if_lt (pc := 8) X 42 dX1_removeLine_8 (by decide) (s_X1_removeLine_42 X) ?_
  refine as_aload_n (pc := 11) X dX1_removeLine_11 rfl ?_
  refine as_getR (ci := 1) (j := 11) (pc := 12) X (Cn := RX1) (Tf := TX1) (N := 14) rfl rfl (by decide) iw_X1 aw_120 rfl dX1_removeLine_12 ?_
  refine as_iload_n (pc := 15) X dX1_removeLine_15 rfl ?_
  refine as_iald (pc := 16) X dX1_removeLine_16 ?_
  refine as_iload_n (pc := 17) X dX1_removeLine_17 rfl ?_
  refine as_ic_eq (pc := 18) X 31 dX1_removeLine_18 (by decide) (s_X1_removeLine_31 X) ?_
  refine as_aload_n (pc := 21) X dX1_removeLine_21 rfl ?_
  refine as_getR (ci := 1) (j := 12) (pc := 22) X (Cn := RX1) (Tf := TX1) (N := 14) rfl rfl (by decide) iw_X1 aw_123 rfl dX1_removeLine_22 ?_
  refine as_iload_n (pc := 25) X dX1_removeLine_25 rfl ?_
  refine as_iald (pc := 26) X dX1_removeLine_26 ?_
  refine as_iload_n (pc := 27) X dX1_removeLine_27 rfl ?_
  refine as_ic_ne (pc := 28) X 36 dX1_removeLine_28 (by decide) (s_X1_removeLine_36 X) ?_
  exact s_X1_removeLine_31 X
theorem s_X1_removeLine_0 {G : am_G} {bc bs : Nat} (X : am_Cx G cX1_removeLine RX1 "removeLine" rm_X1_removeLine none 3 bc bs true) : am_S G 0 (t_X1_removeLine_0) := by
  unfold t_X1_removeLine_0
  refine as_aload_n (pc := 0) X dX1_removeLine_0 rfl ?_
  refine as_getI (ci := 1) (j := 9) (pc := 1) X (Cn := RX1) (Tf := TX1) (N := 14) rfl rfl (by decide) iw_X1 aw_113 rfl dX1_removeLine_1 ?_
  refine as_iconst (pc := 4) X dX1_removeLine_4 (by decide) ?_
  refine as_isub (pc := 5) X dX1_removeLine_5 ?_
  refine as_istore_n (pc := 6) X dX1_removeLine_6 rfl ?_ (by decide)
  exact as_head
theorem s_X1_removeLine {G : am_G} {bc bs : Nat} (X : am_Cx G cX1_removeLine RX1 "removeLine" rm_X1_removeLine none 3 bc bs true) (h : Nat) : am_S G h (h_X1_removeLine h) := by
  unfold h_X1_removeLine
  split
  · next e => rw [e]; exact s_X1_removeLine_0 X
  split
  · next e => rw [e]; exact s_X1_removeLine_7 X
  split
  · next e => rw [e]; exact s_X1_removeLine_44 X
  split
  · next e => rw [e]; exact s_X1_removeLine_94 X
  exact as_bad
theorem ct_X1_removeLine : am_Ct yX1_removeLine cX1_removeLine 3 none rm_X1_removeLine sp_X1_removeLine := am_met (own := RX1) (nm := "removeLine") (by decide) rfl rfl (Or.inl rfl) (fun _ _ => h_X1_removeLine) (fun _ _ _ X => s_X1_removeLine X) (fun _ _ _ _ h => h)
-- X4_drop
theorem dX4_drop_0 : decode cX4_drop 0 = .ok (.aload_n 0, 1) := by decide +kernel
theorem dX4_drop_1 : decode cX4_drop 1 = .ok (.getfield 20, 3) := by decide +kernel
theorem dX4_drop_4 : decode cX4_drop 4 = .ok (.iload_n 1, 1) := by decide +kernel
theorem dX4_drop_5 : decode cX4_drop 5 = .ok (.invokevirtual 93, 3) := by decide +kernel
theorem dX4_drop_8 : decode cX4_drop 8 = .ok (.ifCond .ne 5, 3) := by decide +kernel
theorem dX4_drop_11 : decode cX4_drop 11 = .ok (.iconst (-1), 1) := by decide +kernel
theorem dX4_drop_12 : decode cX4_drop 12 = .ok (.ireturn, 1) := by decide +kernel
theorem dX4_drop_13 : decode cX4_drop 13 = .ok (.aload_n 0, 1) := by decide +kernel
theorem dX4_drop_14 : decode cX4_drop 14 = .ok (.invokevirtual 69, 3) := by decide +kernel
theorem dX4_drop_17 : decode cX4_drop 17 = .ok (.aload_n 0, 1) := by decide +kernel
theorem dX4_drop_18 : decode cX4_drop 18 = .ok (.getfield 20, 3) := by decide +kernel
theorem dX4_drop_21 : decode cX4_drop 21 = .ok (.iload_n 1, 1) := by decide +kernel
theorem dX4_drop_22 : decode cX4_drop 22 = .ok (.invokevirtual 96, 3) := by decide +kernel
theorem dX4_drop_25 : decode cX4_drop 25 = .ok (.aload_n 0, 1) := by decide +kernel
theorem dX4_drop_26 : decode cX4_drop 26 = .ok (.getfield 20, 3) := by decide +kernel
theorem dX4_drop_29 : decode cX4_drop 29 = .ok (.getfield 100, 3) := by decide +kernel
theorem dX4_drop_32 : decode cX4_drop 32 = .ok (.ireturn, 1) := by decide +kernel
def t_X4_drop_13 : am_T := tb_aload 0 <|
  tb_callV 4 sp_X4_beginChange 1 <|
  tb_aload 0 <|
  tb_getR 4 1 <|
  tb_iload 1 <|
  tb_callV 1 sp_X1_removeLine 2 <|
  tb_aload 0 <|
  tb_getR 4 1 <|
  tb_getI 1 9 <|
  tb_iret
def t_X4_drop_0 : am_T := tb_aload 0 <|
  tb_getR 4 1 <|
  tb_iload 1 <|
  tb_callV 1 sp_X1_isLine 2 <|
  tb_if (fun x => x ≠ 0) (t_X4_drop_13) <|
  tb_const (-1) <|
  tb_iret
def h_X4_drop : am_Hd := fun h => if h = 0 then t_X4_drop_0 else tb_bad
theorem h_X4_drop_0 : h_X4_drop 0 = t_X4_drop_0 := rfl
def rm_X4_drop : Room := { frames := 4, cells := 0, slots := 0, locals := 89 }
def sp_X4_drop : am_sp := fun as M Q => as.length ≤ 2 ∧ am_OK h_X4_drop Q 0 (am_in 2 as) M
theorem s_X4_drop_13 {G : am_G} {bc bs : Nat} (X : am_Cx G cX4_drop RX4 "drop" rm_X4_drop (some .int) 2 bc bs true) : am_S G 13 (t_X4_drop_13) := by
  unfold t_X4_drop_13
  refine as_aload_n (pc := 13) X dX4_drop_13 rfl ?_
  refine as_callV (ci := 4) (np := 0) (ix := 69) (pc := 14) X ct_X4_beginChange (Cn := (RX4, TX4, 7)) rfl ⟨rfl, rfl⟩ aw_322 aw_324 aw_0 aw_325 aw_59 (by decide +kernel) (by decide) dX4_drop_14 ?_
  refine as_aload_n (pc := 17) X dX4_drop_17 rfl ?_
  refine as_getR (ci := 4) (j := 1) (pc := 18) X (Cn := RX4) (Tf := TX4) (N := 7) rfl rfl (by decide) iw_X4 aw_275 rfl dX4_drop_18 ?_
  refine as_iload_n (pc := 21) X dX4_drop_21 rfl ?_
  refine as_callV (ci := 1) (np := 1) (ix := 96) (pc := 22) X ct_X1_removeLine (Cn := (RX1, TX1, 14)) rfl ⟨rfl, rfl⟩ aw_374 aw_375 aw_376 aw_377 aw_61 (by decide +kernel) (by decide) dX4_drop_22 ?_
  refine as_aload_n (pc := 25) X dX4_drop_25 rfl ?_
  refine as_getR (ci := 4) (j := 1) (pc := 26) X (Cn := RX4) (Tf := TX4) (N := 7) rfl rfl (by decide) iw_X4 aw_275 rfl dX4_drop_26 ?_
  refine as_getI (ci := 1) (j := 9) (pc := 29) X (Cn := RX1) (Tf := TX1) (N := 14) rfl rfl (by decide) iw_X1 aw_114 rfl dX4_drop_29 ?_
  exact as_iret (pc := 32) X ⟨rfl, rfl⟩ rfl dX4_drop_32
theorem s_X4_drop_0 {G : am_G} {bc bs : Nat} (X : am_Cx G cX4_drop RX4 "drop" rm_X4_drop (some .int) 2 bc bs true) : am_S G 0 (t_X4_drop_0) := by
  unfold t_X4_drop_0
  refine as_aload_n (pc := 0) X dX4_drop_0 rfl ?_
  refine as_getR (ci := 4) (j := 1) (pc := 1) X (Cn := RX4) (Tf := TX4) (N := 7) rfl rfl (by decide) iw_X4 aw_275 rfl dX4_drop_1 ?_
  refine as_iload_n (pc := 4) X dX4_drop_4 rfl ?_
  refine as_callV (ci := 1) (np := 1) (ix := 93) (pc := 5) X ct_X1_isLine (Cn := (RX1, TX1, 14)) rfl ⟨rfl, rfl⟩ aw_370 aw_371 aw_372 aw_373 aw_61 (by decide +kernel) (by decide) dX4_drop_5 ?_
  refine as_if_ne (pc := 8) X 13 dX4_drop_8 (by decide) (s_X4_drop_13 X) ?_
  refine as_iconst (pc := 11) X dX4_drop_11 (by decide) ?_
  exact as_iret (pc := 12) X ⟨rfl, rfl⟩ rfl dX4_drop_12
theorem s_X4_drop {G : am_G} {bc bs : Nat} (X : am_Cx G cX4_drop RX4 "drop" rm_X4_drop (some .int) 2 bc bs true) (h : Nat) : am_S G h (h_X4_drop h) := by
  unfold h_X4_drop
  split
  · next e => rw [e]; exact s_X4_drop_0 X
  exact as_bad
theorem ct_X4_drop : am_Ct yX4_drop cX4_drop 2 (some .int) rm_X4_drop sp_X4_drop := am_met (own := RX4) (nm := "drop") (by decide) rfl rfl (Or.inr (Or.inl rfl)) (fun _ _ => h_X4_drop) (fun _ _ _ X => s_X4_drop X) (fun _ _ _ _ h => h)
-- X5_isLine
theorem dX5_isLine_0 : decode cX5_isLine 0 = .ok (.iload_n 1, 1) := by decide +kernel
theorem dX5_isLine_1 : decode cX5_isLine 1 = .ok (.ifCond .lt 18, 3) := by decide +kernel
theorem dX5_isLine_4 : decode cX5_isLine 4 = .ok (.iload_n 1, 1) := by decide +kernel
theorem dX5_isLine_5 : decode cX5_isLine 5 = .ok (.aload_n 0, 1) := by decide +kernel
theorem dX5_isLine_6 : decode cX5_isLine 6 = .ok (.getfield 7, 3) := by decide +kernel
theorem dX5_isLine_9 : decode cX5_isLine 9 = .ok (.bipush 9, 2) := by decide +kernel
theorem dX5_isLine_11 : decode cX5_isLine 11 = .ok (.iaload, 1) := by decide +kernel
theorem dX5_isLine_12 : decode cX5_isLine 12 = .ok (.if_icmp .ge 7, 3) := by decide +kernel
theorem dX5_isLine_15 : decode cX5_isLine 15 = .ok (.iconst 1, 1) := by decide +kernel
theorem dX5_isLine_16 : decode cX5_isLine 16 = .ok (.goto 4, 3) := by decide +kernel
theorem dX5_isLine_19 : decode cX5_isLine 19 = .ok (.iconst 0, 1) := by decide +kernel
theorem dX5_isLine_20 : decode cX5_isLine 20 = .ok (.ireturn, 1) := by decide +kernel
def t_X5_isLine_20 : am_T := tb_zret
def t_X5_isLine_19 : am_T := tb_const 0 <|
  t_X5_isLine_20
def t_X5_isLine_0 : am_T := tb_iload 1 <|
  tb_if (fun x => x < 0) (t_X5_isLine_19) <|
  tb_iload 1 <|
  tb_aload 0 <|
  tb_getR 5 0 <|
  tb_const 9 <|
  tb_iald <|
  tb_ic (fun x y => y ≤ x) (t_X5_isLine_19) <|
  tb_const 1 <|
  t_X5_isLine_20
def h_X5_isLine : am_Hd := fun h => if h = 0 then t_X5_isLine_0 else tb_bad
theorem h_X5_isLine_0 : h_X5_isLine 0 = t_X5_isLine_0 := rfl
def rm_X5_isLine : Room := { frames := 0, cells := 0, slots := 0, locals := 0 }
def sp_X5_isLine : am_sp := fun as M Q => as.length ≤ 2 ∧ am_OK h_X5_isLine Q 0 (am_in 2 as) M
theorem s_X5_isLine_20 {G : am_G} {bc bs : Nat} (X : am_Cx G cX5_isLine RX5 "isLine" rm_X5_isLine (some .boolean) 2 bc bs true) : am_S G 20 (t_X5_isLine_20) := by
  unfold t_X5_isLine_20
  exact as_zret (pc := 20) X ⟨rfl, rfl⟩ rfl dX5_isLine_20
theorem s_X5_isLine_19 {G : am_G} {bc bs : Nat} (X : am_Cx G cX5_isLine RX5 "isLine" rm_X5_isLine (some .boolean) 2 bc bs true) : am_S G 19 (t_X5_isLine_19) := by
  unfold t_X5_isLine_19
  refine as_iconst (pc := 19) X dX5_isLine_19 (by decide) ?_
  exact s_X5_isLine_20 X
theorem s_X5_isLine_0 {G : am_G} {bc bs : Nat} (X : am_Cx G cX5_isLine RX5 "isLine" rm_X5_isLine (some .boolean) 2 bc bs true) : am_S G 0 (t_X5_isLine_0) := by
  unfold t_X5_isLine_0
  refine as_iload_n (pc := 0) X dX5_isLine_0 rfl ?_
  refine as_if_lt (pc := 1) X 19 dX5_isLine_1 (by decide) (s_X5_isLine_19 X) ?_
  refine as_iload_n (pc := 4) X dX5_isLine_4 rfl ?_
  refine as_aload_n (pc := 5) X dX5_isLine_5 rfl ?_
  refine as_getR (ci := 5) (j := 0) (pc := 6) X (Cn := RX5) (Tf := TX5) (N := 21) rfl rfl (by decide) iw_X5 aw_738 rfl dX5_isLine_6 ?_
  refine as_bipush (pc := 9) X dX5_isLine_9 (by decide) ?_
  refine as_iald (pc := 11) X dX5_isLine_11 ?_
  refine as_ic_ge (pc := 12) X 19 dX5_isLine_12 (by decide) (s_X5_isLine_19 X) ?_
  refine as_iconst (pc := 15) X dX5_isLine_15 (by decide) ?_
  exact as_goto (pc := 16) X 20 dX5_isLine_16 (by decide) (s_X5_isLine_20 X)
theorem s_X5_isLine {G : am_G} {bc bs : Nat} (X : am_Cx G cX5_isLine RX5 "isLine" rm_X5_isLine (some .boolean) 2 bc bs true) (h : Nat) : am_S G h (h_X5_isLine h) := by
  unfold h_X5_isLine
  split
  · next e => rw [e]; exact s_X5_isLine_0 X
  exact as_bad
theorem ct_X5_isLine : am_Ct yX5_isLine cX5_isLine 2 (some .boolean) rm_X5_isLine sp_X5_isLine := am_met (own := RX5) (nm := "isLine") (by decide) rfl rfl (Or.inr (Or.inr (Or.inl rfl))) (fun _ _ => h_X5_isLine) (fun _ _ _ X => s_X5_isLine X) (fun _ _ _ _ h => h)
-- X5_told
theorem dX5_told_0 : decode cX5_told 0 = .ok (.aload_n 0, 1) := by decide +kernel
theorem dX5_told_1 : decode cX5_told 1 = .ok (.sipush 191, 3) := by decide +kernel
theorem dX5_told_4 : decode cX5_told 4 = .ok (.iconst 3, 1) := by decide +kernel
theorem dX5_told_5 : decode cX5_told 5 = .ok (.iload_n 1, 1) := by decide +kernel
theorem dX5_told_6 : decode cX5_told 6 = .ok (.imul, 1) := by decide +kernel
theorem dX5_told_7 : decode cX5_told 7 = .ok (.iadd, 1) := by decide +kernel
theorem dX5_told_8 : decode cX5_told 8 = .ok (.iload_n 2, 1) := by decide +kernel
theorem dX5_told_9 : decode cX5_told 9 = .ok (.iadd, 1) := by decide +kernel
theorem dX5_told_10 : decode cX5_told 10 = .ok (.iaload, 1) := by decide +kernel
theorem dX5_told_11 : decode cX5_told 11 = .ok (.ireturn, 1) := by decide +kernel
def t_X5_told_0 : am_T := tb_aload 0 <|
  tb_const 191 <|
  tb_const 3 <|
  tb_iload 1 <|
  tb_bin (fun x y => x * y) <|
  tb_bin (fun x y => x + y) <|
  tb_iload 2 <|
  tb_bin (fun x y => x + y) <|
  tb_iald <|
  tb_iret
def h_X5_told : am_Hd := fun h => if h = 0 then t_X5_told_0 else tb_bad
theorem h_X5_told_0 : h_X5_told 0 = t_X5_told_0 := rfl
def rm_X5_told : Room := { frames := 0, cells := 0, slots := 0, locals := 0 }
def sp_X5_told : am_sp := fun as M Q => as.length ≤ 3 ∧ am_OK h_X5_told Q 0 (am_in 3 as) M
theorem s_X5_told_0 {G : am_G} {bc bs : Nat} (X : am_Cx G cX5_told RX5 "told" rm_X5_told (some .int) 3 bc bs true) : am_S G 0 (t_X5_told_0) := by
  unfold t_X5_told_0
  refine as_aload_n (pc := 0) X dX5_told_0 rfl ?_
  refine as_sipush (pc := 1) X dX5_told_1 (by decide) ?_
  refine as_iconst (pc := 4) X dX5_told_4 (by decide) ?_
  refine as_iload_n (pc := 5) X dX5_told_5 rfl ?_
  refine as_imul (pc := 6) X dX5_told_6 ?_
  refine as_iadd (pc := 7) X dX5_told_7 ?_
  refine as_iload_n (pc := 8) X dX5_told_8 rfl ?_
  refine as_iadd (pc := 9) X dX5_told_9 ?_
  refine as_iald (pc := 10) X dX5_told_10 ?_
  exact as_iret (pc := 11) X ⟨rfl, rfl⟩ rfl dX5_told_11
theorem s_X5_told {G : am_G} {bc bs : Nat} (X : am_Cx G cX5_told RX5 "told" rm_X5_told (some .int) 3 bc bs true) (h : Nat) : am_S G h (h_X5_told h) := by
  unfold h_X5_told
  split
  · next e => rw [e]; exact s_X5_told_0 X
  exact as_bad
theorem ct_X5_told : am_Ct yX5_told cX5_told 3 (some .int) rm_X5_told sp_X5_told := am_met (own := RX5) (nm := "told") (by decide) rfl rfl (Or.inr (Or.inl rfl)) (fun _ _ => h_X5_told) (fun _ _ _ X => s_X5_told X) (fun _ _ _ _ h => h)
-- X5_goes
theorem dX5_goes_0 : decode cX5_goes 0 = .ok (.aload_n 0, 1) := by decide +kernel
theorem dX5_goes_1 : decode cX5_goes 1 = .ok (.bipush 10, 2) := by decide +kernel
theorem dX5_goes_3 : decode cX5_goes 3 = .ok (.dup2, 1) := by decide +kernel
theorem dX5_goes_4 : decode cX5_goes 4 = .ok (.iaload, 1) := by decide +kernel
theorem dX5_goes_5 : decode cX5_goes 5 = .ok (.iconst 1, 1) := by decide +kernel
theorem dX5_goes_6 : decode cX5_goes 6 = .ok (.isub, 1) := by decide +kernel
theorem dX5_goes_7 : decode cX5_goes 7 = .ok (.iastore, 1) := by decide +kernel
theorem dX5_goes_8 : decode cX5_goes 8 = .ok (.sipush 191, 3) := by decide +kernel
theorem dX5_goes_11 : decode cX5_goes 11 = .ok (.iconst 3, 1) := by decide +kernel
theorem dX5_goes_12 : decode cX5_goes 12 = .ok (.iload_n 1, 1) := by decide +kernel
theorem dX5_goes_13 : decode cX5_goes 13 = .ok (.imul, 1) := by decide +kernel
theorem dX5_goes_14 : decode cX5_goes 14 = .ok (.iadd, 1) := by decide +kernel
theorem dX5_goes_15 : decode cX5_goes 15 = .ok (.istore_n 2, 1) := by decide +kernel
theorem dX5_goes_16 : decode cX5_goes 16 = .ok (.iload_n 2, 1) := by decide +kernel
theorem dX5_goes_17 : decode cX5_goes 17 = .ok (.sipush 191, 3) := by decide +kernel
theorem dX5_goes_20 : decode cX5_goes 20 = .ok (.iconst 3, 1) := by decide +kernel
theorem dX5_goes_21 : decode cX5_goes 21 = .ok (.aload_n 0, 1) := by decide +kernel
theorem dX5_goes_22 : decode cX5_goes 22 = .ok (.bipush 10, 2) := by decide +kernel
theorem dX5_goes_24 : decode cX5_goes 24 = .ok (.iaload, 1) := by decide +kernel
theorem dX5_goes_25 : decode cX5_goes 25 = .ok (.imul, 1) := by decide +kernel
theorem dX5_goes_26 : decode cX5_goes 26 = .ok (.iadd, 1) := by decide +kernel
theorem dX5_goes_27 : decode cX5_goes 27 = .ok (.if_icmp .ge 17, 3) := by decide +kernel
theorem dX5_goes_30 : decode cX5_goes 30 = .ok (.aload_n 0, 1) := by decide +kernel
theorem dX5_goes_31 : decode cX5_goes 31 = .ok (.iload_n 2, 1) := by decide +kernel
theorem dX5_goes_32 : decode cX5_goes 32 = .ok (.aload_n 0, 1) := by decide +kernel
theorem dX5_goes_33 : decode cX5_goes 33 = .ok (.iload_n 2, 1) := by decide +kernel
theorem dX5_goes_34 : decode cX5_goes 34 = .ok (.iconst 3, 1) := by decide +kernel
theorem dX5_goes_35 : decode cX5_goes 35 = .ok (.iadd, 1) := by decide +kernel
theorem dX5_goes_36 : decode cX5_goes 36 = .ok (.iaload, 1) := by decide +kernel
theorem dX5_goes_37 : decode cX5_goes 37 = .ok (.iastore, 1) := by decide +kernel
theorem dX5_goes_38 : decode cX5_goes 38 = .ok (.iinc 2 1, 3) := by decide +kernel
theorem dX5_goes_41 : decode cX5_goes 41 = .ok (.goto (-25), 3) := by decide +kernel
theorem dX5_goes_44 : decode cX5_goes 44 = .ok (.return_, 1) := by decide +kernel
def t_X5_goes_44 : am_T := tb_ret
def t_X5_goes_16 : am_T := tb_iload 2 <|
  tb_const 191 <|
  tb_const 3 <|
  tb_aload 0 <|
  tb_const 10 <|
  tb_iald <|
  tb_bin (fun x y => x * y) <|
  tb_bin (fun x y => x + y) <|
  tb_ic (fun x y => y ≤ x) (t_X5_goes_44) <|
  tb_aload 0 <|
  tb_iload 2 <|
  tb_aload 0 <|
  tb_iload 2 <|
  tb_const 3 <|
  tb_bin (fun x y => x + y) <|
  tb_iald <|
  tb_iast <|
  tb_iinc 2 1 <|
  tb_head 16
def t_X5_goes_0 : am_T := tb_aload 0 <|
  tb_const 10 <|
  tb_dup2 <|
  tb_iald <|
  tb_const 1 <|
  tb_bin (fun x y => x - y) <|
  tb_iast <|
  tb_const 191 <|
  tb_const 3 <|
  tb_iload 1 <|
  tb_bin (fun x y => x * y) <|
  tb_bin (fun x y => x + y) <|
  tb_istore 2 <|
  tb_head 16
def h_X5_goes : am_Hd := fun h => if h = 0 then t_X5_goes_0 else if h = 16 then t_X5_goes_16 else tb_bad
theorem h_X5_goes_0 : h_X5_goes 0 = t_X5_goes_0 := rfl
theorem h_X5_goes_16 : h_X5_goes 16 = t_X5_goes_16 := rfl
def rm_X5_goes : Room := { frames := 0, cells := 0, slots := 0, locals := 0 }
def sp_X5_goes : am_sp := fun as M Q => as.length ≤ 3 ∧ am_OK h_X5_goes Q 0 (am_in 3 as) M
theorem s_X5_goes_44 {G : am_G} {bc bs : Nat} (X : am_Cx G cX5_goes RX5 "goes" rm_X5_goes none 3 bc bs true) : am_S G 44 (t_X5_goes_44) := by
  unfold t_X5_goes_44
  exact as_ret (pc := 44) X ⟨rfl, rfl⟩ rfl dX5_goes_44
theorem s_X5_goes_16 {G : am_G} {bc bs : Nat} (X : am_Cx G cX5_goes RX5 "goes" rm_X5_goes none 3 bc bs true) : am_S G 16 (t_X5_goes_16) := by
  unfold t_X5_goes_16
  refine as_iload_n (pc := 16) X dX5_goes_16 rfl ?_
  refine as_sipush (pc := 17) X dX5_goes_17 (by decide) ?_
  refine as_iconst (pc := 20) X dX5_goes_20 (by decide) ?_
  refine as_aload_n (pc := 21) X dX5_goes_21 rfl ?_
  refine as_bipush (pc := 22) X dX5_goes_22 (by decide) ?_
  refine as_iald (pc := 24) X dX5_goes_24 ?_
  refine as_imul (pc := 25) X dX5_goes_25 ?_
  refine as_iadd (pc := 26) X dX5_goes_26 ?_
  refine as_ic_ge (pc := 27) X 44 dX5_goes_27 (by decide) (s_X5_goes_44 X) ?_
  refine as_aload_n (pc := 30) X dX5_goes_30 rfl ?_
  refine as_iload_n (pc := 31) X dX5_goes_31 rfl ?_
  refine as_aload_n (pc := 32) X dX5_goes_32 rfl ?_
  refine as_iload_n (pc := 33) X dX5_goes_33 rfl ?_
  refine as_iconst (pc := 34) X dX5_goes_34 (by decide) ?_
  refine as_iadd (pc := 35) X dX5_goes_35 ?_
  refine as_iald (pc := 36) X dX5_goes_36 ?_
  refine as_iast (pc := 37) X dX5_goes_37 ?_
  refine as_iinc (pc := 38) X dX5_goes_38 (by decide) (by decide) ?_
  exact as_goto (pc := 41) X 16 dX5_goes_41 (by decide) (as_head)
theorem s_X5_goes_0 {G : am_G} {bc bs : Nat} (X : am_Cx G cX5_goes RX5 "goes" rm_X5_goes none 3 bc bs true) : am_S G 0 (t_X5_goes_0) := by
  unfold t_X5_goes_0
  refine as_aload_n (pc := 0) X dX5_goes_0 rfl ?_
  refine as_bipush (pc := 1) X dX5_goes_1 (by decide) ?_
  refine as_dup2 (pc := 3) X dX5_goes_3 ?_
  refine as_iald (pc := 4) X dX5_goes_4 ?_
  refine as_iconst (pc := 5) X dX5_goes_5 (by decide) ?_
  refine as_isub (pc := 6) X dX5_goes_6 ?_
  refine as_iast (pc := 7) X dX5_goes_7 ?_
  refine as_sipush (pc := 8) X dX5_goes_8 (by decide) ?_
  refine as_iconst (pc := 11) X dX5_goes_11 (by decide) ?_
  refine as_iload_n (pc := 12) X dX5_goes_12 rfl ?_
  refine as_imul (pc := 13) X dX5_goes_13 ?_
  refine as_iadd (pc := 14) X dX5_goes_14 ?_
  refine as_istore_n (pc := 15) X dX5_goes_15 rfl ?_ (by decide)
  exact as_head
theorem s_X5_goes {G : am_G} {bc bs : Nat} (X : am_Cx G cX5_goes RX5 "goes" rm_X5_goes none 3 bc bs true) (h : Nat) : am_S G h (h_X5_goes h) := by
  unfold h_X5_goes
  split
  · next e => rw [e]; exact s_X5_goes_0 X
  split
  · next e => rw [e]; exact s_X5_goes_16 X
  exact as_bad
theorem ct_X5_goes : am_Ct yX5_goes cX5_goes 3 none rm_X5_goes sp_X5_goes := am_met (own := RX5) (nm := "goes") (by decide) rfl rfl (Or.inl rfl) (fun _ _ => h_X5_goes) (fun _ _ _ X => s_X5_goes X) (fun _ _ _ _ h => h)
-- X5_drops
theorem dX5_drops_0 : decode cX5_drops 0 = .ok (.aload_n 0, 1) := by decide +kernel
theorem dX5_drops_1 : decode cX5_drops 1 = .ok (.bipush 10, 2) := by decide +kernel
theorem dX5_drops_3 : decode cX5_drops 3 = .ok (.iaload, 1) := by decide +kernel
theorem dX5_drops_4 : decode cX5_drops 4 = .ok (.iconst 1, 1) := by decide +kernel
theorem dX5_drops_5 : decode cX5_drops 5 = .ok (.isub, 1) := by decide +kernel
theorem dX5_drops_6 : decode cX5_drops 6 = .ok (.istore_n 2, 1) := by decide +kernel
theorem dX5_drops_7 : decode cX5_drops 7 = .ok (.iload_n 2, 1) := by decide +kernel
theorem dX5_drops_8 : decode cX5_drops 8 = .ok (.ifCond .lt 43, 3) := by decide +kernel
theorem dX5_drops_11 : decode cX5_drops 11 = .ok (.aload_n 0, 1) := by decide +kernel
theorem dX5_drops_12 : decode cX5_drops 12 = .ok (.iload_n 2, 1) := by decide +kernel
theorem dX5_drops_13 : decode cX5_drops 13 = .ok (.iconst 1, 1) := by decide +kernel
theorem dX5_drops_14 : decode cX5_drops 14 = .ok (.invokestatic 89, 3) := by decide +kernel
theorem dX5_drops_17 : decode cX5_drops 17 = .ok (.iload_n 1, 1) := by decide +kernel
theorem dX5_drops_18 : decode cX5_drops 18 = .ok (.if_icmp .eq 22, 3) := by decide +kernel
theorem dX5_drops_21 : decode cX5_drops 21 = .ok (.aload_n 0, 1) := by decide +kernel
theorem dX5_drops_22 : decode cX5_drops 22 = .ok (.iload_n 2, 1) := by decide +kernel
theorem dX5_drops_23 : decode cX5_drops 23 = .ok (.iconst 0, 1) := by decide +kernel
theorem dX5_drops_24 : decode cX5_drops 24 = .ok (.invokestatic 89, 3) := by decide +kernel
theorem dX5_drops_27 : decode cX5_drops 27 = .ok (.ifCond .eq 18, 3) := by decide +kernel
theorem dX5_drops_30 : decode cX5_drops 30 = .ok (.aload_n 0, 1) := by decide +kernel
theorem dX5_drops_31 : decode cX5_drops 31 = .ok (.iload_n 2, 1) := by decide +kernel
theorem dX5_drops_32 : decode cX5_drops 32 = .ok (.iconst 2, 1) := by decide +kernel
theorem dX5_drops_33 : decode cX5_drops 33 = .ok (.invokestatic 89, 3) := by decide +kernel
theorem dX5_drops_36 : decode cX5_drops 36 = .ok (.iload_n 1, 1) := by decide +kernel
theorem dX5_drops_37 : decode cX5_drops 37 = .ok (.if_icmp .ne 8, 3) := by decide +kernel
theorem dX5_drops_40 : decode cX5_drops 40 = .ok (.aload_n 0, 1) := by decide +kernel
theorem dX5_drops_41 : decode cX5_drops 41 = .ok (.iload_n 2, 1) := by decide +kernel
theorem dX5_drops_42 : decode cX5_drops 42 = .ok (.invokestatic 135, 3) := by decide +kernel
theorem dX5_drops_45 : decode cX5_drops 45 = .ok (.iinc 2 (-1), 3) := by decide +kernel
theorem dX5_drops_48 : decode cX5_drops 48 = .ok (.goto (-41), 3) := by decide +kernel
theorem dX5_drops_51 : decode cX5_drops 51 = .ok (.iconst 0, 1) := by decide +kernel
theorem dX5_drops_52 : decode cX5_drops 52 = .ok (.istore_n 2, 1) := by decide +kernel
theorem dX5_drops_53 : decode cX5_drops 53 = .ok (.iload_n 2, 1) := by decide +kernel
theorem dX5_drops_54 : decode cX5_drops 54 = .ok (.aload_n 0, 1) := by decide +kernel
theorem dX5_drops_55 : decode cX5_drops 55 = .ok (.bipush 10, 2) := by decide +kernel
theorem dX5_drops_57 : decode cX5_drops 57 = .ok (.iaload, 1) := by decide +kernel
theorem dX5_drops_58 : decode cX5_drops 58 = .ok (.if_icmp .ge 61, 3) := by decide +kernel
theorem dX5_drops_61 : decode cX5_drops 61 = .ok (.sipush 191, 3) := by decide +kernel
theorem dX5_drops_64 : decode cX5_drops 64 = .ok (.iconst 3, 1) := by decide +kernel
theorem dX5_drops_65 : decode cX5_drops 65 = .ok (.iload_n 2, 1) := by decide +kernel
theorem dX5_drops_66 : decode cX5_drops 66 = .ok (.imul, 1) := by decide +kernel
theorem dX5_drops_67 : decode cX5_drops 67 = .ok (.iadd, 1) := by decide +kernel
theorem dX5_drops_68 : decode cX5_drops 68 = .ok (.istore_n 3, 1) := by decide +kernel
theorem dX5_drops_69 : decode cX5_drops 69 = .ok (.aload_n 0, 1) := by decide +kernel
theorem dX5_drops_70 : decode cX5_drops 70 = .ok (.iload_n 3, 1) := by decide +kernel
theorem dX5_drops_71 : decode cX5_drops 71 = .ok (.iconst 1, 1) := by decide +kernel
theorem dX5_drops_72 : decode cX5_drops 72 = .ok (.iadd, 1) := by decide +kernel
theorem dX5_drops_73 : decode cX5_drops 73 = .ok (.dup2, 1) := by decide +kernel
theorem dX5_drops_74 : decode cX5_drops 74 = .ok (.iaload, 1) := by decide +kernel
theorem dX5_drops_75 : decode cX5_drops 75 = .ok (.aload_n 0, 1) := by decide +kernel
theorem dX5_drops_76 : decode cX5_drops 76 = .ok (.iload_n 3, 1) := by decide +kernel
theorem dX5_drops_77 : decode cX5_drops 77 = .ok (.iconst 1, 1) := by decide +kernel
theorem dX5_drops_78 : decode cX5_drops 78 = .ok (.iadd, 1) := by decide +kernel
theorem dX5_drops_79 : decode cX5_drops 79 = .ok (.iaload, 1) := by decide +kernel
theorem dX5_drops_80 : decode cX5_drops 80 = .ok (.iload_n 1, 1) := by decide +kernel
theorem dX5_drops_81 : decode cX5_drops 81 = .ok (.if_icmp .le 7, 3) := by decide +kernel
theorem dX5_drops_84 : decode cX5_drops 84 = .ok (.iconst 1, 1) := by decide +kernel
theorem dX5_drops_85 : decode cX5_drops 85 = .ok (.goto 4, 3) := by decide +kernel
theorem dX5_drops_88 : decode cX5_drops 88 = .ok (.iconst 0, 1) := by decide +kernel
theorem dX5_drops_89 : decode cX5_drops 89 = .ok (.isub, 1) := by decide +kernel
theorem dX5_drops_90 : decode cX5_drops 90 = .ok (.iastore, 1) := by decide +kernel
theorem dX5_drops_91 : decode cX5_drops 91 = .ok (.aload_n 0, 1) := by decide +kernel
theorem dX5_drops_92 : decode cX5_drops 92 = .ok (.iload_n 3, 1) := by decide +kernel
theorem dX5_drops_93 : decode cX5_drops 93 = .ok (.iconst 2, 1) := by decide +kernel
theorem dX5_drops_94 : decode cX5_drops 94 = .ok (.iadd, 1) := by decide +kernel
theorem dX5_drops_95 : decode cX5_drops 95 = .ok (.dup2, 1) := by decide +kernel
theorem dX5_drops_96 : decode cX5_drops 96 = .ok (.iaload, 1) := by decide +kernel
theorem dX5_drops_97 : decode cX5_drops 97 = .ok (.aload_n 0, 1) := by decide +kernel
theorem dX5_drops_98 : decode cX5_drops 98 = .ok (.iload_n 3, 1) := by decide +kernel
theorem dX5_drops_99 : decode cX5_drops 99 = .ok (.iconst 2, 1) := by decide +kernel
theorem dX5_drops_100 : decode cX5_drops 100 = .ok (.iadd, 1) := by decide +kernel
theorem dX5_drops_101 : decode cX5_drops 101 = .ok (.iaload, 1) := by decide +kernel
theorem dX5_drops_102 : decode cX5_drops 102 = .ok (.iload_n 1, 1) := by decide +kernel
theorem dX5_drops_103 : decode cX5_drops 103 = .ok (.if_icmp .le 7, 3) := by decide +kernel
theorem dX5_drops_106 : decode cX5_drops 106 = .ok (.iconst 1, 1) := by decide +kernel
theorem dX5_drops_107 : decode cX5_drops 107 = .ok (.goto 4, 3) := by decide +kernel
theorem dX5_drops_110 : decode cX5_drops 110 = .ok (.iconst 0, 1) := by decide +kernel
theorem dX5_drops_111 : decode cX5_drops 111 = .ok (.isub, 1) := by decide +kernel
theorem dX5_drops_112 : decode cX5_drops 112 = .ok (.iastore, 1) := by decide +kernel
theorem dX5_drops_113 : decode cX5_drops 113 = .ok (.iinc 2 1, 3) := by decide +kernel
theorem dX5_drops_116 : decode cX5_drops 116 = .ok (.goto (-63), 3) := by decide +kernel
theorem dX5_drops_119 : decode cX5_drops 119 = .ok (.aload_n 0, 1) := by decide +kernel
theorem dX5_drops_120 : decode cX5_drops 120 = .ok (.bipush 9, 2) := by decide +kernel
theorem dX5_drops_122 : decode cX5_drops 122 = .ok (.dup2, 1) := by decide +kernel
theorem dX5_drops_123 : decode cX5_drops 123 = .ok (.iaload, 1) := by decide +kernel
theorem dX5_drops_124 : decode cX5_drops 124 = .ok (.iconst 1, 1) := by decide +kernel
theorem dX5_drops_125 : decode cX5_drops 125 = .ok (.isub, 1) := by decide +kernel
theorem dX5_drops_126 : decode cX5_drops 126 = .ok (.iastore, 1) := by decide +kernel
theorem dX5_drops_127 : decode cX5_drops 127 = .ok (.bipush 71, 2) := by decide +kernel
theorem dX5_drops_129 : decode cX5_drops 129 = .ok (.iconst 4, 1) := by decide +kernel
theorem dX5_drops_130 : decode cX5_drops 130 = .ok (.iload_n 1, 1) := by decide +kernel
theorem dX5_drops_131 : decode cX5_drops 131 = .ok (.imul, 1) := by decide +kernel
theorem dX5_drops_132 : decode cX5_drops 132 = .ok (.iadd, 1) := by decide +kernel
theorem dX5_drops_133 : decode cX5_drops 133 = .ok (.istore_n 2, 1) := by decide +kernel
theorem dX5_drops_134 : decode cX5_drops 134 = .ok (.iload_n 2, 1) := by decide +kernel
theorem dX5_drops_135 : decode cX5_drops 135 = .ok (.bipush 71, 2) := by decide +kernel
theorem dX5_drops_137 : decode cX5_drops 137 = .ok (.iconst 4, 1) := by decide +kernel
theorem dX5_drops_138 : decode cX5_drops 138 = .ok (.aload_n 0, 1) := by decide +kernel
theorem dX5_drops_139 : decode cX5_drops 139 = .ok (.bipush 9, 2) := by decide +kernel
theorem dX5_drops_141 : decode cX5_drops 141 = .ok (.iaload, 1) := by decide +kernel
theorem dX5_drops_142 : decode cX5_drops 142 = .ok (.imul, 1) := by decide +kernel
theorem dX5_drops_143 : decode cX5_drops 143 = .ok (.iadd, 1) := by decide +kernel
theorem dX5_drops_144 : decode cX5_drops 144 = .ok (.if_icmp .ge 17, 3) := by decide +kernel
theorem dX5_drops_147 : decode cX5_drops 147 = .ok (.aload_n 0, 1) := by decide +kernel
theorem dX5_drops_148 : decode cX5_drops 148 = .ok (.iload_n 2, 1) := by decide +kernel
theorem dX5_drops_149 : decode cX5_drops 149 = .ok (.aload_n 0, 1) := by decide +kernel
theorem dX5_drops_150 : decode cX5_drops 150 = .ok (.iload_n 2, 1) := by decide +kernel
theorem dX5_drops_151 : decode cX5_drops 151 = .ok (.iconst 4, 1) := by decide +kernel
theorem dX5_drops_152 : decode cX5_drops 152 = .ok (.iadd, 1) := by decide +kernel
theorem dX5_drops_153 : decode cX5_drops 153 = .ok (.iaload, 1) := by decide +kernel
theorem dX5_drops_154 : decode cX5_drops 154 = .ok (.iastore, 1) := by decide +kernel
theorem dX5_drops_155 : decode cX5_drops 155 = .ok (.iinc 2 1, 3) := by decide +kernel
theorem dX5_drops_158 : decode cX5_drops 158 = .ok (.goto (-24), 3) := by decide +kernel
theorem dX5_drops_161 : decode cX5_drops 161 = .ok (.return_, 1) := by decide +kernel
def t_X5_drops_161 : am_T := tb_ret
def t_X5_drops_134 : am_T := tb_iload 2 <|
  tb_const 71 <|
  tb_const 4 <|
  tb_aload 0 <|
  tb_const 9 <|
  tb_iald <|
  tb_bin (fun x y => x * y) <|
  tb_bin (fun x y => x + y) <|
  tb_ic (fun x y => y ≤ x) (t_X5_drops_161) <|
  tb_aload 0 <|
  tb_iload 2 <|
  tb_aload 0 <|
  tb_iload 2 <|
  tb_const 4 <|
  tb_bin (fun x y => x + y) <|
  tb_iald <|
  tb_iast <|
  tb_iinc 2 1 <|
  tb_head 134
def t_X5_drops_119 : am_T := tb_aload 0 <|
  tb_const 9 <|
  tb_dup2 <|
  tb_iald <|
  tb_const 1 <|
  tb_bin (fun x y => x - y) <|
  tb_iast <|
  tb_const 71 <|
  tb_const 4 <|
  tb_iload 1 <|
  tb_bin (fun x y => x * y) <|
  tb_bin (fun x y => x + y) <|
  tb_istore 2 <|
  tb_head 134
def t_X5_drops_111 : am_T := tb_bin (fun x y => x - y) <|
  tb_iast <|
  tb_iinc 2 1 <|
  tb_head 53
def t_X5_drops_110 : am_T := tb_const 0 <|
  t_X5_drops_111
def t_X5_drops_89 : am_T := tb_bin (fun x y => x - y) <|
  tb_iast <|
  tb_aload 0 <|
  tb_iload 3 <|
  tb_const 2 <|
  tb_bin (fun x y => x + y) <|
  tb_dup2 <|
  tb_iald <|
  tb_aload 0 <|
  tb_iload 3 <|
  tb_const 2 <|
  tb_bin (fun x y => x + y) <|
  tb_iald <|
  tb_iload 1 <|
  tb_ic (fun x y => x ≤ y) (t_X5_drops_110) <|
  tb_const 1 <|
  t_X5_drops_111
def t_X5_drops_88 : am_T := tb_const 0 <|
  t_X5_drops_89
def t_X5_drops_53 : am_T := tb_iload 2 <|
  tb_aload 0 <|
  tb_const 10 <|
  tb_iald <|
  tb_ic (fun x y => y ≤ x) (t_X5_drops_119) <|
  tb_const 191 <|
  tb_const 3 <|
  tb_iload 2 <|
  tb_bin (fun x y => x * y) <|
  tb_bin (fun x y => x + y) <|
  tb_istore 3 <|
  tb_aload 0 <|
  tb_iload 3 <|
  tb_const 1 <|
  tb_bin (fun x y => x + y) <|
  tb_dup2 <|
  tb_iald <|
  tb_aload 0 <|
  tb_iload 3 <|
  tb_const 1 <|
  tb_bin (fun x y => x + y) <|
  tb_iald <|
  tb_iload 1 <|
  tb_ic (fun x y => x ≤ y) (t_X5_drops_88) <|
  tb_const 1 <|
  t_X5_drops_89
def t_X5_drops_51 : am_T := tb_const 0 <|
  tb_istore 2 <|
  tb_head 53
def t_X5_drops_45 : am_T := tb_iinc 2 (-1) <|
  tb_head 7
def t_X5_drops_40 : am_T := tb_aload 0 <|
  tb_iload 2 <|
  tb_callS sp_X5_goes 2 <|
  t_X5_drops_45
def t_X5_drops_7 : am_T := tb_iload 2 <|
  tb_if (fun x => x < 0) (t_X5_drops_51) <|
  tb_aload 0 <|
  tb_iload 2 <|
  tb_const 1 <|
  tb_callS sp_X5_told 3 <|
  tb_iload 1 <|
  tb_ic (fun x y => x = y) (t_X5_drops_40) <|
  tb_aload 0 <|
  tb_iload 2 <|
  tb_const 0 <|
  tb_callS sp_X5_told 3 <|
  tb_if (fun x => x = 0) (t_X5_drops_45) <|
  tb_aload 0 <|
  tb_iload 2 <|
  tb_const 2 <|
  tb_callS sp_X5_told 3 <|
  tb_iload 1 <|
  tb_ic (fun x y => x ≠ y) (t_X5_drops_45) <|
  t_X5_drops_40
def t_X5_drops_0 : am_T := tb_aload 0 <|
  tb_const 10 <|
  tb_iald <|
  tb_const 1 <|
  tb_bin (fun x y => x - y) <|
  tb_istore 2 <|
  tb_head 7
def h_X5_drops : am_Hd := fun h => if h = 0 then t_X5_drops_0 else if h = 7 then t_X5_drops_7 else if h = 53 then t_X5_drops_53 else if h = 134 then t_X5_drops_134 else tb_bad
theorem h_X5_drops_0 : h_X5_drops 0 = t_X5_drops_0 := rfl
theorem h_X5_drops_7 : h_X5_drops 7 = t_X5_drops_7 := rfl
theorem h_X5_drops_53 : h_X5_drops 53 = t_X5_drops_53 := rfl
theorem h_X5_drops_134 : h_X5_drops 134 = t_X5_drops_134 := rfl
def rm_X5_drops : Room := { frames := 1, cells := 0, slots := 0, locals := 22 }
def sp_X5_drops : am_sp := fun as M Q => as.length ≤ 4 ∧ am_OK h_X5_drops Q 0 (am_in 4 as) M
theorem s_X5_drops_161 {G : am_G} {bc bs : Nat} (X : am_Cx G cX5_drops RX5 "drops" rm_X5_drops none 4 bc bs true) : am_S G 161 (t_X5_drops_161) := by
  unfold t_X5_drops_161
  exact as_ret (pc := 161) X ⟨rfl, rfl⟩ rfl dX5_drops_161
theorem s_X5_drops_134 {G : am_G} {bc bs : Nat} (X : am_Cx G cX5_drops RX5 "drops" rm_X5_drops none 4 bc bs true) : am_S G 134 (t_X5_drops_134) := by
  unfold t_X5_drops_134
  refine as_iload_n (pc := 134) X dX5_drops_134 rfl ?_
  refine as_bipush (pc := 135) X dX5_drops_135 (by decide) ?_
  refine as_iconst (pc := 137) X dX5_drops_137 (by decide) ?_
  refine as_aload_n (pc := 138) X dX5_drops_138 rfl ?_
  refine as_bipush (pc := 139) X dX5_drops_139 (by decide) ?_
  refine as_iald (pc := 141) X dX5_drops_141 ?_
  refine as_imul (pc := 142) X dX5_drops_142 ?_
  refine as_iadd (pc := 143) X dX5_drops_143 ?_
  refine as_ic_ge (pc := 144) X 161 dX5_drops_144 (by decide) (s_X5_drops_161 X) ?_
  refine as_aload_n (pc := 147) X dX5_drops_147 rfl ?_
  refine as_iload_n (pc := 148) X dX5_drops_148 rfl ?_
  refine as_aload_n (pc := 149) X dX5_drops_149 rfl ?_
  refine as_iload_n (pc := 150) X dX5_drops_150 rfl ?_
  refine as_iconst (pc := 151) X dX5_drops_151 (by decide) ?_
  refine as_iadd (pc := 152) X dX5_drops_152 ?_
  refine as_iald (pc := 153) X dX5_drops_153 ?_
  refine as_iast (pc := 154) X dX5_drops_154 ?_
  refine as_iinc (pc := 155) X dX5_drops_155 (by decide) (by decide) ?_
  exact as_goto (pc := 158) X 134 dX5_drops_158 (by decide) (as_head)
theorem s_X5_drops_119 {G : am_G} {bc bs : Nat} (X : am_Cx G cX5_drops RX5 "drops" rm_X5_drops none 4 bc bs true) : am_S G 119 (t_X5_drops_119) := by
  unfold t_X5_drops_119
  refine as_aload_n (pc := 119) X dX5_drops_119 rfl ?_
  refine as_bipush (pc := 120) X dX5_drops_120 (by decide) ?_
  refine as_dup2 (pc := 122) X dX5_drops_122 ?_
  refine as_iald (pc := 123) X dX5_drops_123 ?_
  refine as_iconst (pc := 124) X dX5_drops_124 (by decide) ?_
  refine as_isub (pc := 125) X dX5_drops_125 ?_
  refine as_iast (pc := 126) X dX5_drops_126 ?_
  refine as_bipush (pc := 127) X dX5_drops_127 (by decide) ?_
  refine as_iconst (pc := 129) X dX5_drops_129 (by decide) ?_
  refine as_iload_n (pc := 130) X dX5_drops_130 rfl ?_
  refine as_imul (pc := 131) X dX5_drops_131 ?_
  refine as_iadd (pc := 132) X dX5_drops_132 ?_
  refine as_istore_n (pc := 133) X dX5_drops_133 rfl ?_ (by decide)
  exact as_head
theorem s_X5_drops_111 {G : am_G} {bc bs : Nat} (X : am_Cx G cX5_drops RX5 "drops" rm_X5_drops none 4 bc bs true) : am_S G 111 (t_X5_drops_111) := by
  unfold t_X5_drops_111
  refine as_isub (pc := 111) X dX5_drops_111 ?_
  refine as_iast (pc := 112) X dX5_drops_112 ?_
  refine as_iinc (pc := 113) X dX5_drops_113 (by decide) (by decide) ?_
  exact as_goto (pc := 116) X 53 dX5_drops_116 (by decide) (as_head)
theorem s_X5_drops_110 {G : am_G} {bc bs : Nat} (X : am_Cx G cX5_drops RX5 "drops" rm_X5_drops none 4 bc bs true) : am_S G 110 (t_X5_drops_110) := by
  unfold t_X5_drops_110
  refine as_iconst (pc := 110) X dX5_drops_110 (by decide) ?_
  exact s_X5_drops_111 X
theorem s_X5_drops_89 {G : am_G} {bc bs : Nat} (X : am_Cx G cX5_drops RX5 "drops" rm_X5_drops none 4 bc bs true) : am_S G 89 (t_X5_drops_89) := by
  unfold t_X5_drops_89
  refine as_isub (pc := 89) X dX5_drops_89 ?_
  refine as_iast (pc := 90) X dX5_drops_90 ?_
  refine as_aload_n (pc := 91) X dX5_drops_91 rfl ?_
  refine as_iload_n (pc := 92) X dX5_drops_92 rfl ?_
  refine as_iconst (pc := 93) X dX5_drops_93 (by decide) ?_
  refine as_iadd (pc := 94) X dX5_drops_94 ?_
  refine as_dup2 (pc := 95) X dX5_drops_95 ?_
  refine as_iald (pc := 96) X dX5_drops_96 ?_
  refine as_aload_n (pc := 97) X dX5_drops_97 rfl ?_
  refine as_iload_n (pc := 98) X dX5_drops_98 rfl ?_
  refine as_iconst (pc := 99) X dX5_drops_99 (by decide) ?_
  refine as_iadd (pc := 100) X dX5_drops_100 ?_
  refine as_iald (pc := 101) X dX5_drops_101 ?_
  refine as_iload_n (pc := 102) X dX5_drops_102 rfl ?_
  refine as_ic_le (pc := 103) X 110 dX5_drops_103 (by decide) (s_X5_drops_110 X) ?_
  refine as_iconst (pc := 106) X dX5_drops_106 (by decide) ?_
  exact as_goto (pc := 107) X 111 dX5_drops_107 (by decide) (s_X5_drops_111 X)
theorem s_X5_drops_88 {G : am_G} {bc bs : Nat} (X : am_Cx G cX5_drops RX5 "drops" rm_X5_drops none 4 bc bs true) : am_S G 88 (t_X5_drops_88) := by
  unfold t_X5_drops_88
  refine as_iconst (pc := 88) X dX5_drops_88 (by decide) ?_
  exact s_X5_drops_89 X
theorem s_X5_drops_53 {G : am_G} {bc bs : Nat} (X : am_Cx G cX5_drops RX5 "drops" rm_X5_drops none 4 bc bs true) : am_S G 53 (t_X5_drops_53) := by
  unfold t_X5_drops_53
  refine as_iload_n (pc := 53) X dX5_drops_53 rfl ?_
  refine as_aload_n (pc := 54) X dX5_drops_54 rfl ?_
  refine as_bipush (pc := 55) X dX5_drops_55 (by decide) ?_
  refine as_iald (pc := 57) X dX5_drops_57 ?_
  refine as_ic_ge (pc := 58) X 119 dX5_drops_58 (by decide) (s_X5_drops_119 X) ?_
  refine as_sipush (pc := 61) X dX5_drops_61 (by decide) ?_
  refine as_iconst (pc := 64) X dX5_drops_64 (by decide) ?_
  refine as_iload_n (pc := 65) X dX5_drops_65 rfl ?_
  refine as_imul (pc := 66) X dX5_drops_66 ?_
  refine as_iadd (pc := 67) X dX5_drops_67 ?_
  refine as_istore_n (pc := 68) X dX5_drops_68 rfl ?_ (by decide)
  refine as_aload_n (pc := 69) X dX5_drops_69 rfl ?_
  refine as_iload_n (pc := 70) X dX5_drops_70 rfl ?_
  refine as_iconst (pc := 71) X dX5_drops_71 (by decide) ?_
  refine as_iadd (pc := 72) X dX5_drops_72 ?_
  refine as_dup2 (pc := 73) X dX5_drops_73 ?_
  refine as_iald (pc := 74) X dX5_drops_74 ?_
  refine as_aload_n (pc := 75) X dX5_drops_75 rfl ?_
  refine as_iload_n (pc := 76) X dX5_drops_76 rfl ?_
  refine as_iconst (pc := 77) X dX5_drops_77 (by decide) ?_
  refine as_iadd (pc := 78) X dX5_drops_78 ?_
  refine as_iald (pc := 79) X dX5_drops_79 ?_
  refine as_iload_n (pc := 80) X dX5_drops_80 rfl ?_
  refine as_ic_le (pc := 81) X 88 dX5_drops_81 (by decide) (s_X5_drops_88 X) ?_
  refine as_iconst (pc := 84) X dX5_drops_84 (by decide) ?_
  exact as_goto (pc := 85) X 89 dX5_drops_85 (by decide) (s_X5_drops_89 X)
theorem s_X5_drops_51 {G : am_G} {bc bs : Nat} (X : am_Cx G cX5_drops RX5 "drops" rm_X5_drops none 4 bc bs true) : am_S G 51 (t_X5_drops_51) := by
  unfold t_X5_drops_51
  refine as_iconst (pc := 51) X dX5_drops_51 (by decide) ?_
  refine as_istore_n (pc := 52) X dX5_drops_52 rfl ?_ (by decide)
  exact as_head
theorem s_X5_drops_45 {G : am_G} {bc bs : Nat} (X : am_Cx G cX5_drops RX5 "drops" rm_X5_drops none 4 bc bs true) : am_S G 45 (t_X5_drops_45) := by
  unfold t_X5_drops_45
  refine as_iinc (pc := 45) X dX5_drops_45 (by decide) (by decide) ?_
  exact as_goto (pc := 48) X 7 dX5_drops_48 (by decide) (as_head)
theorem s_X5_drops_40 {G : am_G} {bc bs : Nat} (X : am_Cx G cX5_drops RX5 "drops" rm_X5_drops none 4 bc bs true) : am_S G 40 (t_X5_drops_40) := by
  unfold t_X5_drops_40
  refine as_aload_n (pc := 40) X dX5_drops_40 rfl ?_
  refine as_iload_n (pc := 41) X dX5_drops_41 rfl ?_
  refine as_callS (np := 2) (ix := 135) (pc := 42) X ct_X5_goes ⟨rfl, rfl⟩ aw_854 aw_855 aw_856 aw_65 (by decide +kernel) (by decide) dX5_drops_42 ?_
  exact s_X5_drops_45 X
theorem s_X5_drops_7 {G : am_G} {bc bs : Nat} (X : am_Cx G cX5_drops RX5 "drops" rm_X5_drops none 4 bc bs true) : am_S G 7 (t_X5_drops_7) := by
  unfold t_X5_drops_7
  refine as_iload_n (pc := 7) X dX5_drops_7 rfl ?_
  refine as_if_lt (pc := 8) X 51 dX5_drops_8 (by decide) (s_X5_drops_51 X) ?_
  refine as_aload_n (pc := 11) X dX5_drops_11 rfl ?_
  refine as_iload_n (pc := 12) X dX5_drops_12 rfl ?_
  refine as_iconst (pc := 13) X dX5_drops_13 (by decide) ?_
  refine as_callS (np := 3) (ix := 89) (pc := 14) X ct_X5_told ⟨rfl, rfl⟩ aw_851 aw_852 aw_853 aw_65 (by decide +kernel) (by decide) dX5_drops_14 ?_
  refine as_iload_n (pc := 17) X dX5_drops_17 rfl ?_
  refine as_ic_eq (pc := 18) X 40 dX5_drops_18 (by decide) (s_X5_drops_40 X) ?_
  refine as_aload_n (pc := 21) X dX5_drops_21 rfl ?_
  refine as_iload_n (pc := 22) X dX5_drops_22 rfl ?_
  refine as_iconst (pc := 23) X dX5_drops_23 (by decide) ?_
  refine as_callS (np := 3) (ix := 89) (pc := 24) X ct_X5_told ⟨rfl, rfl⟩ aw_851 aw_852 aw_853 aw_65 (by decide +kernel) (by decide) dX5_drops_24 ?_
  refine as_if_eq (pc := 27) X 45 dX5_drops_27 (by decide) (s_X5_drops_45 X) ?_
  refine as_aload_n (pc := 30) X dX5_drops_30 rfl ?_
  refine as_iload_n (pc := 31) X dX5_drops_31 rfl ?_
  refine as_iconst (pc := 32) X dX5_drops_32 (by decide) ?_
  refine as_callS (np := 3) (ix := 89) (pc := 33) X ct_X5_told ⟨rfl, rfl⟩ aw_851 aw_852 aw_853 aw_65 (by decide +kernel) (by decide) dX5_drops_33 ?_
  refine as_iload_n (pc := 36) X dX5_drops_36 rfl ?_
  refine as_ic_ne (pc := 37) X 45 dX5_drops_37 (by decide) (s_X5_drops_45 X) ?_
  exact s_X5_drops_40 X
theorem s_X5_drops_0 {G : am_G} {bc bs : Nat} (X : am_Cx G cX5_drops RX5 "drops" rm_X5_drops none 4 bc bs true) : am_S G 0 (t_X5_drops_0) := by
  unfold t_X5_drops_0
  refine as_aload_n (pc := 0) X dX5_drops_0 rfl ?_
  refine as_bipush (pc := 1) X dX5_drops_1 (by decide) ?_
  refine as_iald (pc := 3) X dX5_drops_3 ?_
  refine as_iconst (pc := 4) X dX5_drops_4 (by decide) ?_
  refine as_isub (pc := 5) X dX5_drops_5 ?_
  refine as_istore_n (pc := 6) X dX5_drops_6 rfl ?_ (by decide)
  exact as_head
theorem s_X5_drops {G : am_G} {bc bs : Nat} (X : am_Cx G cX5_drops RX5 "drops" rm_X5_drops none 4 bc bs true) (h : Nat) : am_S G h (h_X5_drops h) := by
  unfold h_X5_drops
  split
  · next e => rw [e]; exact s_X5_drops_0 X
  split
  · next e => rw [e]; exact s_X5_drops_7 X
  split
  · next e => rw [e]; exact s_X5_drops_53 X
  split
  · next e => rw [e]; exact s_X5_drops_134 X
  exact as_bad
theorem ct_X5_drops : am_Ct yX5_drops cX5_drops 4 none rm_X5_drops sp_X5_drops := am_met (own := RX5) (nm := "drops") (by decide) rfl rfl (Or.inl rfl) (fun _ _ => h_X5_drops) (fun _ _ _ X => s_X5_drops X) (fun _ _ _ _ h => h)
-- X5_drop
theorem dX5_drop_0 : decode cX5_drop 0 = .ok (.aload_n 0, 1) := by decide +kernel
theorem dX5_drop_1 : decode cX5_drop 1 = .ok (.iload_n 1, 1) := by decide +kernel
theorem dX5_drop_2 : decode cX5_drop 2 = .ok (.invokevirtual 138, 3) := by decide +kernel
theorem dX5_drop_5 : decode cX5_drop 5 = .ok (.ifCond .ne 5, 3) := by decide +kernel
theorem dX5_drop_8 : decode cX5_drop 8 = .ok (.iconst (-1), 1) := by decide +kernel
theorem dX5_drop_9 : decode cX5_drop 9 = .ok (.ireturn, 1) := by decide +kernel
theorem dX5_drop_10 : decode cX5_drop 10 = .ok (.aload_n 0, 1) := by decide +kernel
theorem dX5_drop_11 : decode cX5_drop 11 = .ok (.invokevirtual 68, 3) := by decide +kernel
theorem dX5_drop_14 : decode cX5_drop 14 = .ok (.aload_n 0, 1) := by decide +kernel
theorem dX5_drop_15 : decode cX5_drop 15 = .ok (.getfield 7, 3) := by decide +kernel
theorem dX5_drop_18 : decode cX5_drop 18 = .ok (.iload_n 1, 1) := by decide +kernel
theorem dX5_drop_19 : decode cX5_drop 19 = .ok (.invokestatic 142, 3) := by decide +kernel
theorem dX5_drop_22 : decode cX5_drop 22 = .ok (.aload_n 0, 1) := by decide +kernel
theorem dX5_drop_23 : decode cX5_drop 23 = .ok (.getfield 7, 3) := by decide +kernel
theorem dX5_drop_26 : decode cX5_drop 26 = .ok (.bipush 10, 2) := by decide +kernel
theorem dX5_drop_28 : decode cX5_drop 28 = .ok (.iaload, 1) := by decide +kernel
theorem dX5_drop_29 : decode cX5_drop 29 = .ok (.ireturn, 1) := by decide +kernel
def t_X5_drop_10 : am_T := tb_aload 0 <|
  tb_callV 5 sp_X5_changes 1 <|
  tb_aload 0 <|
  tb_getR 5 0 <|
  tb_iload 1 <|
  tb_callS sp_X5_drops 2 <|
  tb_aload 0 <|
  tb_getR 5 0 <|
  tb_const 10 <|
  tb_iald <|
  tb_iret
def t_X5_drop_0 : am_T := tb_aload 0 <|
  tb_iload 1 <|
  tb_callV 5 sp_X5_isLine 2 <|
  tb_if (fun x => x ≠ 0) (t_X5_drop_10) <|
  tb_const (-1) <|
  tb_iret
def h_X5_drop : am_Hd := fun h => if h = 0 then t_X5_drop_0 else tb_bad
theorem h_X5_drop_0 : h_X5_drop 0 = t_X5_drop_0 := rfl
def rm_X5_drop : Room := { frames := 2, cells := 0, slots := 0, locals := 45 }
def sp_X5_drop : am_sp := fun as M Q => as.length ≤ 2 ∧ am_OK h_X5_drop Q 0 (am_in 2 as) M
theorem s_X5_drop_10 {G : am_G} {bc bs : Nat} (X : am_Cx G cX5_drop RX5 "drop" rm_X5_drop (some .int) 2 bc bs true) : am_S G 10 (t_X5_drop_10) := by
  unfold t_X5_drop_10
  refine as_aload_n (pc := 10) X dX5_drop_10 rfl ?_
  refine as_callV (ci := 5) (np := 0) (ix := 68) (pc := 11) X ct_X5_changes (Cn := (RX5, TX5, 21)) rfl ⟨rfl, rfl⟩ aw_816 aw_818 aw_26 aw_819 aw_65 (by decide +kernel) (by decide) dX5_drop_11 ?_
  refine as_aload_n (pc := 14) X dX5_drop_14 rfl ?_
  refine as_getR (ci := 5) (j := 0) (pc := 15) X (Cn := RX5) (Tf := TX5) (N := 21) rfl rfl (by decide) iw_X5 aw_738 rfl dX5_drop_15 ?_
  refine as_iload_n (pc := 18) X dX5_drop_18 rfl ?_
  refine as_callS (np := 2) (ix := 142) (pc := 19) X ct_X5_drops ⟨rfl, rfl⟩ aw_848 aw_849 aw_850 aw_65 (by decide +kernel) (by decide) dX5_drop_19 ?_
  refine as_aload_n (pc := 22) X dX5_drop_22 rfl ?_
  refine as_getR (ci := 5) (j := 0) (pc := 23) X (Cn := RX5) (Tf := TX5) (N := 21) rfl rfl (by decide) iw_X5 aw_738 rfl dX5_drop_23 ?_
  refine as_bipush (pc := 26) X dX5_drop_26 (by decide) ?_
  refine as_iald (pc := 28) X dX5_drop_28 ?_
  exact as_iret (pc := 29) X ⟨rfl, rfl⟩ rfl dX5_drop_29
theorem s_X5_drop_0 {G : am_G} {bc bs : Nat} (X : am_Cx G cX5_drop RX5 "drop" rm_X5_drop (some .int) 2 bc bs true) : am_S G 0 (t_X5_drop_0) := by
  unfold t_X5_drop_0
  refine as_aload_n (pc := 0) X dX5_drop_0 rfl ?_
  refine as_iload_n (pc := 1) X dX5_drop_1 rfl ?_
  refine as_callV (ci := 5) (np := 1) (ix := 138) (pc := 2) X ct_X5_isLine (Cn := (RX5, TX5, 21)) rfl ⟨rfl, rfl⟩ aw_844 aw_846 aw_28 aw_847 aw_65 (by decide +kernel) (by decide) dX5_drop_2 ?_
  refine as_if_ne (pc := 5) X 10 dX5_drop_5 (by decide) (s_X5_drop_10 X) ?_
  refine as_iconst (pc := 8) X dX5_drop_8 (by decide) ?_
  exact as_iret (pc := 9) X ⟨rfl, rfl⟩ rfl dX5_drop_9
theorem s_X5_drop {G : am_G} {bc bs : Nat} (X : am_Cx G cX5_drop RX5 "drop" rm_X5_drop (some .int) 2 bc bs true) (h : Nat) : am_S G h (h_X5_drop h) := by
  unfold h_X5_drop
  split
  · next e => rw [e]; exact s_X5_drop_0 X
  exact as_bad
theorem ct_X5_drop : am_Ct yX5_drop cX5_drop 2 (some .int) rm_X5_drop sp_X5_drop := am_met (own := RX5) (nm := "drop") (by decide) rfl rfl (Or.inr (Or.inl rfl)) (fun _ _ => h_X5_drop) (fun _ _ _ X => s_X5_drop X) (fun _ _ _ _ h => h)
-- X3_putInOrder
theorem dX3_putInOrder_0 : decode cX3_putInOrder 0 = .ok (.iconst 0, 1) := by decide +kernel
theorem dX3_putInOrder_1 : decode cX3_putInOrder 1 = .ok (.istore_n 1, 1) := by decide +kernel
theorem dX3_putInOrder_2 : decode cX3_putInOrder 2 = .ok (.iload_n 1, 1) := by decide +kernel
theorem dX3_putInOrder_3 : decode cX3_putInOrder 3 = .ok (.aload_n 0, 1) := by decide +kernel
theorem dX3_putInOrder_4 : decode cX3_putInOrder 4 = .ok (.getfield 12, 3) := by decide +kernel
theorem dX3_putInOrder_7 : decode cX3_putInOrder 7 = .ok (.getfield 71, 3) := by decide +kernel
theorem dX3_putInOrder_10 : decode cX3_putInOrder 10 = .ok (.if_icmp .ge 70, 3) := by decide +kernel
theorem dX3_putInOrder_13 : decode cX3_putInOrder 13 = .ok (.iload_n 1, 1) := by decide +kernel
theorem dX3_putInOrder_14 : decode cX3_putInOrder 14 = .ok (.istore_n 2, 1) := by decide +kernel
theorem dX3_putInOrder_15 : decode cX3_putInOrder 15 = .ok (.iload_n 2, 1) := by decide +kernel
theorem dX3_putInOrder_16 : decode cX3_putInOrder 16 = .ok (.ifCond .le 51, 3) := by decide +kernel
theorem dX3_putInOrder_19 : decode cX3_putInOrder 19 = .ok (.aload_n 0, 1) := by decide +kernel
theorem dX3_putInOrder_20 : decode cX3_putInOrder 20 = .ok (.getfield 12, 3) := by decide +kernel
theorem dX3_putInOrder_23 : decode cX3_putInOrder 23 = .ok (.getfield 95, 3) := by decide +kernel
theorem dX3_putInOrder_26 : decode cX3_putInOrder 26 = .ok (.aload_n 0, 1) := by decide +kernel
theorem dX3_putInOrder_27 : decode cX3_putInOrder 27 = .ok (.getfield 18, 3) := by decide +kernel
theorem dX3_putInOrder_30 : decode cX3_putInOrder 30 = .ok (.iload_n 2, 1) := by decide +kernel
theorem dX3_putInOrder_31 : decode cX3_putInOrder 31 = .ok (.iconst 1, 1) := by decide +kernel
theorem dX3_putInOrder_32 : decode cX3_putInOrder 32 = .ok (.isub, 1) := by decide +kernel
theorem dX3_putInOrder_33 : decode cX3_putInOrder 33 = .ok (.iaload, 1) := by decide +kernel
theorem dX3_putInOrder_34 : decode cX3_putInOrder 34 = .ok (.iaload, 1) := by decide +kernel
theorem dX3_putInOrder_35 : decode cX3_putInOrder 35 = .ok (.aload_n 0, 1) := by decide +kernel
theorem dX3_putInOrder_36 : decode cX3_putInOrder 36 = .ok (.getfield 12, 3) := by decide +kernel
theorem dX3_putInOrder_39 : decode cX3_putInOrder 39 = .ok (.getfield 95, 3) := by decide +kernel
theorem dX3_putInOrder_42 : decode cX3_putInOrder 42 = .ok (.iload_n 1, 1) := by decide +kernel
theorem dX3_putInOrder_43 : decode cX3_putInOrder 43 = .ok (.iaload, 1) := by decide +kernel
theorem dX3_putInOrder_44 : decode cX3_putInOrder 44 = .ok (.if_icmp .le 23, 3) := by decide +kernel
theorem dX3_putInOrder_47 : decode cX3_putInOrder 47 = .ok (.aload_n 0, 1) := by decide +kernel
theorem dX3_putInOrder_48 : decode cX3_putInOrder 48 = .ok (.getfield 18, 3) := by decide +kernel
theorem dX3_putInOrder_51 : decode cX3_putInOrder 51 = .ok (.iload_n 2, 1) := by decide +kernel
theorem dX3_putInOrder_52 : decode cX3_putInOrder 52 = .ok (.aload_n 0, 1) := by decide +kernel
theorem dX3_putInOrder_53 : decode cX3_putInOrder 53 = .ok (.getfield 18, 3) := by decide +kernel
theorem dX3_putInOrder_56 : decode cX3_putInOrder 56 = .ok (.iload_n 2, 1) := by decide +kernel
theorem dX3_putInOrder_57 : decode cX3_putInOrder 57 = .ok (.iconst 1, 1) := by decide +kernel
theorem dX3_putInOrder_58 : decode cX3_putInOrder 58 = .ok (.isub, 1) := by decide +kernel
theorem dX3_putInOrder_59 : decode cX3_putInOrder 59 = .ok (.iaload, 1) := by decide +kernel
theorem dX3_putInOrder_60 : decode cX3_putInOrder 60 = .ok (.iastore, 1) := by decide +kernel
theorem dX3_putInOrder_61 : decode cX3_putInOrder 61 = .ok (.iinc 2 (-1), 3) := by decide +kernel
theorem dX3_putInOrder_64 : decode cX3_putInOrder 64 = .ok (.goto (-49), 3) := by decide +kernel
theorem dX3_putInOrder_67 : decode cX3_putInOrder 67 = .ok (.aload_n 0, 1) := by decide +kernel
theorem dX3_putInOrder_68 : decode cX3_putInOrder 68 = .ok (.getfield 18, 3) := by decide +kernel
theorem dX3_putInOrder_71 : decode cX3_putInOrder 71 = .ok (.iload_n 2, 1) := by decide +kernel
theorem dX3_putInOrder_72 : decode cX3_putInOrder 72 = .ok (.iload_n 1, 1) := by decide +kernel
theorem dX3_putInOrder_73 : decode cX3_putInOrder 73 = .ok (.iastore, 1) := by decide +kernel
theorem dX3_putInOrder_74 : decode cX3_putInOrder 74 = .ok (.iinc 1 1, 3) := by decide +kernel
theorem dX3_putInOrder_77 : decode cX3_putInOrder 77 = .ok (.goto (-75), 3) := by decide +kernel
theorem dX3_putInOrder_80 : decode cX3_putInOrder 80 = .ok (.iconst 0, 1) := by decide +kernel
theorem dX3_putInOrder_81 : decode cX3_putInOrder 81 = .ok (.istore_n 1, 1) := by decide +kernel
theorem dX3_putInOrder_82 : decode cX3_putInOrder 82 = .ok (.iload_n 1, 1) := by decide +kernel
theorem dX3_putInOrder_83 : decode cX3_putInOrder 83 = .ok (.aload_n 0, 1) := by decide +kernel
theorem dX3_putInOrder_84 : decode cX3_putInOrder 84 = .ok (.getfield 12, 3) := by decide +kernel
theorem dX3_putInOrder_87 : decode cX3_putInOrder 87 = .ok (.getfield 71, 3) := by decide +kernel
theorem dX3_putInOrder_90 : decode cX3_putInOrder 90 = .ok (.if_icmp .ge 21, 3) := by decide +kernel
theorem dX3_putInOrder_93 : decode cX3_putInOrder 93 = .ok (.aload_n 0, 1) := by decide +kernel
theorem dX3_putInOrder_94 : decode cX3_putInOrder 94 = .ok (.getfield 22, 3) := by decide +kernel
theorem dX3_putInOrder_97 : decode cX3_putInOrder 97 = .ok (.aload_n 0, 1) := by decide +kernel
theorem dX3_putInOrder_98 : decode cX3_putInOrder 98 = .ok (.getfield 18, 3) := by decide +kernel
theorem dX3_putInOrder_101 : decode cX3_putInOrder 101 = .ok (.iload_n 1, 1) := by decide +kernel
theorem dX3_putInOrder_102 : decode cX3_putInOrder 102 = .ok (.iaload, 1) := by decide +kernel
theorem dX3_putInOrder_103 : decode cX3_putInOrder 103 = .ok (.iload_n 1, 1) := by decide +kernel
theorem dX3_putInOrder_104 : decode cX3_putInOrder 104 = .ok (.iastore, 1) := by decide +kernel
theorem dX3_putInOrder_105 : decode cX3_putInOrder 105 = .ok (.iinc 1 1, 3) := by decide +kernel
theorem dX3_putInOrder_108 : decode cX3_putInOrder 108 = .ok (.goto (-26), 3) := by decide +kernel
theorem dX3_putInOrder_111 : decode cX3_putInOrder 111 = .ok (.return_, 1) := by decide +kernel
def t_X3_putInOrder_111 : am_T := tb_ret
def t_X3_putInOrder_82 : am_T := tb_iload 1 <|
  tb_aload 0 <|
  tb_getR 3 0 <|
  tb_getI 1 4 <|
  tb_ic (fun x y => y ≤ x) (t_X3_putInOrder_111) <|
  tb_aload 0 <|
  tb_getR 3 2 <|
  tb_aload 0 <|
  tb_getR 3 1 <|
  tb_iload 1 <|
  tb_iald <|
  tb_iload 1 <|
  tb_iast <|
  tb_iinc 1 1 <|
  tb_head 82
def t_X3_putInOrder_80 : am_T := tb_const 0 <|
  tb_istore 1 <|
  tb_head 82
def t_X3_putInOrder_67 : am_T := tb_aload 0 <|
  tb_getR 3 1 <|
  tb_iload 2 <|
  tb_iload 1 <|
  tb_iast <|
  tb_iinc 1 1 <|
  tb_head 2
def t_X3_putInOrder_15 : am_T := tb_iload 2 <|
  tb_if (fun x => x ≤ 0) (t_X3_putInOrder_67) <|
  tb_aload 0 <|
  tb_getR 3 0 <|
  tb_getR 1 5 <|
  tb_aload 0 <|
  tb_getR 3 1 <|
  tb_iload 2 <|
  tb_const 1 <|
  tb_bin (fun x y => x - y) <|
  tb_iald <|
  tb_iald <|
  tb_aload 0 <|
  tb_getR 3 0 <|
  tb_getR 1 5 <|
  tb_iload 1 <|
  tb_iald <|
  tb_ic (fun x y => x ≤ y) (t_X3_putInOrder_67) <|
  tb_aload 0 <|
  tb_getR 3 1 <|
  tb_iload 2 <|
  tb_aload 0 <|
  tb_getR 3 1 <|
  tb_iload 2 <|
  tb_const 1 <|
  tb_bin (fun x y => x - y) <|
  tb_iald <|
  tb_iast <|
  tb_iinc 2 (-1) <|
  tb_head 15
def t_X3_putInOrder_2 : am_T := tb_iload 1 <|
  tb_aload 0 <|
  tb_getR 3 0 <|
  tb_getI 1 4 <|
  tb_ic (fun x y => y ≤ x) (t_X3_putInOrder_80) <|
  tb_iload 1 <|
  tb_istore 2 <|
  tb_head 15
def t_X3_putInOrder_0 : am_T := tb_const 0 <|
  tb_istore 1 <|
  tb_head 2
def h_X3_putInOrder : am_Hd := fun h => if h = 0 then t_X3_putInOrder_0 else if h = 2 then t_X3_putInOrder_2 else if h = 15 then t_X3_putInOrder_15 else if h = 82 then t_X3_putInOrder_82 else tb_bad
theorem h_X3_putInOrder_0 : h_X3_putInOrder 0 = t_X3_putInOrder_0 := rfl
theorem h_X3_putInOrder_2 : h_X3_putInOrder 2 = t_X3_putInOrder_2 := rfl
theorem h_X3_putInOrder_15 : h_X3_putInOrder 15 = t_X3_putInOrder_15 := rfl
theorem h_X3_putInOrder_82 : h_X3_putInOrder 82 = t_X3_putInOrder_82 := rfl
def rm_X3_putInOrder : Room := { frames := 0, cells := 0, slots := 0, locals := 0 }
def sp_X3_putInOrder : am_sp := fun as M Q => as.length ≤ 3 ∧ am_OK h_X3_putInOrder Q 0 (am_in 3 as) M
theorem s_X3_putInOrder_111 {G : am_G} {bc bs : Nat} (X : am_Cx G cX3_putInOrder RX3 "putInOrder" rm_X3_putInOrder none 3 bc bs true) : am_S G 111 (t_X3_putInOrder_111) := by
  unfold t_X3_putInOrder_111
  exact as_ret (pc := 111) X ⟨rfl, rfl⟩ rfl dX3_putInOrder_111
theorem s_X3_putInOrder_82 {G : am_G} {bc bs : Nat} (X : am_Cx G cX3_putInOrder RX3 "putInOrder" rm_X3_putInOrder none 3 bc bs true) : am_S G 82 (t_X3_putInOrder_82) := by
  unfold t_X3_putInOrder_82
  refine as_iload_n (pc := 82) X dX3_putInOrder_82 rfl ?_
  refine as_aload_n (pc := 83) X dX3_putInOrder_83 rfl ?_
  refine as_getR (ci := 3) (j := 0) (pc := 84) X (Cn := RX3) (Tf := TX3) (N := 17) rfl rfl (by decide) iw_X3 aw_159 rfl dX3_putInOrder_84 ?_
  refine as_getI (ci := 1) (j := 4) (pc := 87) X (Cn := RX1) (Tf := TX1) (N := 14) rfl rfl (by decide) iw_X1 aw_99 rfl dX3_putInOrder_87 ?_
  refine as_ic_ge (pc := 90) X 111 dX3_putInOrder_90 (by decide) (s_X3_putInOrder_111 X) ?_
  refine as_aload_n (pc := 93) X dX3_putInOrder_93 rfl ?_
  refine as_getR (ci := 3) (j := 2) (pc := 94) X (Cn := RX3) (Tf := TX3) (N := 17) rfl rfl (by decide) iw_X3 aw_163 rfl dX3_putInOrder_94 ?_
  refine as_aload_n (pc := 97) X dX3_putInOrder_97 rfl ?_
  refine as_getR (ci := 3) (j := 1) (pc := 98) X (Cn := RX3) (Tf := TX3) (N := 17) rfl rfl (by decide) iw_X3 aw_161 rfl dX3_putInOrder_98 ?_
  refine as_iload_n (pc := 101) X dX3_putInOrder_101 rfl ?_
  refine as_iald (pc := 102) X dX3_putInOrder_102 ?_
  refine as_iload_n (pc := 103) X dX3_putInOrder_103 rfl ?_
  refine as_iast (pc := 104) X dX3_putInOrder_104 ?_
  refine as_iinc (pc := 105) X dX3_putInOrder_105 (by decide) (by decide) ?_
  exact as_goto (pc := 108) X 82 dX3_putInOrder_108 (by decide) (as_head)
theorem s_X3_putInOrder_80 {G : am_G} {bc bs : Nat} (X : am_Cx G cX3_putInOrder RX3 "putInOrder" rm_X3_putInOrder none 3 bc bs true) : am_S G 80 (t_X3_putInOrder_80) := by
  unfold t_X3_putInOrder_80
  refine as_iconst (pc := 80) X dX3_putInOrder_80 (by decide) ?_
  refine as_istore_n (pc := 81) X dX3_putInOrder_81 rfl ?_ (by decide)
  exact as_head
theorem s_X3_putInOrder_67 {G : am_G} {bc bs : Nat} (X : am_Cx G cX3_putInOrder RX3 "putInOrder" rm_X3_putInOrder none 3 bc bs true) : am_S G 67 (t_X3_putInOrder_67) := by
  unfold t_X3_putInOrder_67
  refine as_aload_n (pc := 67) X dX3_putInOrder_67 rfl ?_
  refine as_getR (ci := 3) (j := 1) (pc := 68) X (Cn := RX3) (Tf := TX3) (N := 17) rfl rfl (by decide) iw_X3 aw_161 rfl dX3_putInOrder_68 ?_
  refine as_iload_n (pc := 71) X dX3_putInOrder_71 rfl ?_
  refine as_iload_n (pc := 72) X dX3_putInOrder_72 rfl ?_
  refine as_iast (pc := 73) X dX3_putInOrder_73 ?_
  refine as_iinc (pc := 74) X dX3_putInOrder_74 (by decide) (by decide) ?_
  exact as_goto (pc := 77) X 2 dX3_putInOrder_77 (by decide) (as_head)
theorem s_X3_putInOrder_15 {G : am_G} {bc bs : Nat} (X : am_Cx G cX3_putInOrder RX3 "putInOrder" rm_X3_putInOrder none 3 bc bs true) : am_S G 15 (t_X3_putInOrder_15) := by
  unfold t_X3_putInOrder_15
  refine as_iload_n (pc := 15) X dX3_putInOrder_15 rfl ?_
  refine as_if_le (pc := 16) X 67 dX3_putInOrder_16 (by decide) (s_X3_putInOrder_67 X) ?_
  refine as_aload_n (pc := 19) X dX3_putInOrder_19 rfl ?_
  refine as_getR (ci := 3) (j := 0) (pc := 20) X (Cn := RX3) (Tf := TX3) (N := 17) rfl rfl (by decide) iw_X3 aw_159 rfl dX3_putInOrder_20 ?_
  refine as_getR (ci := 1) (j := 5) (pc := 23) X (Cn := RX1) (Tf := TX1) (N := 14) rfl rfl (by decide) iw_X1 aw_103 rfl dX3_putInOrder_23 ?_
  refine as_aload_n (pc := 26) X dX3_putInOrder_26 rfl ?_
  refine as_getR (ci := 3) (j := 1) (pc := 27) X (Cn := RX3) (Tf := TX3) (N := 17) rfl rfl (by decide) iw_X3 aw_161 rfl dX3_putInOrder_27 ?_
  refine as_iload_n (pc := 30) X dX3_putInOrder_30 rfl ?_
  refine as_iconst (pc := 31) X dX3_putInOrder_31 (by decide) ?_
  refine as_isub (pc := 32) X dX3_putInOrder_32 ?_
  refine as_iald (pc := 33) X dX3_putInOrder_33 ?_
  refine as_iald (pc := 34) X dX3_putInOrder_34 ?_
  refine as_aload_n (pc := 35) X dX3_putInOrder_35 rfl ?_
  refine as_getR (ci := 3) (j := 0) (pc := 36) X (Cn := RX3) (Tf := TX3) (N := 17) rfl rfl (by decide) iw_X3 aw_159 rfl dX3_putInOrder_36 ?_
  refine as_getR (ci := 1) (j := 5) (pc := 39) X (Cn := RX1) (Tf := TX1) (N := 14) rfl rfl (by decide) iw_X1 aw_103 rfl dX3_putInOrder_39 ?_
  refine as_iload_n (pc := 42) X dX3_putInOrder_42 rfl ?_
  refine as_iald (pc := 43) X dX3_putInOrder_43 ?_
  refine as_ic_le (pc := 44) X 67 dX3_putInOrder_44 (by decide) (s_X3_putInOrder_67 X) ?_
  refine as_aload_n (pc := 47) X dX3_putInOrder_47 rfl ?_
  refine as_getR (ci := 3) (j := 1) (pc := 48) X (Cn := RX3) (Tf := TX3) (N := 17) rfl rfl (by decide) iw_X3 aw_161 rfl dX3_putInOrder_48 ?_
  refine as_iload_n (pc := 51) X dX3_putInOrder_51 rfl ?_
  refine as_aload_n (pc := 52) X dX3_putInOrder_52 rfl ?_
  refine as_getR (ci := 3) (j := 1) (pc := 53) X (Cn := RX3) (Tf := TX3) (N := 17) rfl rfl (by decide) iw_X3 aw_161 rfl dX3_putInOrder_53 ?_
  refine as_iload_n (pc := 56) X dX3_putInOrder_56 rfl ?_
  refine as_iconst (pc := 57) X dX3_putInOrder_57 (by decide) ?_
  refine as_isub (pc := 58) X dX3_putInOrder_58 ?_
  refine as_iald (pc := 59) X dX3_putInOrder_59 ?_
  refine as_iast (pc := 60) X dX3_putInOrder_60 ?_
  refine as_iinc (pc := 61) X dX3_putInOrder_61 (by decide) (by decide) ?_
  exact as_goto (pc := 64) X 15 dX3_putInOrder_64 (by decide) (as_head)
theorem s_X3_putInOrder_2 {G : am_G} {bc bs : Nat} (X : am_Cx G cX3_putInOrder RX3 "putInOrder" rm_X3_putInOrder none 3 bc bs true) : am_S G 2 (t_X3_putInOrder_2) := by
  unfold t_X3_putInOrder_2
  refine as_iload_n (pc := 2) X dX3_putInOrder_2 rfl ?_
  refine as_aload_n (pc := 3) X dX3_putInOrder_3 rfl ?_
  refine as_getR (ci := 3) (j := 0) (pc := 4) X (Cn := RX3) (Tf := TX3) (N := 17) rfl rfl (by decide) iw_X3 aw_159 rfl dX3_putInOrder_4 ?_
  refine as_getI (ci := 1) (j := 4) (pc := 7) X (Cn := RX1) (Tf := TX1) (N := 14) rfl rfl (by decide) iw_X1 aw_99 rfl dX3_putInOrder_7 ?_
  refine as_ic_ge (pc := 10) X 80 dX3_putInOrder_10 (by decide) (s_X3_putInOrder_80 X) ?_
  refine as_iload_n (pc := 13) X dX3_putInOrder_13 rfl ?_
  refine as_istore_n (pc := 14) X dX3_putInOrder_14 rfl ?_ (by decide)
  exact as_head
theorem s_X3_putInOrder_0 {G : am_G} {bc bs : Nat} (X : am_Cx G cX3_putInOrder RX3 "putInOrder" rm_X3_putInOrder none 3 bc bs true) : am_S G 0 (t_X3_putInOrder_0) := by
  unfold t_X3_putInOrder_0
  refine as_iconst (pc := 0) X dX3_putInOrder_0 (by decide) ?_
  refine as_istore_n (pc := 1) X dX3_putInOrder_1 rfl ?_ (by decide)
  exact as_head
theorem s_X3_putInOrder {G : am_G} {bc bs : Nat} (X : am_Cx G cX3_putInOrder RX3 "putInOrder" rm_X3_putInOrder none 3 bc bs true) (h : Nat) : am_S G h (h_X3_putInOrder h) := by
  unfold h_X3_putInOrder
  split
  · next e => rw [e]; exact s_X3_putInOrder_0 X
  split
  · next e => rw [e]; exact s_X3_putInOrder_2 X
  split
  · next e => rw [e]; exact s_X3_putInOrder_15 X
  split
  · next e => rw [e]; exact s_X3_putInOrder_82 X
  exact as_bad
theorem ct_X3_putInOrder : am_Ct yX3_putInOrder cX3_putInOrder 3 none rm_X3_putInOrder sp_X3_putInOrder := am_met (own := RX3) (nm := "putInOrder") (by decide) rfl rfl (Or.inl rfl) (fun _ _ => h_X3_putInOrder) (fun _ _ _ X => s_X3_putInOrder X) (fun _ _ _ _ h => h)
-- X4_isIn
theorem dX4_isIn_0 : decode cX4_isIn 0 = .ok (.iload_n 0, 1) := by decide +kernel
theorem dX4_isIn_1 : decode cX4_isIn 1 = .ok (.iload_n 1, 1) := by decide +kernel
theorem dX4_isIn_2 : decode cX4_isIn 2 = .ok (.ishr, 1) := by decide +kernel
theorem dX4_isIn_3 : decode cX4_isIn 3 = .ok (.iconst 1, 1) := by decide +kernel
theorem dX4_isIn_4 : decode cX4_isIn 4 = .ok (.iand, 1) := by decide +kernel
theorem dX4_isIn_5 : decode cX4_isIn 5 = .ok (.iconst 1, 1) := by decide +kernel
theorem dX4_isIn_6 : decode cX4_isIn 6 = .ok (.if_icmp .ne 7, 3) := by decide +kernel
theorem dX4_isIn_9 : decode cX4_isIn 9 = .ok (.iconst 1, 1) := by decide +kernel
theorem dX4_isIn_10 : decode cX4_isIn 10 = .ok (.goto 4, 3) := by decide +kernel
theorem dX4_isIn_13 : decode cX4_isIn 13 = .ok (.iconst 0, 1) := by decide +kernel
theorem dX4_isIn_14 : decode cX4_isIn 14 = .ok (.ireturn, 1) := by decide +kernel
def t_X4_isIn_14 : am_T := tb_zret
def t_X4_isIn_13 : am_T := tb_const 0 <|
  t_X4_isIn_14
def t_X4_isIn_0 : am_T := tb_iload 0 <|
  tb_iload 1 <|
  tb_bin (fun x y => x >>> (y &&& 31)) <|
  tb_const 1 <|
  tb_bin (fun x y => x &&& y) <|
  tb_const 1 <|
  tb_ic (fun x y => x ≠ y) (t_X4_isIn_13) <|
  tb_const 1 <|
  t_X4_isIn_14
def h_X4_isIn : am_Hd := fun h => if h = 0 then t_X4_isIn_0 else tb_bad
theorem h_X4_isIn_0 : h_X4_isIn 0 = t_X4_isIn_0 := rfl
def rm_X4_isIn : Room := { frames := 0, cells := 0, slots := 0, locals := 0 }
def sp_X4_isIn : am_sp := fun as M Q => as.length ≤ 2 ∧ am_OK h_X4_isIn Q 0 (am_in 2 as) M
theorem s_X4_isIn_14 {G : am_G} {bc bs : Nat} (X : am_Cx G cX4_isIn RX4 "isIn" rm_X4_isIn (some .boolean) 2 bc bs true) : am_S G 14 (t_X4_isIn_14) := by
  unfold t_X4_isIn_14
  exact as_zret (pc := 14) X ⟨rfl, rfl⟩ rfl dX4_isIn_14
theorem s_X4_isIn_13 {G : am_G} {bc bs : Nat} (X : am_Cx G cX4_isIn RX4 "isIn" rm_X4_isIn (some .boolean) 2 bc bs true) : am_S G 13 (t_X4_isIn_13) := by
  unfold t_X4_isIn_13
  refine as_iconst (pc := 13) X dX4_isIn_13 (by decide) ?_
  exact s_X4_isIn_14 X
theorem s_X4_isIn_0 {G : am_G} {bc bs : Nat} (X : am_Cx G cX4_isIn RX4 "isIn" rm_X4_isIn (some .boolean) 2 bc bs true) : am_S G 0 (t_X4_isIn_0) := by
  unfold t_X4_isIn_0
  refine as_iload_n (pc := 0) X dX4_isIn_0 rfl ?_
  refine as_iload_n (pc := 1) X dX4_isIn_1 rfl ?_
  refine as_ishr (pc := 2) X dX4_isIn_2 ?_
  refine as_iconst (pc := 3) X dX4_isIn_3 (by decide) ?_
  refine as_iand (pc := 4) X dX4_isIn_4 ?_
  refine as_iconst (pc := 5) X dX4_isIn_5 (by decide) ?_
  refine as_ic_ne (pc := 6) X 13 dX4_isIn_6 (by decide) (s_X4_isIn_13 X) ?_
  refine as_iconst (pc := 9) X dX4_isIn_9 (by decide) ?_
  exact as_goto (pc := 10) X 14 dX4_isIn_10 (by decide) (s_X4_isIn_14 X)
theorem s_X4_isIn {G : am_G} {bc bs : Nat} (X : am_Cx G cX4_isIn RX4 "isIn" rm_X4_isIn (some .boolean) 2 bc bs true) (h : Nat) : am_S G h (h_X4_isIn h) := by
  unfold h_X4_isIn
  split
  · next e => rw [e]; exact s_X4_isIn_0 X
  exact as_bad
theorem ct_X4_isIn : am_Ct yX4_isIn cX4_isIn 2 (some .boolean) rm_X4_isIn sp_X4_isIn := am_met (own := RX4) (nm := "isIn") (by decide) rfl rfl (Or.inr (Or.inr (Or.inl rfl))) (fun _ _ => h_X4_isIn) (fun _ _ _ X => s_X4_isIn X) (fun _ _ _ _ h => h)
-- X1_personsNamedIn
theorem dX1_personsNamedIn_0 : decode cX1_personsNamedIn 0 = .ok (.iconst 0, 1) := by decide +kernel
theorem dX1_personsNamedIn_1 : decode cX1_personsNamedIn 1 = .ok (.istore_n 2, 1) := by decide +kernel
theorem dX1_personsNamedIn_2 : decode cX1_personsNamedIn 2 = .ok (.iconst 0, 1) := by decide +kernel
theorem dX1_personsNamedIn_3 : decode cX1_personsNamedIn 3 = .ok (.istore_n 3, 1) := by decide +kernel
theorem dX1_personsNamedIn_4 : decode cX1_personsNamedIn 4 = .ok (.aload_n 0, 1) := by decide +kernel
theorem dX1_personsNamedIn_5 : decode cX1_personsNamedIn 5 = .ok (.getfield 9, 3) := by decide +kernel
theorem dX1_personsNamedIn_8 : decode cX1_personsNamedIn 8 = .ok (.iconst 1, 1) := by decide +kernel
theorem dX1_personsNamedIn_9 : decode cX1_personsNamedIn 9 = .ok (.isub, 1) := by decide +kernel
theorem dX1_personsNamedIn_10 : decode cX1_personsNamedIn 10 = .ok (.istore 4, 2) := by decide +kernel
theorem dX1_personsNamedIn_12 : decode cX1_personsNamedIn 12 = .ok (.iload 4, 2) := by decide +kernel
theorem dX1_personsNamedIn_14 : decode cX1_personsNamedIn 14 = .ok (.ifCond .lt 72, 3) := by decide +kernel
theorem dX1_personsNamedIn_17 : decode cX1_personsNamedIn 17 = .ok (.iconst 1, 1) := by decide +kernel
theorem dX1_personsNamedIn_18 : decode cX1_personsNamedIn 18 = .ok (.aload_n 0, 1) := by decide +kernel
theorem dX1_personsNamedIn_19 : decode cX1_personsNamedIn 19 = .ok (.getfield 15, 3) := by decide +kernel
theorem dX1_personsNamedIn_22 : decode cX1_personsNamedIn 22 = .ok (.iload 4, 2) := by decide +kernel
theorem dX1_personsNamedIn_24 : decode cX1_personsNamedIn 24 = .ok (.iaload, 1) := by decide +kernel
theorem dX1_personsNamedIn_25 : decode cX1_personsNamedIn 25 = .ok (.ishl, 1) := by decide +kernel
theorem dX1_personsNamedIn_26 : decode cX1_personsNamedIn 26 = .ok (.istore 5, 2) := by decide +kernel
theorem dX1_personsNamedIn_28 : decode cX1_personsNamedIn 28 = .ok (.aload_n 0, 1) := by decide +kernel
theorem dX1_personsNamedIn_29 : decode cX1_personsNamedIn 29 = .ok (.getfield 22, 3) := by decide +kernel
theorem dX1_personsNamedIn_32 : decode cX1_personsNamedIn 32 = .ok (.iload 4, 2) := by decide +kernel
theorem dX1_personsNamedIn_34 : decode cX1_personsNamedIn 34 = .ok (.iaload, 1) := by decide +kernel
theorem dX1_personsNamedIn_35 : decode cX1_personsNamedIn 35 = .ok (.aload_n 0, 1) := by decide +kernel
theorem dX1_personsNamedIn_36 : decode cX1_personsNamedIn 36 = .ok (.getfield 28, 3) := by decide +kernel
theorem dX1_personsNamedIn_39 : decode cX1_personsNamedIn 39 = .ok (.iload_n 1, 1) := by decide +kernel
theorem dX1_personsNamedIn_40 : decode cX1_personsNamedIn 40 = .ok (.iaload, 1) := by decide +kernel
theorem dX1_personsNamedIn_41 : decode cX1_personsNamedIn 41 = .ok (.if_icmp .gt 39, 3) := by decide +kernel
theorem dX1_personsNamedIn_44 : decode cX1_personsNamedIn 44 = .ok (.iload_n 3, 1) := by decide +kernel
theorem dX1_personsNamedIn_45 : decode cX1_personsNamedIn 45 = .ok (.iload 5, 2) := by decide +kernel
theorem dX1_personsNamedIn_47 : decode cX1_personsNamedIn 47 = .ok (.iand, 1) := by decide +kernel
theorem dX1_personsNamedIn_48 : decode cX1_personsNamedIn 48 = .ok (.ifCond .ne 32, 3) := by decide +kernel
theorem dX1_personsNamedIn_51 : decode cX1_personsNamedIn 51 = .ok (.iload_n 3, 1) := by decide +kernel
theorem dX1_personsNamedIn_52 : decode cX1_personsNamedIn 52 = .ok (.iload 5, 2) := by decide +kernel
theorem dX1_personsNamedIn_54 : decode cX1_personsNamedIn 54 = .ok (.ior, 1) := by decide +kernel
theorem dX1_personsNamedIn_55 : decode cX1_personsNamedIn 55 = .ok (.istore_n 3, 1) := by decide +kernel
theorem dX1_personsNamedIn_56 : decode cX1_personsNamedIn 56 = .ok (.aload_n 0, 1) := by decide +kernel
theorem dX1_personsNamedIn_57 : decode cX1_personsNamedIn 57 = .ok (.getfield 34, 3) := by decide +kernel
theorem dX1_personsNamedIn_60 : decode cX1_personsNamedIn 60 = .ok (.iload_n 1, 1) := by decide +kernel
theorem dX1_personsNamedIn_61 : decode cX1_personsNamedIn 61 = .ok (.iaload, 1) := by decide +kernel
theorem dX1_personsNamedIn_62 : decode cX1_personsNamedIn 62 = .ok (.aload_n 0, 1) := by decide +kernel
theorem dX1_personsNamedIn_63 : decode cX1_personsNamedIn 63 = .ok (.getfield 19, 3) := by decide +kernel
theorem dX1_personsNamedIn_66 : decode cX1_personsNamedIn 66 = .ok (.iload 4, 2) := by decide +kernel
theorem dX1_personsNamedIn_68 : decode cX1_personsNamedIn 68 = .ok (.iaload, 1) := by decide +kernel
theorem dX1_personsNamedIn_69 : decode cX1_personsNamedIn 69 = .ok (.invokestatic 68, 3) := by decide +kernel
theorem dX1_personsNamedIn_72 : decode cX1_personsNamedIn 72 = .ok (.ifCond .eq 8, 3) := by decide +kernel
theorem dX1_personsNamedIn_75 : decode cX1_personsNamedIn 75 = .ok (.iload_n 2, 1) := by decide +kernel
theorem dX1_personsNamedIn_76 : decode cX1_personsNamedIn 76 = .ok (.iload 5, 2) := by decide +kernel
theorem dX1_personsNamedIn_78 : decode cX1_personsNamedIn 78 = .ok (.ior, 1) := by decide +kernel
theorem dX1_personsNamedIn_79 : decode cX1_personsNamedIn 79 = .ok (.istore_n 2, 1) := by decide +kernel
theorem dX1_personsNamedIn_80 : decode cX1_personsNamedIn 80 = .ok (.iinc 4 (-1), 3) := by decide +kernel
theorem dX1_personsNamedIn_83 : decode cX1_personsNamedIn 83 = .ok (.goto (-71), 3) := by decide +kernel
theorem dX1_personsNamedIn_86 : decode cX1_personsNamedIn 86 = .ok (.iload_n 2, 1) := by decide +kernel
theorem dX1_personsNamedIn_87 : decode cX1_personsNamedIn 87 = .ok (.ireturn, 1) := by decide +kernel
def t_X1_personsNamedIn_86 : am_T := tb_iload 2 <|
  tb_iret
def t_X1_personsNamedIn_80 : am_T := tb_iinc 4 (-1) <|
  tb_head 12
def t_X1_personsNamedIn_12 : am_T := tb_iload 4 <|
  tb_if (fun x => x < 0) (t_X1_personsNamedIn_86) <|
  tb_const 1 <|
  tb_aload 0 <|
  tb_getR 1 1 <|
  tb_iload 4 <|
  tb_iald <|
  tb_bin (fun x y => x <<< (y &&& 31)) <|
  tb_istore 5 <|
  tb_aload 0 <|
  tb_getR 1 3 <|
  tb_iload 4 <|
  tb_iald <|
  tb_aload 0 <|
  tb_getR 1 5 <|
  tb_iload 1 <|
  tb_iald <|
  tb_ic (fun x y => y < x) (t_X1_personsNamedIn_80) <|
  tb_iload 3 <|
  tb_iload 5 <|
  tb_bin (fun x y => x &&& y) <|
  tb_if (fun x => x ≠ 0) (t_X1_personsNamedIn_80) <|
  tb_iload 3 <|
  tb_iload 5 <|
  tb_bin (fun x y => x ||| y) <|
  tb_istore 3 <|
  tb_aload 0 <|
  tb_getR 1 7 <|
  tb_iload 1 <|
  tb_iald <|
  tb_aload 0 <|
  tb_getR 1 2 <|
  tb_iload 4 <|
  tb_iald <|
  tb_callS sp_X4_isIn 2 <|
  tb_if (fun x => x = 0) (t_X1_personsNamedIn_80) <|
  tb_iload 2 <|
  tb_iload 5 <|
  tb_bin (fun x y => x ||| y) <|
  tb_istore 2 <|
  t_X1_personsNamedIn_80
def t_X1_personsNamedIn_0 : am_T := tb_const 0 <|
  tb_istore 2 <|
  tb_const 0 <|
  tb_istore 3 <|
  tb_aload 0 <|
  tb_getI 1 0 <|
  tb_const 1 <|
  tb_bin (fun x y => x - y) <|
  tb_istore 4 <|
  tb_head 12
def h_X1_personsNamedIn : am_Hd := fun h => if h = 0 then t_X1_personsNamedIn_0 else if h = 12 then t_X1_personsNamedIn_12 else tb_bad
theorem h_X1_personsNamedIn_0 : h_X1_personsNamedIn 0 = t_X1_personsNamedIn_0 := rfl
theorem h_X1_personsNamedIn_12 : h_X1_personsNamedIn 12 = t_X1_personsNamedIn_12 := rfl
def rm_X1_personsNamedIn : Room := { frames := 1, cells := 0, slots := 0, locals := 21 }
def sp_X1_personsNamedIn : am_sp := fun as M Q => as.length ≤ 6 ∧ am_OK h_X1_personsNamedIn Q 0 (am_in 6 as) M
theorem s_X1_personsNamedIn_86 {G : am_G} {bc bs : Nat} (X : am_Cx G cX1_personsNamedIn RX1 "personsNamedIn" rm_X1_personsNamedIn (some .int) 6 bc bs true) : am_S G 86 (t_X1_personsNamedIn_86) := by
  unfold t_X1_personsNamedIn_86
  refine as_iload_n (pc := 86) X dX1_personsNamedIn_86 rfl ?_
  exact as_iret (pc := 87) X ⟨rfl, rfl⟩ rfl dX1_personsNamedIn_87
theorem s_X1_personsNamedIn_80 {G : am_G} {bc bs : Nat} (X : am_Cx G cX1_personsNamedIn RX1 "personsNamedIn" rm_X1_personsNamedIn (some .int) 6 bc bs true) : am_S G 80 (t_X1_personsNamedIn_80) := by
  unfold t_X1_personsNamedIn_80
  refine as_iinc (pc := 80) X dX1_personsNamedIn_80 (by decide) (by decide) ?_
  exact as_goto (pc := 83) X 12 dX1_personsNamedIn_83 (by decide) (as_head)
theorem s_X1_personsNamedIn_12 {G : am_G} {bc bs : Nat} (X : am_Cx G cX1_personsNamedIn RX1 "personsNamedIn" rm_X1_personsNamedIn (some .int) 6 bc bs true) : am_S G 12 (t_X1_personsNamedIn_12) := by
  unfold t_X1_personsNamedIn_12
  refine as_iload (pc := 12) X dX1_personsNamedIn_12 ?_
  refine as_if_lt (pc := 14) X 86 dX1_personsNamedIn_14 (by decide) (s_X1_personsNamedIn_86 X) ?_
  refine as_iconst (pc := 17) X dX1_personsNamedIn_17 (by decide) ?_
  refine as_aload_n (pc := 18) X dX1_personsNamedIn_18 rfl ?_
  refine as_getR (ci := 1) (j := 1) (pc := 19) X (Cn := RX1) (Tf := TX1) (N := 14) rfl rfl (by decide) iw_X1 aw_95 rfl dX1_personsNamedIn_19 ?_
  refine as_iload (pc := 22) X dX1_personsNamedIn_22 ?_
  refine as_iald (pc := 24) X dX1_personsNamedIn_24 ?_
  refine as_ishl (pc := 25) X dX1_personsNamedIn_25 ?_
  refine as_istore (pc := 26) X dX1_personsNamedIn_26 ?_ (by decide)
  refine as_aload_n (pc := 28) X dX1_personsNamedIn_28 rfl ?_
  refine as_getR (ci := 1) (j := 3) (pc := 29) X (Cn := RX1) (Tf := TX1) (N := 14) rfl rfl (by decide) iw_X1 aw_97 rfl dX1_personsNamedIn_29 ?_
  refine as_iload (pc := 32) X dX1_personsNamedIn_32 ?_
  refine as_iald (pc := 34) X dX1_personsNamedIn_34 ?_
  refine as_aload_n (pc := 35) X dX1_personsNamedIn_35 rfl ?_
  refine as_getR (ci := 1) (j := 5) (pc := 36) X (Cn := RX1) (Tf := TX1) (N := 14) rfl rfl (by decide) iw_X1 aw_102 rfl dX1_personsNamedIn_36 ?_
  refine as_iload_n (pc := 39) X dX1_personsNamedIn_39 rfl ?_
  refine as_iald (pc := 40) X dX1_personsNamedIn_40 ?_
  refine as_ic_gt (pc := 41) X 80 dX1_personsNamedIn_41 (by decide) (s_X1_personsNamedIn_80 X) ?_
  refine as_iload_n (pc := 44) X dX1_personsNamedIn_44 rfl ?_
  refine as_iload (pc := 45) X dX1_personsNamedIn_45 ?_
  refine as_iand (pc := 47) X dX1_personsNamedIn_47 ?_
  refine as_if_ne (pc := 48) X 80 dX1_personsNamedIn_48 (by decide) (s_X1_personsNamedIn_80 X) ?_
  refine as_iload_n (pc := 51) X dX1_personsNamedIn_51 rfl ?_
  refine as_iload (pc := 52) X dX1_personsNamedIn_52 ?_
  refine as_ior (pc := 54) X dX1_personsNamedIn_54 ?_
  refine as_istore_n (pc := 55) X dX1_personsNamedIn_55 rfl ?_ (by decide)
  refine as_aload_n (pc := 56) X dX1_personsNamedIn_56 rfl ?_
  refine as_getR (ci := 1) (j := 7) (pc := 57) X (Cn := RX1) (Tf := TX1) (N := 14) rfl rfl (by decide) iw_X1 aw_108 rfl dX1_personsNamedIn_57 ?_
  refine as_iload_n (pc := 60) X dX1_personsNamedIn_60 rfl ?_
  refine as_iald (pc := 61) X dX1_personsNamedIn_61 ?_
  refine as_aload_n (pc := 62) X dX1_personsNamedIn_62 rfl ?_
  refine as_getR (ci := 1) (j := 2) (pc := 63) X (Cn := RX1) (Tf := TX1) (N := 14) rfl rfl (by decide) iw_X1 aw_96 rfl dX1_personsNamedIn_63 ?_
  refine as_iload (pc := 66) X dX1_personsNamedIn_66 ?_
  refine as_iald (pc := 68) X dX1_personsNamedIn_68 ?_
  refine as_callSN (np := 2) (ix := 68) (pc := 69) X ct_X4_isIn ⟨rfl, rfl⟩ (host := RX4) (by simp [am_NW]) aw_406 aw_407 aw_59 (by decide +kernel) (by decide) dX1_personsNamedIn_69 ?_
  refine as_if_eq (pc := 72) X 80 dX1_personsNamedIn_72 (by decide) (s_X1_personsNamedIn_80 X) ?_
  refine as_iload_n (pc := 75) X dX1_personsNamedIn_75 rfl ?_
  refine as_iload (pc := 76) X dX1_personsNamedIn_76 ?_
  refine as_ior (pc := 78) X dX1_personsNamedIn_78 ?_
  refine as_istore_n (pc := 79) X dX1_personsNamedIn_79 rfl ?_ (by decide)
  exact s_X1_personsNamedIn_80 X
theorem s_X1_personsNamedIn_0 {G : am_G} {bc bs : Nat} (X : am_Cx G cX1_personsNamedIn RX1 "personsNamedIn" rm_X1_personsNamedIn (some .int) 6 bc bs true) : am_S G 0 (t_X1_personsNamedIn_0) := by
  unfold t_X1_personsNamedIn_0
  refine as_iconst (pc := 0) X dX1_personsNamedIn_0 (by decide) ?_
  refine as_istore_n (pc := 1) X dX1_personsNamedIn_1 rfl ?_ (by decide)
  refine as_iconst (pc := 2) X dX1_personsNamedIn_2 (by decide) ?_
  refine as_istore_n (pc := 3) X dX1_personsNamedIn_3 rfl ?_ (by decide)
  refine as_aload_n (pc := 4) X dX1_personsNamedIn_4 rfl ?_
  refine as_getI (ci := 1) (j := 0) (pc := 5) X (Cn := RX1) (Tf := TX1) (N := 14) rfl rfl (by decide) iw_X1 aw_93 rfl dX1_personsNamedIn_5 ?_
  refine as_iconst (pc := 8) X dX1_personsNamedIn_8 (by decide) ?_
  refine as_isub (pc := 9) X dX1_personsNamedIn_9 ?_
  refine as_istore (pc := 10) X dX1_personsNamedIn_10 ?_ (by decide)
  exact as_head
theorem s_X1_personsNamedIn {G : am_G} {bc bs : Nat} (X : am_Cx G cX1_personsNamedIn RX1 "personsNamedIn" rm_X1_personsNamedIn (some .int) 6 bc bs true) (h : Nat) : am_S G h (h_X1_personsNamedIn h) := by
  unfold h_X1_personsNamedIn
  split
  · next e => rw [e]; exact s_X1_personsNamedIn_0 X
  split
  · next e => rw [e]; exact s_X1_personsNamedIn_12 X
  exact as_bad
theorem ct_X1_personsNamedIn : am_Ct yX1_personsNamedIn cX1_personsNamedIn 6 (some .int) rm_X1_personsNamedIn sp_X1_personsNamedIn := am_met (own := RX1) (nm := "personsNamedIn") (by decide) rfl rfl (Or.inr (Or.inl rfl)) (fun _ _ => h_X1_personsNamedIn) (fun _ _ _ X => s_X1_personsNamedIn X) (fun _ _ _ _ h => h)
-- X3_speaksTo
theorem dX3_speaksTo_0 : decode cX3_speaksTo 0 = .ok (.aload_n 0, 1) := by decide +kernel
theorem dX3_speaksTo_1 : decode cX3_speaksTo 1 = .ok (.getfield 25, 3) := by decide +kernel
theorem dX3_speaksTo_4 : decode cX3_speaksTo 4 = .ok (.iload_n 1, 1) := by decide +kernel
theorem dX3_speaksTo_5 : decode cX3_speaksTo 5 = .ok (.iaload, 1) := by decide +kernel
theorem dX3_speaksTo_6 : decode cX3_speaksTo 6 = .ok (.iload_n 2, 1) := by decide +kernel
theorem dX3_speaksTo_7 : decode cX3_speaksTo 7 = .ok (.invokestatic 119, 3) := by decide +kernel
theorem dX3_speaksTo_10 : decode cX3_speaksTo 10 = .ok (.ireturn, 1) := by decide +kernel
def t_X3_speaksTo_0 : am_T := tb_aload 0 <|
  tb_getR 3 3 <|
  tb_iload 1 <|
  tb_iald <|
  tb_iload 2 <|
  tb_callS sp_X4_isIn 2 <|
  tb_zret
def h_X3_speaksTo : am_Hd := fun h => if h = 0 then t_X3_speaksTo_0 else tb_bad
theorem h_X3_speaksTo_0 : h_X3_speaksTo 0 = t_X3_speaksTo_0 := rfl
def rm_X3_speaksTo : Room := { frames := 1, cells := 0, slots := 0, locals := 21 }
def sp_X3_speaksTo : am_sp := fun as M Q => as.length ≤ 3 ∧ am_OK h_X3_speaksTo Q 0 (am_in 3 as) M
theorem s_X3_speaksTo_0 {G : am_G} {bc bs : Nat} (X : am_Cx G cX3_speaksTo RX3 "speaksTo" rm_X3_speaksTo (some .boolean) 3 bc bs true) : am_S G 0 (t_X3_speaksTo_0) := by
  unfold t_X3_speaksTo_0
  refine as_aload_n (pc := 0) X dX3_speaksTo_0 rfl ?_
  refine as_getR (ci := 3) (j := 3) (pc := 1) X (Cn := RX3) (Tf := TX3) (N := 17) rfl rfl (by decide) iw_X3 aw_165 rfl dX3_speaksTo_1 ?_
  refine as_iload_n (pc := 4) X dX3_speaksTo_4 rfl ?_
  refine as_iald (pc := 5) X dX3_speaksTo_5 ?_
  refine as_iload_n (pc := 6) X dX3_speaksTo_6 rfl ?_
  refine as_callSN (np := 2) (ix := 119) (pc := 7) X ct_X4_isIn ⟨rfl, rfl⟩ (host := RX4) (by simp [am_NW]) aw_406 aw_407 aw_59 (by decide +kernel) (by decide) dX3_speaksTo_7 ?_
  exact as_zret (pc := 10) X ⟨rfl, rfl⟩ rfl dX3_speaksTo_10
theorem s_X3_speaksTo {G : am_G} {bc bs : Nat} (X : am_Cx G cX3_speaksTo RX3 "speaksTo" rm_X3_speaksTo (some .boolean) 3 bc bs true) (h : Nat) : am_S G h (h_X3_speaksTo h) := by
  unfold h_X3_speaksTo
  split
  · next e => rw [e]; exact s_X3_speaksTo_0 X
  exact as_bad
theorem ct_X3_speaksTo : am_Ct yX3_speaksTo cX3_speaksTo 3 (some .boolean) rm_X3_speaksTo sp_X3_speaksTo := am_met (own := RX3) (nm := "speaksTo") (by decide) rfl rfl (Or.inr (Or.inr (Or.inl rfl))) (fun _ _ => h_X3_speaksTo) (fun _ _ _ X => s_X3_speaksTo X) (fun _ _ _ _ h => h)
-- J6_bitCount_0f7a4
theorem dJ6_bitCount_0f7a4_0 : decode cJ6_bitCount_0f7a4 0 = .ok (.iload_n 0, 1) := by decide +kernel
theorem dJ6_bitCount_0f7a4_1 : decode cJ6_bitCount_0f7a4 1 = .ok (.iload_n 0, 1) := by decide +kernel
theorem dJ6_bitCount_0f7a4_2 : decode cJ6_bitCount_0f7a4 2 = .ok (.iconst 1, 1) := by decide +kernel
theorem dJ6_bitCount_0f7a4_3 : decode cJ6_bitCount_0f7a4 3 = .ok (.iushr, 1) := by decide +kernel
theorem dJ6_bitCount_0f7a4_4 : decode cJ6_bitCount_0f7a4 4 = .ok (.ldc_w 265, 3) := by decide +kernel
theorem dJ6_bitCount_0f7a4_7 : decode cJ6_bitCount_0f7a4 7 = .ok (.iand, 1) := by decide +kernel
theorem dJ6_bitCount_0f7a4_8 : decode cJ6_bitCount_0f7a4 8 = .ok (.isub, 1) := by decide +kernel
theorem dJ6_bitCount_0f7a4_9 : decode cJ6_bitCount_0f7a4 9 = .ok (.istore_n 0, 1) := by decide +kernel
theorem dJ6_bitCount_0f7a4_10 : decode cJ6_bitCount_0f7a4 10 = .ok (.iload_n 0, 1) := by decide +kernel
theorem dJ6_bitCount_0f7a4_11 : decode cJ6_bitCount_0f7a4 11 = .ok (.ldc_w 266, 3) := by decide +kernel
theorem dJ6_bitCount_0f7a4_14 : decode cJ6_bitCount_0f7a4 14 = .ok (.iand, 1) := by decide +kernel
theorem dJ6_bitCount_0f7a4_15 : decode cJ6_bitCount_0f7a4 15 = .ok (.iload_n 0, 1) := by decide +kernel
theorem dJ6_bitCount_0f7a4_16 : decode cJ6_bitCount_0f7a4 16 = .ok (.iconst 2, 1) := by decide +kernel
theorem dJ6_bitCount_0f7a4_17 : decode cJ6_bitCount_0f7a4 17 = .ok (.iushr, 1) := by decide +kernel
theorem dJ6_bitCount_0f7a4_18 : decode cJ6_bitCount_0f7a4 18 = .ok (.ldc_w 266, 3) := by decide +kernel
theorem dJ6_bitCount_0f7a4_21 : decode cJ6_bitCount_0f7a4 21 = .ok (.iand, 1) := by decide +kernel
theorem dJ6_bitCount_0f7a4_22 : decode cJ6_bitCount_0f7a4 22 = .ok (.iadd, 1) := by decide +kernel
theorem dJ6_bitCount_0f7a4_23 : decode cJ6_bitCount_0f7a4 23 = .ok (.istore_n 0, 1) := by decide +kernel
theorem dJ6_bitCount_0f7a4_24 : decode cJ6_bitCount_0f7a4 24 = .ok (.iload_n 0, 1) := by decide +kernel
theorem dJ6_bitCount_0f7a4_25 : decode cJ6_bitCount_0f7a4 25 = .ok (.iload_n 0, 1) := by decide +kernel
theorem dJ6_bitCount_0f7a4_26 : decode cJ6_bitCount_0f7a4 26 = .ok (.iconst 4, 1) := by decide +kernel
theorem dJ6_bitCount_0f7a4_27 : decode cJ6_bitCount_0f7a4 27 = .ok (.iushr, 1) := by decide +kernel
theorem dJ6_bitCount_0f7a4_28 : decode cJ6_bitCount_0f7a4 28 = .ok (.iadd, 1) := by decide +kernel
theorem dJ6_bitCount_0f7a4_29 : decode cJ6_bitCount_0f7a4 29 = .ok (.ldc_w 267, 3) := by decide +kernel
theorem dJ6_bitCount_0f7a4_32 : decode cJ6_bitCount_0f7a4 32 = .ok (.iand, 1) := by decide +kernel
theorem dJ6_bitCount_0f7a4_33 : decode cJ6_bitCount_0f7a4 33 = .ok (.istore_n 0, 1) := by decide +kernel
theorem dJ6_bitCount_0f7a4_34 : decode cJ6_bitCount_0f7a4 34 = .ok (.iload_n 0, 1) := by decide +kernel
theorem dJ6_bitCount_0f7a4_35 : decode cJ6_bitCount_0f7a4 35 = .ok (.iload_n 0, 1) := by decide +kernel
theorem dJ6_bitCount_0f7a4_36 : decode cJ6_bitCount_0f7a4 36 = .ok (.bipush 8, 2) := by decide +kernel
theorem dJ6_bitCount_0f7a4_38 : decode cJ6_bitCount_0f7a4 38 = .ok (.iushr, 1) := by decide +kernel
theorem dJ6_bitCount_0f7a4_39 : decode cJ6_bitCount_0f7a4 39 = .ok (.iadd, 1) := by decide +kernel
theorem dJ6_bitCount_0f7a4_40 : decode cJ6_bitCount_0f7a4 40 = .ok (.istore_n 0, 1) := by decide +kernel
theorem dJ6_bitCount_0f7a4_41 : decode cJ6_bitCount_0f7a4 41 = .ok (.iload_n 0, 1) := by decide +kernel
theorem dJ6_bitCount_0f7a4_42 : decode cJ6_bitCount_0f7a4 42 = .ok (.iload_n 0, 1) := by decide +kernel
theorem dJ6_bitCount_0f7a4_43 : decode cJ6_bitCount_0f7a4 43 = .ok (.bipush 16, 2) := by decide +kernel
theorem dJ6_bitCount_0f7a4_45 : decode cJ6_bitCount_0f7a4 45 = .ok (.iushr, 1) := by decide +kernel
theorem dJ6_bitCount_0f7a4_46 : decode cJ6_bitCount_0f7a4 46 = .ok (.iadd, 1) := by decide +kernel
theorem dJ6_bitCount_0f7a4_47 : decode cJ6_bitCount_0f7a4 47 = .ok (.istore_n 0, 1) := by decide +kernel
theorem dJ6_bitCount_0f7a4_48 : decode cJ6_bitCount_0f7a4 48 = .ok (.iload_n 0, 1) := by decide +kernel
theorem dJ6_bitCount_0f7a4_49 : decode cJ6_bitCount_0f7a4 49 = .ok (.bipush 63, 2) := by decide +kernel
theorem dJ6_bitCount_0f7a4_51 : decode cJ6_bitCount_0f7a4 51 = .ok (.iand, 1) := by decide +kernel
theorem dJ6_bitCount_0f7a4_52 : decode cJ6_bitCount_0f7a4 52 = .ok (.ireturn, 1) := by decide +kernel
def t_J6_bitCount_0f7a4_0 : am_T := tb_iload 0 <|
  tb_iload 0 <|
  tb_const 1 <|
  tb_bin (fun x y => (x.toUInt32 >>> (y.toUInt32 &&& Int32.toUInt32 31)).toInt32) <|
  tb_const (1431655765) <|
  tb_bin (fun x y => x &&& y) <|
  tb_bin (fun x y => x - y) <|
  tb_istore 0 <|
  tb_iload 0 <|
  tb_const (858993459) <|
  tb_bin (fun x y => x &&& y) <|
  tb_iload 0 <|
  tb_const 2 <|
  tb_bin (fun x y => (x.toUInt32 >>> (y.toUInt32 &&& Int32.toUInt32 31)).toInt32) <|
  tb_const (858993459) <|
  tb_bin (fun x y => x &&& y) <|
  tb_bin (fun x y => x + y) <|
  tb_istore 0 <|
  tb_iload 0 <|
  tb_iload 0 <|
  tb_const 4 <|
  tb_bin (fun x y => (x.toUInt32 >>> (y.toUInt32 &&& Int32.toUInt32 31)).toInt32) <|
  tb_bin (fun x y => x + y) <|
  tb_const (252645135) <|
  tb_bin (fun x y => x &&& y) <|
  tb_istore 0 <|
  tb_iload 0 <|
  tb_iload 0 <|
  tb_const 8 <|
  tb_bin (fun x y => (x.toUInt32 >>> (y.toUInt32 &&& Int32.toUInt32 31)).toInt32) <|
  tb_bin (fun x y => x + y) <|
  tb_istore 0 <|
  tb_iload 0 <|
  tb_iload 0 <|
  tb_const 16 <|
  tb_bin (fun x y => (x.toUInt32 >>> (y.toUInt32 &&& Int32.toUInt32 31)).toInt32) <|
  tb_bin (fun x y => x + y) <|
  tb_istore 0 <|
  tb_iload 0 <|
  tb_const 63 <|
  tb_bin (fun x y => x &&& y) <|
  tb_iret
def h_J6_bitCount_0f7a4 : am_Hd := fun h => if h = 0 then t_J6_bitCount_0f7a4_0 else tb_bad
theorem h_J6_bitCount_0f7a4_0 : h_J6_bitCount_0f7a4 0 = t_J6_bitCount_0f7a4_0 := rfl
def rm_J6_bitCount_0f7a4 : Room := { frames := 0, cells := 0, slots := 0, locals := 0 }
def sp_J6_bitCount_0f7a4 : am_sp := fun as M Q => as.length ≤ 1 ∧ am_OK h_J6_bitCount_0f7a4 Q 0 (am_in 1 as) M
theorem s_J6_bitCount_0f7a4_0 {G : am_G} {bc bs : Nat} (X : am_Cx G cJ6_bitCount_0f7a4 RJ6 "bitCount" rm_J6_bitCount_0f7a4 (some .int) 1 bc bs true) : am_S G 0 (t_J6_bitCount_0f7a4_0) := by
  unfold t_J6_bitCount_0f7a4_0
  refine as_iload_n (pc := 0) X dJ6_bitCount_0f7a4_0 rfl ?_
  refine as_iload_n (pc := 1) X dJ6_bitCount_0f7a4_1 rfl ?_
  refine as_iconst (pc := 2) X dJ6_bitCount_0f7a4_2 (by decide) ?_
  refine as_iushr (pc := 3) X dJ6_bitCount_0f7a4_3 ?_
  refine as_ldcw (pc := 4) X dJ6_bitCount_0f7a4_4 aw_420 ?_
  refine as_iand (pc := 7) X dJ6_bitCount_0f7a4_7 ?_
  refine as_isub (pc := 8) X dJ6_bitCount_0f7a4_8 ?_
  refine as_istore_n (pc := 9) X dJ6_bitCount_0f7a4_9 rfl ?_ (by decide)
  refine as_iload_n (pc := 10) X dJ6_bitCount_0f7a4_10 rfl ?_
  refine as_ldcw (pc := 11) X dJ6_bitCount_0f7a4_11 aw_421 ?_
  refine as_iand (pc := 14) X dJ6_bitCount_0f7a4_14 ?_
  refine as_iload_n (pc := 15) X dJ6_bitCount_0f7a4_15 rfl ?_
  refine as_iconst (pc := 16) X dJ6_bitCount_0f7a4_16 (by decide) ?_
  refine as_iushr (pc := 17) X dJ6_bitCount_0f7a4_17 ?_
  refine as_ldcw (pc := 18) X dJ6_bitCount_0f7a4_18 aw_421 ?_
  refine as_iand (pc := 21) X dJ6_bitCount_0f7a4_21 ?_
  refine as_iadd (pc := 22) X dJ6_bitCount_0f7a4_22 ?_
  refine as_istore_n (pc := 23) X dJ6_bitCount_0f7a4_23 rfl ?_ (by decide)
  refine as_iload_n (pc := 24) X dJ6_bitCount_0f7a4_24 rfl ?_
  refine as_iload_n (pc := 25) X dJ6_bitCount_0f7a4_25 rfl ?_
  refine as_iconst (pc := 26) X dJ6_bitCount_0f7a4_26 (by decide) ?_
  refine as_iushr (pc := 27) X dJ6_bitCount_0f7a4_27 ?_
  refine as_iadd (pc := 28) X dJ6_bitCount_0f7a4_28 ?_
  refine as_ldcw (pc := 29) X dJ6_bitCount_0f7a4_29 aw_422 ?_
  refine as_iand (pc := 32) X dJ6_bitCount_0f7a4_32 ?_
  refine as_istore_n (pc := 33) X dJ6_bitCount_0f7a4_33 rfl ?_ (by decide)
  refine as_iload_n (pc := 34) X dJ6_bitCount_0f7a4_34 rfl ?_
  refine as_iload_n (pc := 35) X dJ6_bitCount_0f7a4_35 rfl ?_
  refine as_bipush (pc := 36) X dJ6_bitCount_0f7a4_36 (by decide) ?_
  refine as_iushr (pc := 38) X dJ6_bitCount_0f7a4_38 ?_
  refine as_iadd (pc := 39) X dJ6_bitCount_0f7a4_39 ?_
  refine as_istore_n (pc := 40) X dJ6_bitCount_0f7a4_40 rfl ?_ (by decide)
  refine as_iload_n (pc := 41) X dJ6_bitCount_0f7a4_41 rfl ?_
  refine as_iload_n (pc := 42) X dJ6_bitCount_0f7a4_42 rfl ?_
  refine as_bipush (pc := 43) X dJ6_bitCount_0f7a4_43 (by decide) ?_
  refine as_iushr (pc := 45) X dJ6_bitCount_0f7a4_45 ?_
  refine as_iadd (pc := 46) X dJ6_bitCount_0f7a4_46 ?_
  refine as_istore_n (pc := 47) X dJ6_bitCount_0f7a4_47 rfl ?_ (by decide)
  refine as_iload_n (pc := 48) X dJ6_bitCount_0f7a4_48 rfl ?_
  refine as_bipush (pc := 49) X dJ6_bitCount_0f7a4_49 (by decide) ?_
  refine as_iand (pc := 51) X dJ6_bitCount_0f7a4_51 ?_
  exact as_iret (pc := 52) X ⟨rfl, rfl⟩ rfl dJ6_bitCount_0f7a4_52
theorem s_J6_bitCount_0f7a4 {G : am_G} {bc bs : Nat} (X : am_Cx G cJ6_bitCount_0f7a4 RJ6 "bitCount" rm_J6_bitCount_0f7a4 (some .int) 1 bc bs true) (h : Nat) : am_S G h (h_J6_bitCount_0f7a4 h) := by
  unfold h_J6_bitCount_0f7a4
  split
  · next e => rw [e]; exact s_J6_bitCount_0f7a4_0 X
  exact as_bad
theorem ct_J6_bitCount_0f7a4 : am_Ct yJ6_bitCount_0f7a4 cJ6_bitCount_0f7a4 1 (some .int) rm_J6_bitCount_0f7a4 sp_J6_bitCount_0f7a4 := am_met (own := RJ6) (nm := "bitCount") (by decide) rfl rfl (Or.inr (Or.inl rfl)) (fun _ _ => h_J6_bitCount_0f7a4) (fun _ _ _ X => s_J6_bitCount_0f7a4 X) (fun _ _ _ _ h => h)
-- X3_gapOf
theorem dX3_gapOf_0 : decode cX3_gapOf 0 = .ok (.aload_n 0, 1) := by decide +kernel
theorem dX3_gapOf_1 : decode cX3_gapOf 1 = .ok (.getfield 12, 3) := by decide +kernel
theorem dX3_gapOf_4 : decode cX3_gapOf 4 = .ok (.getfield 95, 3) := by decide +kernel
theorem dX3_gapOf_7 : decode cX3_gapOf 7 = .ok (.iload_n 1, 1) := by decide +kernel
theorem dX3_gapOf_8 : decode cX3_gapOf 8 = .ok (.iaload, 1) := by decide +kernel
theorem dX3_gapOf_9 : decode cX3_gapOf 9 = .ok (.aload_n 0, 1) := by decide +kernel
theorem dX3_gapOf_10 : decode cX3_gapOf 10 = .ok (.getfield 12, 3) := by decide +kernel
theorem dX3_gapOf_13 : decode cX3_gapOf 13 = .ok (.getfield 95, 3) := by decide +kernel
theorem dX3_gapOf_16 : decode cX3_gapOf 16 = .ok (.iload_n 2, 1) := by decide +kernel
theorem dX3_gapOf_17 : decode cX3_gapOf 17 = .ok (.iaload, 1) := by decide +kernel
theorem dX3_gapOf_18 : decode cX3_gapOf 18 = .ok (.isub, 1) := by decide +kernel
theorem dX3_gapOf_19 : decode cX3_gapOf 19 = .ok (.ireturn, 1) := by decide +kernel
def t_X3_gapOf_0 : am_T := tb_aload 0 <|
  tb_getR 3 0 <|
  tb_getR 1 5 <|
  tb_iload 1 <|
  tb_iald <|
  tb_aload 0 <|
  tb_getR 3 0 <|
  tb_getR 1 5 <|
  tb_iload 2 <|
  tb_iald <|
  tb_bin (fun x y => x - y) <|
  tb_iret
def h_X3_gapOf : am_Hd := fun h => if h = 0 then t_X3_gapOf_0 else tb_bad
theorem h_X3_gapOf_0 : h_X3_gapOf 0 = t_X3_gapOf_0 := rfl
def rm_X3_gapOf : Room := { frames := 0, cells := 0, slots := 0, locals := 0 }
def sp_X3_gapOf : am_sp := fun as M Q => as.length ≤ 3 ∧ am_OK h_X3_gapOf Q 0 (am_in 3 as) M
theorem s_X3_gapOf_0 {G : am_G} {bc bs : Nat} (X : am_Cx G cX3_gapOf RX3 "gapOf" rm_X3_gapOf (some .int) 3 bc bs true) : am_S G 0 (t_X3_gapOf_0) := by
  unfold t_X3_gapOf_0
  refine as_aload_n (pc := 0) X dX3_gapOf_0 rfl ?_
  refine as_getR (ci := 3) (j := 0) (pc := 1) X (Cn := RX3) (Tf := TX3) (N := 17) rfl rfl (by decide) iw_X3 aw_159 rfl dX3_gapOf_1 ?_
  refine as_getR (ci := 1) (j := 5) (pc := 4) X (Cn := RX1) (Tf := TX1) (N := 14) rfl rfl (by decide) iw_X1 aw_103 rfl dX3_gapOf_4 ?_
  refine as_iload_n (pc := 7) X dX3_gapOf_7 rfl ?_
  refine as_iald (pc := 8) X dX3_gapOf_8 ?_
  refine as_aload_n (pc := 9) X dX3_gapOf_9 rfl ?_
  refine as_getR (ci := 3) (j := 0) (pc := 10) X (Cn := RX3) (Tf := TX3) (N := 17) rfl rfl (by decide) iw_X3 aw_159 rfl dX3_gapOf_10 ?_
  refine as_getR (ci := 1) (j := 5) (pc := 13) X (Cn := RX1) (Tf := TX1) (N := 14) rfl rfl (by decide) iw_X1 aw_103 rfl dX3_gapOf_13 ?_
  refine as_iload_n (pc := 16) X dX3_gapOf_16 rfl ?_
  refine as_iald (pc := 17) X dX3_gapOf_17 ?_
  refine as_isub (pc := 18) X dX3_gapOf_18 ?_
  exact as_iret (pc := 19) X ⟨rfl, rfl⟩ rfl dX3_gapOf_19
theorem s_X3_gapOf {G : am_G} {bc bs : Nat} (X : am_Cx G cX3_gapOf RX3 "gapOf" rm_X3_gapOf (some .int) 3 bc bs true) (h : Nat) : am_S G h (h_X3_gapOf h) := by
  unfold h_X3_gapOf
  split
  · next e => rw [e]; exact s_X3_gapOf_0 X
  exact as_bad
theorem ct_X3_gapOf : am_Ct yX3_gapOf cX3_gapOf 3 (some .int) rm_X3_gapOf sp_X3_gapOf := am_met (own := RX3) (nm := "gapOf") (by decide) rfl rfl (Or.inr (Or.inl rfl)) (fun _ _ => h_X3_gapOf) (fun _ _ _ X => s_X3_gapOf X) (fun _ _ _ _ h => h)
