-- X3_memberOf
theorem dX3_memberOf_0 : decode cX3_memberOf 0 = .ok (.iconst 0, 1) := by decide +kernel
theorem dX3_memberOf_1 : decode cX3_memberOf 1 = .ok (.istore_n 3, 1) := by decide +kernel
theorem dX3_memberOf_2 : decode cX3_memberOf 2 = .ok (.iconst 0, 1) := by decide +kernel
theorem dX3_memberOf_3 : decode cX3_memberOf 3 = .ok (.istore 4, 2) := by decide +kernel
theorem dX3_memberOf_5 : decode cX3_memberOf 5 = .ok (.iload 4, 2) := by decide +kernel
theorem dX3_memberOf_7 : decode cX3_memberOf 7 = .ok (.aload_n 0, 1) := by decide +kernel
theorem dX3_memberOf_8 : decode cX3_memberOf 8 = .ok (.getfield 12, 3) := by decide +kernel
theorem dX3_memberOf_11 : decode cX3_memberOf 11 = .ok (.getfield 71, 3) := by decide +kernel
theorem dX3_memberOf_14 : decode cX3_memberOf 14 = .ok (.if_icmp .ge 41, 3) := by decide +kernel
theorem dX3_memberOf_17 : decode cX3_memberOf 17 = .ok (.aload_n 0, 1) := by decide +kernel
theorem dX3_memberOf_18 : decode cX3_memberOf 18 = .ok (.getfield 55, 3) := by decide +kernel
theorem dX3_memberOf_21 : decode cX3_memberOf 21 = .ok (.aload_n 0, 1) := by decide +kernel
theorem dX3_memberOf_22 : decode cX3_memberOf 22 = .ok (.getfield 18, 3) := by decide +kernel
theorem dX3_memberOf_25 : decode cX3_memberOf 25 = .ok (.iload 4, 2) := by decide +kernel
theorem dX3_memberOf_27 : decode cX3_memberOf 27 = .ok (.iaload, 1) := by decide +kernel
theorem dX3_memberOf_28 : decode cX3_memberOf 28 = .ok (.iaload, 1) := by decide +kernel
theorem dX3_memberOf_29 : decode cX3_memberOf 29 = .ok (.iload_n 1, 1) := by decide +kernel
theorem dX3_memberOf_30 : decode cX3_memberOf 30 = .ok (.if_icmp .ne 19, 3) := by decide +kernel
theorem dX3_memberOf_33 : decode cX3_memberOf 33 = .ok (.iload_n 3, 1) := by decide +kernel
theorem dX3_memberOf_34 : decode cX3_memberOf 34 = .ok (.iload_n 2, 1) := by decide +kernel
theorem dX3_memberOf_35 : decode cX3_memberOf 35 = .ok (.if_icmp .ne 11, 3) := by decide +kernel
theorem dX3_memberOf_38 : decode cX3_memberOf 38 = .ok (.aload_n 0, 1) := by decide +kernel
theorem dX3_memberOf_39 : decode cX3_memberOf 39 = .ok (.getfield 18, 3) := by decide +kernel
theorem dX3_memberOf_42 : decode cX3_memberOf 42 = .ok (.iload 4, 2) := by decide +kernel
theorem dX3_memberOf_44 : decode cX3_memberOf 44 = .ok (.iaload, 1) := by decide +kernel
theorem dX3_memberOf_45 : decode cX3_memberOf 45 = .ok (.ireturn, 1) := by decide +kernel
theorem dX3_memberOf_46 : decode cX3_memberOf 46 = .ok (.iinc 3 1, 3) := by decide +kernel
theorem dX3_memberOf_49 : decode cX3_memberOf 49 = .ok (.iinc 4 1, 3) := by decide +kernel
theorem dX3_memberOf_52 : decode cX3_memberOf 52 = .ok (.goto (-47), 3) := by decide +kernel
theorem dX3_memberOf_55 : decode cX3_memberOf 55 = .ok (.iconst (-1), 1) := by decide +kernel
theorem dX3_memberOf_56 : decode cX3_memberOf 56 = .ok (.ireturn, 1) := by decide +kernel
def t_X3_memberOf_55 : am_T := tb_const (-1) <|
  tb_iret
def t_X3_memberOf_49 : am_T := tb_iinc 4 1 <|
  tb_head 5
def t_X3_memberOf_46 : am_T := tb_iinc 3 1 <|
  t_X3_memberOf_49
def t_X3_memberOf_5 : am_T := tb_iload 4 <|
  tb_aload 0 <|
  tb_getR 3 0 <|
  tb_getI 1 4 <|
  tb_ic (fun x y => y ≤ x) (t_X3_memberOf_55) <|
  tb_aload 0 <|
  tb_getR 3 13 <|
  tb_aload 0 <|
  tb_getR 3 1 <|
  tb_iload 4 <|
  tb_iald <|
  tb_iald <|
  tb_iload 1 <|
  tb_ic (fun x y => x ≠ y) (t_X3_memberOf_49) <|
  tb_iload 3 <|
  tb_iload 2 <|
  tb_ic (fun x y => x ≠ y) (t_X3_memberOf_46) <|
  tb_aload 0 <|
  tb_getR 3 1 <|
  tb_iload 4 <|
  tb_iald <|
  tb_iret
def t_X3_memberOf_0 : am_T := tb_const 0 <|
  tb_istore 3 <|
  tb_const 0 <|
  tb_istore 4 <|
  tb_head 5
def h_X3_memberOf : am_Hd := fun h => if h = 0 then t_X3_memberOf_0 else if h = 5 then t_X3_memberOf_5 else tb_bad
theorem h_X3_memberOf_0 : h_X3_memberOf 0 = t_X3_memberOf_0 := rfl
theorem h_X3_memberOf_5 : h_X3_memberOf 5 = t_X3_memberOf_5 := rfl
def rm_X3_memberOf : Room := { frames := 0, cells := 0, slots := 0, locals := 0 }
def sp_X3_memberOf : am_sp := fun as M Q => as.length ≤ 5 ∧ am_OK h_X3_memberOf Q 0 (am_in 5 as) M
theorem s_X3_memberOf_55 {G : am_G} {bc bs : Nat} (X : am_Cx G cX3_memberOf RX3 "memberOf" rm_X3_memberOf (some .int) 5 bc bs true) : am_S G 55 (t_X3_memberOf_55) := by
  unfold t_X3_memberOf_55
  refine as_iconst (pc := 55) X dX3_memberOf_55 (by decide) ?_
  exact as_iret (pc := 56) X ⟨rfl, rfl⟩ rfl dX3_memberOf_56
theorem s_X3_memberOf_49 {G : am_G} {bc bs : Nat} (X : am_Cx G cX3_memberOf RX3 "memberOf" rm_X3_memberOf (some .int) 5 bc bs true) : am_S G 49 (t_X3_memberOf_49) := by
  unfold t_X3_memberOf_49
  refine as_iinc (pc := 49) X dX3_memberOf_49 (by decide) (by decide) ?_
  exact as_goto (pc := 52) X 5 dX3_memberOf_52 (by decide) (as_head)
theorem s_X3_memberOf_46 {G : am_G} {bc bs : Nat} (X : am_Cx G cX3_memberOf RX3 "memberOf" rm_X3_memberOf (some .int) 5 bc bs true) : am_S G 46 (t_X3_memberOf_46) := by
  unfold t_X3_memberOf_46
  refine as_iinc (pc := 46) X dX3_memberOf_46 (by decide) (by decide) ?_
  exact s_X3_memberOf_49 X
theorem s_X3_memberOf_5 {G : am_G} {bc bs : Nat} (X : am_Cx G cX3_memberOf RX3 "memberOf" rm_X3_memberOf (some .int) 5 bc bs true) : am_S G 5 (t_X3_memberOf_5) := by
  unfold t_X3_memberOf_5
  refine as_iload (pc := 5) X dX3_memberOf_5 ?_
  refine as_aload_n (pc := 7) X dX3_memberOf_7 rfl ?_
  refine as_getR (ci := 3) (j := 0) (pc := 8) X (Cn := RX3) (Tf := TX3) (N := 17) rfl rfl (by decide) iw_X3 aw_159 rfl dX3_memberOf_8 ?_
  refine as_getI (ci := 1) (j := 4) (pc := 11) X (Cn := RX1) (Tf := TX1) (N := 14) rfl rfl (by decide) iw_X1 aw_99 rfl dX3_memberOf_11 ?_
  refine as_ic_ge (pc := 14) X 55 dX3_memberOf_14 (by decide) (s_X3_memberOf_55 X) ?_
  refine as_aload_n (pc := 17) X dX3_memberOf_17 rfl ?_
  refine as_getR (ci := 3) (j := 13) (pc := 18) X (Cn := RX3) (Tf := TX3) (N := 17) rfl rfl (by decide) iw_X3 aw_178 rfl dX3_memberOf_18 ?_
  refine as_aload_n (pc := 21) X dX3_memberOf_21 rfl ?_
  refine as_getR (ci := 3) (j := 1) (pc := 22) X (Cn := RX3) (Tf := TX3) (N := 17) rfl rfl (by decide) iw_X3 aw_161 rfl dX3_memberOf_22 ?_
  refine as_iload (pc := 25) X dX3_memberOf_25 ?_
  refine as_iald (pc := 27) X dX3_memberOf_27 ?_
  refine as_iald (pc := 28) X dX3_memberOf_28 ?_
  refine as_iload_n (pc := 29) X dX3_memberOf_29 rfl ?_
  refine as_ic_ne (pc := 30) X 49 dX3_memberOf_30 (by decide) (s_X3_memberOf_49 X) ?_
  refine as_iload_n (pc := 33) X dX3_memberOf_33 rfl ?_
  refine as_iload_n (pc := 34) X dX3_memberOf_34 rfl ?_
  refine as_ic_ne (pc := 35) X 46 dX3_memberOf_35 (by decide) (s_X3_memberOf_46 X) ?_
  refine as_aload_n (pc := 38) X dX3_memberOf_38 rfl ?_
  refine as_getR (ci := 3) (j := 1) (pc := 39) X (Cn := RX3) (Tf := TX3) (N := 17) rfl rfl (by decide) iw_X3 aw_161 rfl dX3_memberOf_39 ?_
  refine as_iload (pc := 42) X dX3_memberOf_42 ?_
  refine as_iald (pc := 44) X dX3_memberOf_44 ?_
  exact as_iret (pc := 45) X ⟨rfl, rfl⟩ rfl dX3_memberOf_45
theorem s_X3_memberOf_0 {G : am_G} {bc bs : Nat} (X : am_Cx G cX3_memberOf RX3 "memberOf" rm_X3_memberOf (some .int) 5 bc bs true) : am_S G 0 (t_X3_memberOf_0) := by
  unfold t_X3_memberOf_0
  refine as_iconst (pc := 0) X dX3_memberOf_0 (by decide) ?_
  refine as_istore_n (pc := 1) X dX3_memberOf_1 rfl ?_ (by decide)
  refine as_iconst (pc := 2) X dX3_memberOf_2 (by decide) ?_
  refine as_istore (pc := 3) X dX3_memberOf_3 ?_ (by decide)
  exact as_head
theorem s_X3_memberOf {G : am_G} {bc bs : Nat} (X : am_Cx G cX3_memberOf RX3 "memberOf" rm_X3_memberOf (some .int) 5 bc bs true) (h : Nat) : am_S G h (h_X3_memberOf h) := by
  unfold h_X3_memberOf
  split
  · next e => rw [e]; exact s_X3_memberOf_0 X
  split
  · next e => rw [e]; exact s_X3_memberOf_5 X
  exact as_bad
theorem ct_X3_memberOf : am_Ct yX3_memberOf cX3_memberOf 5 (some .int) rm_X3_memberOf sp_X3_memberOf := am_met (own := RX3) (nm := "memberOf") (by decide) rfl rfl (Or.inr (Or.inl rfl)) (fun _ _ => h_X3_memberOf) (fun _ _ _ X => s_X3_memberOf X) (fun _ _ _ _ h => h)
-- X3_spanOf
theorem dX3_spanOf_0 : decode cX3_spanOf 0 = .ok (.aload_n 0, 1) := by decide +kernel
theorem dX3_spanOf_1 : decode cX3_spanOf 1 = .ok (.iload_n 1, 1) := by decide +kernel
theorem dX3_spanOf_2 : decode cX3_spanOf 2 = .ok (.iconst 0, 1) := by decide +kernel
theorem dX3_spanOf_3 : decode cX3_spanOf 3 = .ok (.invokevirtual 178, 3) := by decide +kernel
theorem dX3_spanOf_6 : decode cX3_spanOf 6 = .ok (.istore_n 2, 1) := by decide +kernel
theorem dX3_spanOf_7 : decode cX3_spanOf 7 = .ok (.iload_n 2, 1) := by decide +kernel
theorem dX3_spanOf_8 : decode cX3_spanOf 8 = .ok (.iconst (-1), 1) := by decide +kernel
theorem dX3_spanOf_9 : decode cX3_spanOf 9 = .ok (.if_icmp .ne 7, 3) := by decide +kernel
theorem dX3_spanOf_12 : decode cX3_spanOf 12 = .ok (.iconst 0, 1) := by decide +kernel
theorem dX3_spanOf_13 : decode cX3_spanOf 13 = .ok (.goto 14, 3) := by decide +kernel
theorem dX3_spanOf_16 : decode cX3_spanOf 16 = .ok (.aload_n 0, 1) := by decide +kernel
theorem dX3_spanOf_17 : decode cX3_spanOf 17 = .ok (.aload_n 0, 1) := by decide +kernel
theorem dX3_spanOf_18 : decode cX3_spanOf 18 = .ok (.getfield 65, 3) := by decide +kernel
theorem dX3_spanOf_21 : decode cX3_spanOf 21 = .ok (.iload_n 1, 1) := by decide +kernel
theorem dX3_spanOf_22 : decode cX3_spanOf 22 = .ok (.iaload, 1) := by decide +kernel
theorem dX3_spanOf_23 : decode cX3_spanOf 23 = .ok (.iload_n 2, 1) := by decide +kernel
theorem dX3_spanOf_24 : decode cX3_spanOf 24 = .ok (.invokevirtual 116, 3) := by decide +kernel
theorem dX3_spanOf_27 : decode cX3_spanOf 27 = .ok (.ireturn, 1) := by decide +kernel
def t_X3_spanOf_27 : am_T := tb_iret
def t_X3_spanOf_16 : am_T := tb_aload 0 <|
  tb_aload 0 <|
  tb_getR 3 16 <|
  tb_iload 1 <|
  tb_iald <|
  tb_iload 2 <|
  tb_callV 3 sp_X3_gapOf 3 <|
  t_X3_spanOf_27
def t_X3_spanOf_0 : am_T := tb_aload 0 <|
  tb_iload 1 <|
  tb_const 0 <|
  tb_callV 3 sp_X3_memberOf 3 <|
  tb_istore 2 <|
  tb_iload 2 <|
  tb_const (-1) <|
  tb_ic (fun x y => x ≠ y) (t_X3_spanOf_16) <|
  tb_const 0 <|
  t_X3_spanOf_27
def h_X3_spanOf : am_Hd := fun h => if h = 0 then t_X3_spanOf_0 else tb_bad
theorem h_X3_spanOf_0 : h_X3_spanOf 0 = t_X3_spanOf_0 := rfl
def rm_X3_spanOf : Room := { frames := 1, cells := 0, slots := 0, locals := 24 }
def sp_X3_spanOf : am_sp := fun as M Q => as.length ≤ 3 ∧ am_OK h_X3_spanOf Q 0 (am_in 3 as) M
theorem s_X3_spanOf_27 {G : am_G} {bc bs : Nat} (X : am_Cx G cX3_spanOf RX3 "spanOf" rm_X3_spanOf (some .int) 3 bc bs true) : am_S G 27 (t_X3_spanOf_27) := by
  unfold t_X3_spanOf_27
  exact as_iret (pc := 27) X ⟨rfl, rfl⟩ rfl dX3_spanOf_27
theorem s_X3_spanOf_16 {G : am_G} {bc bs : Nat} (X : am_Cx G cX3_spanOf RX3 "spanOf" rm_X3_spanOf (some .int) 3 bc bs true) : am_S G 16 (t_X3_spanOf_16) := by
  unfold t_X3_spanOf_16
  refine as_aload_n (pc := 16) X dX3_spanOf_16 rfl ?_
  refine as_aload_n (pc := 17) X dX3_spanOf_17 rfl ?_
  refine as_getR (ci := 3) (j := 16) (pc := 18) X (Cn := RX3) (Tf := TX3) (N := 17) rfl rfl (by decide) iw_X3 aw_184 rfl dX3_spanOf_18 ?_
  refine as_iload_n (pc := 21) X dX3_spanOf_21 rfl ?_
  refine as_iald (pc := 22) X dX3_spanOf_22 ?_
  refine as_iload_n (pc := 23) X dX3_spanOf_23 rfl ?_
  refine as_callV (ci := 3) (np := 2) (ix := 116) (pc := 24) X ct_X3_gapOf (Cn := (RX3, TX3, 17)) rfl ⟨rfl, rfl⟩ aw_423 aw_424 aw_425 aw_426 aw_60 (by decide +kernel) (by decide) dX3_spanOf_24 ?_
  exact s_X3_spanOf_27 X
theorem s_X3_spanOf_0 {G : am_G} {bc bs : Nat} (X : am_Cx G cX3_spanOf RX3 "spanOf" rm_X3_spanOf (some .int) 3 bc bs true) : am_S G 0 (t_X3_spanOf_0) := by
  unfold t_X3_spanOf_0
  refine as_aload_n (pc := 0) X dX3_spanOf_0 rfl ?_
  refine as_iload_n (pc := 1) X dX3_spanOf_1 rfl ?_
  refine as_iconst (pc := 2) X dX3_spanOf_2 (by decide) ?_
  refine as_callV (ci := 3) (np := 2) (ix := 178) (pc := 3) X ct_X3_memberOf (Cn := (RX3, TX3, 17)) rfl ⟨rfl, rfl⟩ aw_603 aw_596 aw_597 aw_598 aw_60 (by decide +kernel) (by decide) dX3_spanOf_3 ?_
  refine as_istore_n (pc := 6) X dX3_spanOf_6 rfl ?_ (by decide)
  refine as_iload_n (pc := 7) X dX3_spanOf_7 rfl ?_
  refine as_iconst (pc := 8) X dX3_spanOf_8 (by decide) ?_
  refine as_ic_ne (pc := 9) X 16 dX3_spanOf_9 (by decide) (s_X3_spanOf_16 X) ?_
  refine as_iconst (pc := 12) X dX3_spanOf_12 (by decide) ?_
  exact as_goto (pc := 13) X 27 dX3_spanOf_13 (by decide) (s_X3_spanOf_27 X)
theorem s_X3_spanOf {G : am_G} {bc bs : Nat} (X : am_Cx G cX3_spanOf RX3 "spanOf" rm_X3_spanOf (some .int) 3 bc bs true) (h : Nat) : am_S G h (h_X3_spanOf h) := by
  unfold h_X3_spanOf
  split
  · next e => rw [e]; exact s_X3_spanOf_0 X
  exact as_bad
theorem ct_X3_spanOf : am_Ct yX3_spanOf cX3_spanOf 3 (some .int) rm_X3_spanOf sp_X3_spanOf := am_met (own := RX3) (nm := "spanOf") (by decide) rfl rfl (Or.inr (Or.inl rfl)) (fun _ _ => h_X3_spanOf) (fun _ _ _ X => s_X3_spanOf X) (fun _ _ _ _ h => h)
-- X3_greatestGapOf
theorem dX3_greatestGapOf_0 : decode cX3_greatestGapOf 0 = .ok (.iconst 0, 1) := by decide +kernel
theorem dX3_greatestGapOf_1 : decode cX3_greatestGapOf 1 = .ok (.istore_n 2, 1) := by decide +kernel
theorem dX3_greatestGapOf_2 : decode cX3_greatestGapOf 2 = .ok (.iconst (-1), 1) := by decide +kernel
theorem dX3_greatestGapOf_3 : decode cX3_greatestGapOf 3 = .ok (.istore_n 3, 1) := by decide +kernel
theorem dX3_greatestGapOf_4 : decode cX3_greatestGapOf 4 = .ok (.iconst 0, 1) := by decide +kernel
theorem dX3_greatestGapOf_5 : decode cX3_greatestGapOf 5 = .ok (.istore 4, 2) := by decide +kernel
theorem dX3_greatestGapOf_7 : decode cX3_greatestGapOf 7 = .ok (.iload 4, 2) := by decide +kernel
theorem dX3_greatestGapOf_9 : decode cX3_greatestGapOf 9 = .ok (.aload_n 0, 1) := by decide +kernel
theorem dX3_greatestGapOf_10 : decode cX3_greatestGapOf 10 = .ok (.getfield 12, 3) := by decide +kernel
theorem dX3_greatestGapOf_13 : decode cX3_greatestGapOf 13 = .ok (.getfield 71, 3) := by decide +kernel
theorem dX3_greatestGapOf_16 : decode cX3_greatestGapOf 16 = .ok (.if_icmp .ge 49, 3) := by decide +kernel
theorem dX3_greatestGapOf_19 : decode cX3_greatestGapOf 19 = .ok (.aload_n 0, 1) := by decide +kernel
theorem dX3_greatestGapOf_20 : decode cX3_greatestGapOf 20 = .ok (.getfield 18, 3) := by decide +kernel
theorem dX3_greatestGapOf_23 : decode cX3_greatestGapOf 23 = .ok (.iload 4, 2) := by decide +kernel
theorem dX3_greatestGapOf_25 : decode cX3_greatestGapOf 25 = .ok (.iaload, 1) := by decide +kernel
theorem dX3_greatestGapOf_26 : decode cX3_greatestGapOf 26 = .ok (.istore 5, 2) := by decide +kernel
theorem dX3_greatestGapOf_28 : decode cX3_greatestGapOf 28 = .ok (.aload_n 0, 1) := by decide +kernel
theorem dX3_greatestGapOf_29 : decode cX3_greatestGapOf 29 = .ok (.getfield 55, 3) := by decide +kernel
theorem dX3_greatestGapOf_32 : decode cX3_greatestGapOf 32 = .ok (.iload 5, 2) := by decide +kernel
theorem dX3_greatestGapOf_34 : decode cX3_greatestGapOf 34 = .ok (.iaload, 1) := by decide +kernel
theorem dX3_greatestGapOf_35 : decode cX3_greatestGapOf 35 = .ok (.iload_n 1, 1) := by decide +kernel
theorem dX3_greatestGapOf_36 : decode cX3_greatestGapOf 36 = .ok (.if_icmp .ne 23, 3) := by decide +kernel
theorem dX3_greatestGapOf_39 : decode cX3_greatestGapOf 39 = .ok (.iload_n 3, 1) := by decide +kernel
theorem dX3_greatestGapOf_40 : decode cX3_greatestGapOf 40 = .ok (.iconst (-1), 1) := by decide +kernel
theorem dX3_greatestGapOf_41 : decode cX3_greatestGapOf 41 = .ok (.if_icmp .eq 15, 3) := by decide +kernel
theorem dX3_greatestGapOf_44 : decode cX3_greatestGapOf 44 = .ok (.iload_n 2, 1) := by decide +kernel
theorem dX3_greatestGapOf_45 : decode cX3_greatestGapOf 45 = .ok (.aload_n 0, 1) := by decide +kernel
theorem dX3_greatestGapOf_46 : decode cX3_greatestGapOf 46 = .ok (.iload 5, 2) := by decide +kernel
theorem dX3_greatestGapOf_48 : decode cX3_greatestGapOf 48 = .ok (.iload_n 3, 1) := by decide +kernel
theorem dX3_greatestGapOf_49 : decode cX3_greatestGapOf 49 = .ok (.invokevirtual 116, 3) := by decide +kernel
theorem dX3_greatestGapOf_52 : decode cX3_greatestGapOf 52 = .ok (.invokestatic 165, 3) := by decide +kernel
theorem dX3_greatestGapOf_55 : decode cX3_greatestGapOf 55 = .ok (.istore_n 2, 1) := by decide +kernel
theorem dX3_greatestGapOf_56 : decode cX3_greatestGapOf 56 = .ok (.iload 5, 2) := by decide +kernel
theorem dX3_greatestGapOf_58 : decode cX3_greatestGapOf 58 = .ok (.istore_n 3, 1) := by decide +kernel
theorem dX3_greatestGapOf_59 : decode cX3_greatestGapOf 59 = .ok (.iinc 4 1, 3) := by decide +kernel
theorem dX3_greatestGapOf_62 : decode cX3_greatestGapOf 62 = .ok (.goto (-55), 3) := by decide +kernel
theorem dX3_greatestGapOf_65 : decode cX3_greatestGapOf 65 = .ok (.iload_n 2, 1) := by decide +kernel
theorem dX3_greatestGapOf_66 : decode cX3_greatestGapOf 66 = .ok (.ireturn, 1) := by decide +kernel
def t_X3_greatestGapOf_65 : am_T := tb_iload 2 <|
  tb_iret
def t_X3_greatestGapOf_59 : am_T := tb_iinc 4 1 <|
  tb_head 7
def t_X3_greatestGapOf_56 : am_T := tb_iload 5 <|
  tb_istore 3 <|
  t_X3_greatestGapOf_59
def t_X3_greatestGapOf_7 : am_T := tb_iload 4 <|
  tb_aload 0 <|
  tb_getR 3 0 <|
  tb_getI 1 4 <|
  tb_ic (fun x y => y ≤ x) (t_X3_greatestGapOf_65) <|
  tb_aload 0 <|
  tb_getR 3 1 <|
  tb_iload 4 <|
  tb_iald <|
  tb_istore 5 <|
  tb_aload 0 <|
  tb_getR 3 13 <|
  tb_iload 5 <|
  tb_iald <|
  tb_iload 1 <|
  tb_ic (fun x y => x ≠ y) (t_X3_greatestGapOf_59) <|
  tb_iload 3 <|
  tb_const (-1) <|
  tb_ic (fun x y => x = y) (t_X3_greatestGapOf_56) <|
  tb_iload 2 <|
  tb_aload 0 <|
  tb_iload 5 <|
  tb_iload 3 <|
  tb_callV 3 sp_X3_gapOf 3 <|
  tb_mm (fun x y => if x < y then y else x) <|
  tb_istore 2 <|
  t_X3_greatestGapOf_56
def t_X3_greatestGapOf_0 : am_T := tb_const 0 <|
  tb_istore 2 <|
  tb_const (-1) <|
  tb_istore 3 <|
  tb_const 0 <|
  tb_istore 4 <|
  tb_head 7
def h_X3_greatestGapOf : am_Hd := fun h => if h = 0 then t_X3_greatestGapOf_0 else if h = 7 then t_X3_greatestGapOf_7 else tb_bad
theorem h_X3_greatestGapOf_0 : h_X3_greatestGapOf 0 = t_X3_greatestGapOf_0 := rfl
theorem h_X3_greatestGapOf_7 : h_X3_greatestGapOf 7 = t_X3_greatestGapOf_7 := rfl
def rm_X3_greatestGapOf : Room := { frames := 1, cells := 0, slots := 0, locals := 22 }
def sp_X3_greatestGapOf : am_sp := fun as M Q => as.length ≤ 6 ∧ am_OK h_X3_greatestGapOf Q 0 (am_in 6 as) M
theorem s_X3_greatestGapOf_65 {G : am_G} {bc bs : Nat} (X : am_Cx G cX3_greatestGapOf RX3 "greatestGapOf" rm_X3_greatestGapOf (some .int) 6 bc bs true) : am_S G 65 (t_X3_greatestGapOf_65) := by
  unfold t_X3_greatestGapOf_65
  refine as_iload_n (pc := 65) X dX3_greatestGapOf_65 rfl ?_
  exact as_iret (pc := 66) X ⟨rfl, rfl⟩ rfl dX3_greatestGapOf_66
theorem s_X3_greatestGapOf_59 {G : am_G} {bc bs : Nat} (X : am_Cx G cX3_greatestGapOf RX3 "greatestGapOf" rm_X3_greatestGapOf (some .int) 6 bc bs true) : am_S G 59 (t_X3_greatestGapOf_59) := by
  unfold t_X3_greatestGapOf_59
  refine as_iinc (pc := 59) X dX3_greatestGapOf_59 (by decide) (by decide) ?_
  exact as_goto (pc := 62) X 7 dX3_greatestGapOf_62 (by decide) (as_head)
theorem s_X3_greatestGapOf_56 {G : am_G} {bc bs : Nat} (X : am_Cx G cX3_greatestGapOf RX3 "greatestGapOf" rm_X3_greatestGapOf (some .int) 6 bc bs true) : am_S G 56 (t_X3_greatestGapOf_56) := by
  unfold t_X3_greatestGapOf_56
  refine as_iload (pc := 56) X dX3_greatestGapOf_56 ?_
  refine as_istore_n (pc := 58) X dX3_greatestGapOf_58 rfl ?_ (by decide)
  exact s_X3_greatestGapOf_59 X
theorem s_X3_greatestGapOf_7 {G : am_G} {bc bs : Nat} (X : am_Cx G cX3_greatestGapOf RX3 "greatestGapOf" rm_X3_greatestGapOf (some .int) 6 bc bs true) : am_S G 7 (t_X3_greatestGapOf_7) := by
  unfold t_X3_greatestGapOf_7
  refine as_iload (pc := 7) X dX3_greatestGapOf_7 ?_
  refine as_aload_n (pc := 9) X dX3_greatestGapOf_9 rfl ?_
  refine as_getR (ci := 3) (j := 0) (pc := 10) X (Cn := RX3) (Tf := TX3) (N := 17) rfl rfl (by decide) iw_X3 aw_159 rfl dX3_greatestGapOf_10 ?_
  refine as_getI (ci := 1) (j := 4) (pc := 13) X (Cn := RX1) (Tf := TX1) (N := 14) rfl rfl (by decide) iw_X1 aw_99 rfl dX3_greatestGapOf_13 ?_
  refine as_ic_ge (pc := 16) X 65 dX3_greatestGapOf_16 (by decide) (s_X3_greatestGapOf_65 X) ?_
  refine as_aload_n (pc := 19) X dX3_greatestGapOf_19 rfl ?_
  refine as_getR (ci := 3) (j := 1) (pc := 20) X (Cn := RX3) (Tf := TX3) (N := 17) rfl rfl (by decide) iw_X3 aw_161 rfl dX3_greatestGapOf_20 ?_
  refine as_iload (pc := 23) X dX3_greatestGapOf_23 ?_
  refine as_iald (pc := 25) X dX3_greatestGapOf_25 ?_
  refine as_istore (pc := 26) X dX3_greatestGapOf_26 ?_ (by decide)
  refine as_aload_n (pc := 28) X dX3_greatestGapOf_28 rfl ?_
  refine as_getR (ci := 3) (j := 13) (pc := 29) X (Cn := RX3) (Tf := TX3) (N := 17) rfl rfl (by decide) iw_X3 aw_178 rfl dX3_greatestGapOf_29 ?_
  refine as_iload (pc := 32) X dX3_greatestGapOf_32 ?_
  refine as_iald (pc := 34) X dX3_greatestGapOf_34 ?_
  refine as_iload_n (pc := 35) X dX3_greatestGapOf_35 rfl ?_
  refine as_ic_ne (pc := 36) X 59 dX3_greatestGapOf_36 (by decide) (s_X3_greatestGapOf_59 X) ?_
  refine as_iload_n (pc := 39) X dX3_greatestGapOf_39 rfl ?_
  refine as_iconst (pc := 40) X dX3_greatestGapOf_40 (by decide) ?_
  refine as_ic_eq (pc := 41) X 56 dX3_greatestGapOf_41 (by decide) (s_X3_greatestGapOf_56 X) ?_
  refine as_iload_n (pc := 44) X dX3_greatestGapOf_44 rfl ?_
  refine as_aload_n (pc := 45) X dX3_greatestGapOf_45 rfl ?_
  refine as_iload (pc := 46) X dX3_greatestGapOf_46 ?_
  refine as_iload_n (pc := 48) X dX3_greatestGapOf_48 rfl ?_
  refine as_callV (ci := 3) (np := 2) (ix := 116) (pc := 49) X ct_X3_gapOf (Cn := (RX3, TX3, 17)) rfl ⟨rfl, rfl⟩ aw_423 aw_424 aw_425 aw_426 aw_60 (by decide +kernel) (by decide) dX3_greatestGapOf_49 ?_
  refine as_mmax (pc := 52) X aw_478 aw_479 aw_67 aw_480 (by decide) (by decide) dX3_greatestGapOf_52 ?_
  refine as_istore_n (pc := 55) X dX3_greatestGapOf_55 rfl ?_ (by decide)
  exact s_X3_greatestGapOf_56 X
theorem s_X3_greatestGapOf_0 {G : am_G} {bc bs : Nat} (X : am_Cx G cX3_greatestGapOf RX3 "greatestGapOf" rm_X3_greatestGapOf (some .int) 6 bc bs true) : am_S G 0 (t_X3_greatestGapOf_0) := by
  unfold t_X3_greatestGapOf_0
  refine as_iconst (pc := 0) X dX3_greatestGapOf_0 (by decide) ?_
  refine as_istore_n (pc := 1) X dX3_greatestGapOf_1 rfl ?_ (by decide)
  refine as_iconst (pc := 2) X dX3_greatestGapOf_2 (by decide) ?_
  refine as_istore_n (pc := 3) X dX3_greatestGapOf_3 rfl ?_ (by decide)
  refine as_iconst (pc := 4) X dX3_greatestGapOf_4 (by decide) ?_
  refine as_istore (pc := 5) X dX3_greatestGapOf_5 ?_ (by decide)
  exact as_head
theorem s_X3_greatestGapOf {G : am_G} {bc bs : Nat} (X : am_Cx G cX3_greatestGapOf RX3 "greatestGapOf" rm_X3_greatestGapOf (some .int) 6 bc bs true) (h : Nat) : am_S G h (h_X3_greatestGapOf h) := by
  unfold h_X3_greatestGapOf
  split
  · next e => rw [e]; exact s_X3_greatestGapOf_0 X
  split
  · next e => rw [e]; exact s_X3_greatestGapOf_7 X
  exact as_bad
theorem ct_X3_greatestGapOf : am_Ct yX3_greatestGapOf cX3_greatestGapOf 6 (some .int) rm_X3_greatestGapOf sp_X3_greatestGapOf := am_met (own := RX3) (nm := "greatestGapOf") (by decide) rfl rfl (Or.inr (Or.inl rfl)) (fun _ _ => h_X3_greatestGapOf) (fun _ _ _ X => s_X3_greatestGapOf X) (fun _ _ _ _ h => h)
-- X3_longestRowOf
theorem dX3_longestRowOf_0 : decode cX3_longestRowOf 0 = .ok (.iconst 0, 1) := by decide +kernel
theorem dX3_longestRowOf_1 : decode cX3_longestRowOf 1 = .ok (.istore_n 2, 1) := by decide +kernel
theorem dX3_longestRowOf_2 : decode cX3_longestRowOf 2 = .ok (.iconst 0, 1) := by decide +kernel
theorem dX3_longestRowOf_3 : decode cX3_longestRowOf 3 = .ok (.istore_n 3, 1) := by decide +kernel
theorem dX3_longestRowOf_4 : decode cX3_longestRowOf 4 = .ok (.iload_n 3, 1) := by decide +kernel
theorem dX3_longestRowOf_5 : decode cX3_longestRowOf 5 = .ok (.aload_n 0, 1) := by decide +kernel
theorem dX3_longestRowOf_6 : decode cX3_longestRowOf 6 = .ok (.getfield 12, 3) := by decide +kernel
theorem dX3_longestRowOf_9 : decode cX3_longestRowOf 9 = .ok (.getfield 71, 3) := by decide +kernel
theorem dX3_longestRowOf_12 : decode cX3_longestRowOf 12 = .ok (.if_icmp .ge 30, 3) := by decide +kernel
theorem dX3_longestRowOf_15 : decode cX3_longestRowOf 15 = .ok (.aload_n 0, 1) := by decide +kernel
theorem dX3_longestRowOf_16 : decode cX3_longestRowOf 16 = .ok (.getfield 55, 3) := by decide +kernel
theorem dX3_longestRowOf_19 : decode cX3_longestRowOf 19 = .ok (.iload_n 3, 1) := by decide +kernel
theorem dX3_longestRowOf_20 : decode cX3_longestRowOf 20 = .ok (.iaload, 1) := by decide +kernel
theorem dX3_longestRowOf_21 : decode cX3_longestRowOf 21 = .ok (.iload_n 1, 1) := by decide +kernel
theorem dX3_longestRowOf_22 : decode cX3_longestRowOf 22 = .ok (.if_icmp .ne 14, 3) := by decide +kernel
theorem dX3_longestRowOf_25 : decode cX3_longestRowOf 25 = .ok (.iload_n 2, 1) := by decide +kernel
theorem dX3_longestRowOf_26 : decode cX3_longestRowOf 26 = .ok (.aload_n 0, 1) := by decide +kernel
theorem dX3_longestRowOf_27 : decode cX3_longestRowOf 27 = .ok (.getfield 49, 3) := by decide +kernel
theorem dX3_longestRowOf_30 : decode cX3_longestRowOf 30 = .ok (.iload_n 3, 1) := by decide +kernel
theorem dX3_longestRowOf_31 : decode cX3_longestRowOf 31 = .ok (.iaload, 1) := by decide +kernel
theorem dX3_longestRowOf_32 : decode cX3_longestRowOf 32 = .ok (.invokestatic 165, 3) := by decide +kernel
theorem dX3_longestRowOf_35 : decode cX3_longestRowOf 35 = .ok (.istore_n 2, 1) := by decide +kernel
theorem dX3_longestRowOf_36 : decode cX3_longestRowOf 36 = .ok (.iinc 3 1, 3) := by decide +kernel
theorem dX3_longestRowOf_39 : decode cX3_longestRowOf 39 = .ok (.goto (-35), 3) := by decide +kernel
theorem dX3_longestRowOf_42 : decode cX3_longestRowOf 42 = .ok (.iload_n 2, 1) := by decide +kernel
theorem dX3_longestRowOf_43 : decode cX3_longestRowOf 43 = .ok (.ireturn, 1) := by decide +kernel
def t_X3_longestRowOf_42 : am_T := tb_iload 2 <|
  tb_iret
def t_X3_longestRowOf_36 : am_T := tb_iinc 3 1 <|
  tb_head 4
def t_X3_longestRowOf_4 : am_T := tb_iload 3 <|
  tb_aload 0 <|
  tb_getR 3 0 <|
  tb_getI 1 4 <|
  tb_ic (fun x y => y ≤ x) (t_X3_longestRowOf_42) <|
  tb_aload 0 <|
  tb_getR 3 13 <|
  tb_iload 3 <|
  tb_iald <|
  tb_iload 1 <|
  tb_ic (fun x y => x ≠ y) (t_X3_longestRowOf_36) <|
  tb_iload 2 <|
  tb_aload 0 <|
  tb_getR 3 11 <|
  tb_iload 3 <|
  tb_iald <|
  tb_mm (fun x y => if x < y then y else x) <|
  tb_istore 2 <|
  t_X3_longestRowOf_36
def t_X3_longestRowOf_0 : am_T := tb_const 0 <|
  tb_istore 2 <|
  tb_const 0 <|
  tb_istore 3 <|
  tb_head 4
def h_X3_longestRowOf : am_Hd := fun h => if h = 0 then t_X3_longestRowOf_0 else if h = 4 then t_X3_longestRowOf_4 else tb_bad
theorem h_X3_longestRowOf_0 : h_X3_longestRowOf 0 = t_X3_longestRowOf_0 := rfl
theorem h_X3_longestRowOf_4 : h_X3_longestRowOf 4 = t_X3_longestRowOf_4 := rfl
def rm_X3_longestRowOf : Room := { frames := 1, cells := 0, slots := 0, locals := 21 }
def sp_X3_longestRowOf : am_sp := fun as M Q => as.length ≤ 4 ∧ am_OK h_X3_longestRowOf Q 0 (am_in 4 as) M
theorem s_X3_longestRowOf_42 {G : am_G} {bc bs : Nat} (X : am_Cx G cX3_longestRowOf RX3 "longestRowOf" rm_X3_longestRowOf (some .int) 4 bc bs true) : am_S G 42 (t_X3_longestRowOf_42) := by
  unfold t_X3_longestRowOf_42
  refine as_iload_n (pc := 42) X dX3_longestRowOf_42 rfl ?_
  exact as_iret (pc := 43) X ⟨rfl, rfl⟩ rfl dX3_longestRowOf_43
theorem s_X3_longestRowOf_36 {G : am_G} {bc bs : Nat} (X : am_Cx G cX3_longestRowOf RX3 "longestRowOf" rm_X3_longestRowOf (some .int) 4 bc bs true) : am_S G 36 (t_X3_longestRowOf_36) := by
  unfold t_X3_longestRowOf_36
  refine as_iinc (pc := 36) X dX3_longestRowOf_36 (by decide) (by decide) ?_
  exact as_goto (pc := 39) X 4 dX3_longestRowOf_39 (by decide) (as_head)
theorem s_X3_longestRowOf_4 {G : am_G} {bc bs : Nat} (X : am_Cx G cX3_longestRowOf RX3 "longestRowOf" rm_X3_longestRowOf (some .int) 4 bc bs true) : am_S G 4 (t_X3_longestRowOf_4) := by
  unfold t_X3_longestRowOf_4
  refine as_iload_n (pc := 4) X dX3_longestRowOf_4 rfl ?_
  refine as_aload_n (pc := 5) X dX3_longestRowOf_5 rfl ?_
  refine as_getR (ci := 3) (j := 0) (pc := 6) X (Cn := RX3) (Tf := TX3) (N := 17) rfl rfl (by decide) iw_X3 aw_159 rfl dX3_longestRowOf_6 ?_
  refine as_getI (ci := 1) (j := 4) (pc := 9) X (Cn := RX1) (Tf := TX1) (N := 14) rfl rfl (by decide) iw_X1 aw_99 rfl dX3_longestRowOf_9 ?_
  refine as_ic_ge (pc := 12) X 42 dX3_longestRowOf_12 (by decide) (s_X3_longestRowOf_42 X) ?_
  refine as_aload_n (pc := 15) X dX3_longestRowOf_15 rfl ?_
  refine as_getR (ci := 3) (j := 13) (pc := 16) X (Cn := RX3) (Tf := TX3) (N := 17) rfl rfl (by decide) iw_X3 aw_178 rfl dX3_longestRowOf_16 ?_
  refine as_iload_n (pc := 19) X dX3_longestRowOf_19 rfl ?_
  refine as_iald (pc := 20) X dX3_longestRowOf_20 ?_
  refine as_iload_n (pc := 21) X dX3_longestRowOf_21 rfl ?_
  refine as_ic_ne (pc := 22) X 36 dX3_longestRowOf_22 (by decide) (s_X3_longestRowOf_36 X) ?_
  refine as_iload_n (pc := 25) X dX3_longestRowOf_25 rfl ?_
  refine as_aload_n (pc := 26) X dX3_longestRowOf_26 rfl ?_
  refine as_getR (ci := 3) (j := 11) (pc := 27) X (Cn := RX3) (Tf := TX3) (N := 17) rfl rfl (by decide) iw_X3 aw_176 rfl dX3_longestRowOf_27 ?_
  refine as_iload_n (pc := 30) X dX3_longestRowOf_30 rfl ?_
  refine as_iald (pc := 31) X dX3_longestRowOf_31 ?_
  refine as_mmax (pc := 32) X aw_478 aw_479 aw_67 aw_480 (by decide) (by decide) dX3_longestRowOf_32 ?_
  refine as_istore_n (pc := 35) X dX3_longestRowOf_35 rfl ?_ (by decide)
  exact s_X3_longestRowOf_36 X
theorem s_X3_longestRowOf_0 {G : am_G} {bc bs : Nat} (X : am_Cx G cX3_longestRowOf RX3 "longestRowOf" rm_X3_longestRowOf (some .int) 4 bc bs true) : am_S G 0 (t_X3_longestRowOf_0) := by
  unfold t_X3_longestRowOf_0
  refine as_iconst (pc := 0) X dX3_longestRowOf_0 (by decide) ?_
  refine as_istore_n (pc := 1) X dX3_longestRowOf_1 rfl ?_ (by decide)
  refine as_iconst (pc := 2) X dX3_longestRowOf_2 (by decide) ?_
  refine as_istore_n (pc := 3) X dX3_longestRowOf_3 rfl ?_ (by decide)
  exact as_head
theorem s_X3_longestRowOf {G : am_G} {bc bs : Nat} (X : am_Cx G cX3_longestRowOf RX3 "longestRowOf" rm_X3_longestRowOf (some .int) 4 bc bs true) (h : Nat) : am_S G h (h_X3_longestRowOf h) := by
  unfold h_X3_longestRowOf
  split
  · next e => rw [e]; exact s_X3_longestRowOf_0 X
  split
  · next e => rw [e]; exact s_X3_longestRowOf_4 X
  exact as_bad
theorem ct_X3_longestRowOf : am_Ct yX3_longestRowOf cX3_longestRowOf 4 (some .int) rm_X3_longestRowOf sp_X3_longestRowOf := am_met (own := RX3) (nm := "longestRowOf") (by decide) rfl rfl (Or.inr (Or.inl rfl)) (fun _ _ => h_X3_longestRowOf) (fun _ _ _ X => s_X3_longestRowOf X) (fun _ _ _ _ h => h)
-- X4_threadOf
theorem dX4_threadOf_0 : decode cX4_threadOf 0 = .ok (.aload_n 0, 1) := by decide +kernel
theorem dX4_threadOf_1 : decode cX4_threadOf 1 = .ok (.invokevirtual 116, 3) := by decide +kernel
theorem dX4_threadOf_4 : decode cX4_threadOf 4 = .ok (.astore_n 3, 1) := by decide +kernel
theorem dX4_threadOf_5 : decode cX4_threadOf 5 = .ok (.aload_n 3, 1) := by decide +kernel
theorem dX4_threadOf_6 : decode cX4_threadOf 6 = .ok (.iload_n 1, 1) := by decide +kernel
theorem dX4_threadOf_7 : decode cX4_threadOf 7 = .ok (.invokevirtual 205, 3) := by decide +kernel
theorem dX4_threadOf_10 : decode cX4_threadOf 10 = .ok (.ifCond .ne 5, 3) := by decide +kernel
theorem dX4_threadOf_13 : decode cX4_threadOf 13 = .ok (.iconst (-1), 1) := by decide +kernel
theorem dX4_threadOf_14 : decode cX4_threadOf 14 = .ok (.ireturn, 1) := by decide +kernel
theorem dX4_threadOf_15 : decode cX4_threadOf 15 = .ok (.iload_n 2, 1) := by decide +kernel
theorem dX4_threadOf_16 : decode cX4_threadOf 16 = .ok (.tableswitch 92 0 6 #[44, 51, 57, 67, 74, 80, 86], 44) := by decide +kernel
theorem dX4_threadOf_60 : decode cX4_threadOf 60 = .ok (.aload_n 3, 1) := by decide +kernel
theorem dX4_threadOf_61 : decode cX4_threadOf 61 = .ok (.getfield 208, 3) := by decide +kernel
theorem dX4_threadOf_64 : decode cX4_threadOf 64 = .ok (.iload_n 1, 1) := by decide +kernel
theorem dX4_threadOf_65 : decode cX4_threadOf 65 = .ok (.iaload, 1) := by decide +kernel
theorem dX4_threadOf_66 : decode cX4_threadOf 66 = .ok (.ireturn, 1) := by decide +kernel
theorem dX4_threadOf_67 : decode cX4_threadOf 67 = .ok (.aload_n 3, 1) := by decide +kernel
theorem dX4_threadOf_68 : decode cX4_threadOf 68 = .ok (.iload_n 1, 1) := by decide +kernel
theorem dX4_threadOf_69 : decode cX4_threadOf 69 = .ok (.invokevirtual 211, 3) := by decide +kernel
theorem dX4_threadOf_72 : decode cX4_threadOf 72 = .ok (.ireturn, 1) := by decide +kernel
theorem dX4_threadOf_73 : decode cX4_threadOf 73 = .ok (.aload_n 3, 1) := by decide +kernel
theorem dX4_threadOf_74 : decode cX4_threadOf 74 = .ok (.iload_n 1, 1) := by decide +kernel
theorem dX4_threadOf_75 : decode cX4_threadOf 75 = .ok (.iconst 0, 1) := by decide +kernel
theorem dX4_threadOf_76 : decode cX4_threadOf 76 = .ok (.invokevirtual 214, 3) := by decide +kernel
theorem dX4_threadOf_79 : decode cX4_threadOf 79 = .ok (.invokestatic 79, 3) := by decide +kernel
theorem dX4_threadOf_82 : decode cX4_threadOf 82 = .ok (.ireturn, 1) := by decide +kernel
theorem dX4_threadOf_83 : decode cX4_threadOf 83 = .ok (.aload_n 3, 1) := by decide +kernel
theorem dX4_threadOf_84 : decode cX4_threadOf 84 = .ok (.getfield 217, 3) := by decide +kernel
theorem dX4_threadOf_87 : decode cX4_threadOf 87 = .ok (.iload_n 1, 1) := by decide +kernel
theorem dX4_threadOf_88 : decode cX4_threadOf 88 = .ok (.iaload, 1) := by decide +kernel
theorem dX4_threadOf_89 : decode cX4_threadOf 89 = .ok (.ireturn, 1) := by decide +kernel
theorem dX4_threadOf_90 : decode cX4_threadOf 90 = .ok (.aload_n 3, 1) := by decide +kernel
theorem dX4_threadOf_91 : decode cX4_threadOf 91 = .ok (.iload_n 1, 1) := by decide +kernel
theorem dX4_threadOf_92 : decode cX4_threadOf 92 = .ok (.invokevirtual 220, 3) := by decide +kernel
theorem dX4_threadOf_95 : decode cX4_threadOf 95 = .ok (.ireturn, 1) := by decide +kernel
theorem dX4_threadOf_96 : decode cX4_threadOf 96 = .ok (.aload_n 3, 1) := by decide +kernel
theorem dX4_threadOf_97 : decode cX4_threadOf 97 = .ok (.iload_n 1, 1) := by decide +kernel
theorem dX4_threadOf_98 : decode cX4_threadOf 98 = .ok (.invokevirtual 223, 3) := by decide +kernel
theorem dX4_threadOf_101 : decode cX4_threadOf 101 = .ok (.ireturn, 1) := by decide +kernel
theorem dX4_threadOf_102 : decode cX4_threadOf 102 = .ok (.aload_n 3, 1) := by decide +kernel
theorem dX4_threadOf_103 : decode cX4_threadOf 103 = .ok (.iload_n 1, 1) := by decide +kernel
theorem dX4_threadOf_104 : decode cX4_threadOf 104 = .ok (.invokevirtual 226, 3) := by decide +kernel
theorem dX4_threadOf_107 : decode cX4_threadOf 107 = .ok (.ireturn, 1) := by decide +kernel
theorem dX4_threadOf_108 : decode cX4_threadOf 108 = .ok (.iconst (-1), 1) := by decide +kernel
theorem dX4_threadOf_109 : decode cX4_threadOf 109 = .ok (.ireturn, 1) := by decide +kernel
def t_X4_threadOf_108 : am_T := tb_const (-1) <|
  tb_iret
def t_X4_threadOf_102 : am_T := tb_aload 3 <|
  tb_iload 1 <|
  tb_callV 3 sp_X3_longestRowOf 2 <|
  tb_iret
def t_X4_threadOf_96 : am_T := tb_aload 3 <|
  tb_iload 1 <|
  tb_callV 3 sp_X3_greatestGapOf 2 <|
  tb_iret
def t_X4_threadOf_90 : am_T := tb_aload 3 <|
  tb_iload 1 <|
  tb_callV 3 sp_X3_spanOf 2 <|
  tb_iret
def t_X4_threadOf_83 : am_T := tb_aload 3 <|
  tb_getR 3 16 <|
  tb_iload 1 <|
  tb_iald <|
  tb_iret
def t_X4_threadOf_73 : am_T := tb_aload 3 <|
  tb_iload 1 <|
  tb_const 0 <|
  tb_callV 3 sp_X3_memberOf 3 <|
  tb_callS sp_X4_orNotFound 1 <|
  tb_iret
def t_X4_threadOf_67 : am_T := tb_aload 3 <|
  tb_iload 1 <|
  tb_callV 3 sp_X3_writersOf 2 <|
  tb_iret
def t_X4_threadOf_60 : am_T := tb_aload 3 <|
  tb_getR 3 15 <|
  tb_iload 1 <|
  tb_iald <|
  tb_iret
def w_X4_threadOf_16 : Nat → am_T := fun j => match j with
    | 0 => t_X4_threadOf_60
    | 1 => t_X4_threadOf_67
    | 2 => t_X4_threadOf_73
    | 3 => t_X4_threadOf_83
    | 4 => t_X4_threadOf_90
    | 5 => t_X4_threadOf_96
    | 6 => t_X4_threadOf_102
    | _ => tb_bad
def v_X4_threadOf_16 : Nat → Nat := fun j => match j with
    | 0 => 60
    | 1 => 67
    | 2 => 73
    | 3 => 83
    | 4 => 90
    | 5 => 96
    | 6 => 102
    | _ => 0
def t_X4_threadOf_15 : am_T := tb_iload 2 <|
  tb_sw 0 6 w_X4_threadOf_16 (t_X4_threadOf_108)
def t_X4_threadOf_0 : am_T := tb_aload 0 <|
  tb_callV 4 sp_X4_currentThreads 1 <|
  tb_astore 3 <|
  tb_aload 3 <|
  tb_iload 1 <|
  tb_callV 3 sp_X3_isThread 2 <|
  tb_if (fun x => x ≠ 0) (t_X4_threadOf_15) <|
  tb_const (-1) <|
  tb_iret
def h_X4_threadOf : am_Hd := fun h => if h = 0 then t_X4_threadOf_0 else tb_bad
theorem h_X4_threadOf_0 : h_X4_threadOf 0 = t_X4_threadOf_0 := rfl
def rm_X4_threadOf : Room := { frames := 6, cells := 0, slots := 0, locals := 133 }
def sp_X4_threadOf : am_sp := fun as M Q => as.length ≤ 4 ∧ am_OK h_X4_threadOf Q 0 (am_in 4 as) M
theorem s_X4_threadOf_108 {G : am_G} {bc bs : Nat} (X : am_Cx G cX4_threadOf RX4 "threadOf" rm_X4_threadOf (some .int) 4 bc bs true) : am_S G 108 (t_X4_threadOf_108) := by
  unfold t_X4_threadOf_108
  refine as_iconst (pc := 108) X dX4_threadOf_108 (by decide) ?_
  exact as_iret (pc := 109) X ⟨rfl, rfl⟩ rfl dX4_threadOf_109
theorem s_X4_threadOf_102 {G : am_G} {bc bs : Nat} (X : am_Cx G cX4_threadOf RX4 "threadOf" rm_X4_threadOf (some .int) 4 bc bs true) : am_S G 102 (t_X4_threadOf_102) := by
  unfold t_X4_threadOf_102
  refine as_aload_n (pc := 102) X dX4_threadOf_102 rfl ?_
  refine as_iload_n (pc := 103) X dX4_threadOf_103 rfl ?_
  refine as_callV (ci := 3) (np := 1) (ix := 226) (pc := 104) X ct_X3_longestRowOf (Cn := (RX3, TX3, 17)) rfl ⟨rfl, rfl⟩ aw_608 aw_609 aw_610 aw_611 aw_60 (by decide +kernel) (by decide) dX4_threadOf_104 ?_
  exact as_iret (pc := 107) X ⟨rfl, rfl⟩ rfl dX4_threadOf_107
theorem s_X4_threadOf_96 {G : am_G} {bc bs : Nat} (X : am_Cx G cX4_threadOf RX4 "threadOf" rm_X4_threadOf (some .int) 4 bc bs true) : am_S G 96 (t_X4_threadOf_96) := by
  unfold t_X4_threadOf_96
  refine as_aload_n (pc := 96) X dX4_threadOf_96 rfl ?_
  refine as_iload_n (pc := 97) X dX4_threadOf_97 rfl ?_
  refine as_callV (ci := 3) (np := 1) (ix := 223) (pc := 98) X ct_X3_greatestGapOf (Cn := (RX3, TX3, 17)) rfl ⟨rfl, rfl⟩ aw_604 aw_605 aw_606 aw_607 aw_60 (by decide +kernel) (by decide) dX4_threadOf_98 ?_
  exact as_iret (pc := 101) X ⟨rfl, rfl⟩ rfl dX4_threadOf_101
theorem s_X4_threadOf_90 {G : am_G} {bc bs : Nat} (X : am_Cx G cX4_threadOf RX4 "threadOf" rm_X4_threadOf (some .int) 4 bc bs true) : am_S G 90 (t_X4_threadOf_90) := by
  unfold t_X4_threadOf_90
  refine as_aload_n (pc := 90) X dX4_threadOf_90 rfl ?_
  refine as_iload_n (pc := 91) X dX4_threadOf_91 rfl ?_
  refine as_callV (ci := 3) (np := 1) (ix := 220) (pc := 92) X ct_X3_spanOf (Cn := (RX3, TX3, 17)) rfl ⟨rfl, rfl⟩ aw_599 aw_600 aw_601 aw_602 aw_60 (by decide +kernel) (by decide) dX4_threadOf_92 ?_
  exact as_iret (pc := 95) X ⟨rfl, rfl⟩ rfl dX4_threadOf_95
theorem s_X4_threadOf_83 {G : am_G} {bc bs : Nat} (X : am_Cx G cX4_threadOf RX4 "threadOf" rm_X4_threadOf (some .int) 4 bc bs true) : am_S G 83 (t_X4_threadOf_83) := by
  unfold t_X4_threadOf_83
  refine as_aload_n (pc := 83) X dX4_threadOf_83 rfl ?_
  refine as_getR (ci := 3) (j := 16) (pc := 84) X (Cn := RX3) (Tf := TX3) (N := 17) rfl rfl (by decide) iw_X3 aw_185 rfl dX4_threadOf_84 ?_
  refine as_iload_n (pc := 87) X dX4_threadOf_87 rfl ?_
  refine as_iald (pc := 88) X dX4_threadOf_88 ?_
  exact as_iret (pc := 89) X ⟨rfl, rfl⟩ rfl dX4_threadOf_89
theorem s_X4_threadOf_73 {G : am_G} {bc bs : Nat} (X : am_Cx G cX4_threadOf RX4 "threadOf" rm_X4_threadOf (some .int) 4 bc bs true) : am_S G 73 (t_X4_threadOf_73) := by
  unfold t_X4_threadOf_73
  refine as_aload_n (pc := 73) X dX4_threadOf_73 rfl ?_
  refine as_iload_n (pc := 74) X dX4_threadOf_74 rfl ?_
  refine as_iconst (pc := 75) X dX4_threadOf_75 (by decide) ?_
  refine as_callV (ci := 3) (np := 2) (ix := 214) (pc := 76) X ct_X3_memberOf (Cn := (RX3, TX3, 17)) rfl ⟨rfl, rfl⟩ aw_595 aw_596 aw_597 aw_598 aw_60 (by decide +kernel) (by decide) dX4_threadOf_76 ?_
  refine as_callS (np := 1) (ix := 79) (pc := 79) X ct_X4_orNotFound ⟨rfl, rfl⟩ aw_347 aw_348 aw_349 aw_59 (by decide +kernel) (by decide) dX4_threadOf_79 ?_
  exact as_iret (pc := 82) X ⟨rfl, rfl⟩ rfl dX4_threadOf_82
theorem s_X4_threadOf_67 {G : am_G} {bc bs : Nat} (X : am_Cx G cX4_threadOf RX4 "threadOf" rm_X4_threadOf (some .int) 4 bc bs true) : am_S G 67 (t_X4_threadOf_67) := by
  unfold t_X4_threadOf_67
  refine as_aload_n (pc := 67) X dX4_threadOf_67 rfl ?_
  refine as_iload_n (pc := 68) X dX4_threadOf_68 rfl ?_
  refine as_callV (ci := 3) (np := 1) (ix := 211) (pc := 69) X ct_X3_writersOf (Cn := (RX3, TX3, 17)) rfl ⟨rfl, rfl⟩ aw_591 aw_592 aw_593 aw_594 aw_60 (by decide +kernel) (by decide) dX4_threadOf_69 ?_
  exact as_iret (pc := 72) X ⟨rfl, rfl⟩ rfl dX4_threadOf_72
theorem s_X4_threadOf_60 {G : am_G} {bc bs : Nat} (X : am_Cx G cX4_threadOf RX4 "threadOf" rm_X4_threadOf (some .int) 4 bc bs true) : am_S G 60 (t_X4_threadOf_60) := by
  unfold t_X4_threadOf_60
  refine as_aload_n (pc := 60) X dX4_threadOf_60 rfl ?_
  refine as_getR (ci := 3) (j := 15) (pc := 61) X (Cn := RX3) (Tf := TX3) (N := 17) rfl rfl (by decide) iw_X3 aw_183 rfl dX4_threadOf_61 ?_
  refine as_iload_n (pc := 64) X dX4_threadOf_64 rfl ?_
  refine as_iald (pc := 65) X dX4_threadOf_65 ?_
  exact as_iret (pc := 66) X ⟨rfl, rfl⟩ rfl dX4_threadOf_66
theorem s_X4_threadOf_15 {G : am_G} {bc bs : Nat} (X : am_Cx G cX4_threadOf RX4 "threadOf" rm_X4_threadOf (some .int) 4 bc bs true) : am_S G 15 (t_X4_threadOf_15) := by
  unfold t_X4_threadOf_15
  refine as_iload_n (pc := 15) X dX4_threadOf_15 rfl ?_
  refine as_sw (pc := 16) X dX4_threadOf_16 v_X4_threadOf_16 108 (by decide) (fun j hj => ?_) (s_X4_threadOf_108 X)
  match j, hj with
  | 0, _ => exact ⟨44, rfl, by decide, s_X4_threadOf_60 X⟩
  | 1, _ => exact ⟨51, rfl, by decide, s_X4_threadOf_67 X⟩
  | 2, _ => exact ⟨57, rfl, by decide, s_X4_threadOf_73 X⟩
  | 3, _ => exact ⟨67, rfl, by decide, s_X4_threadOf_83 X⟩
  | 4, _ => exact ⟨74, rfl, by decide, s_X4_threadOf_90 X⟩
  | 5, _ => exact ⟨80, rfl, by decide, s_X4_threadOf_96 X⟩
  | 6, _ => exact ⟨86, rfl, by decide, s_X4_threadOf_102 X⟩
  | j + 7, hj => exact absurd hj (by omega)
theorem s_X4_threadOf_0 {G : am_G} {bc bs : Nat} (X : am_Cx G cX4_threadOf RX4 "threadOf" rm_X4_threadOf (some .int) 4 bc bs true) : am_S G 0 (t_X4_threadOf_0) := by
  unfold t_X4_threadOf_0
  refine as_aload_n (pc := 0) X dX4_threadOf_0 rfl ?_
  refine as_callV (ci := 4) (np := 0) (ix := 116) (pc := 1) X ct_X4_currentThreads (Cn := (RX4, TX4, 7)) rfl ⟨rfl, rfl⟩ aw_389 aw_391 aw_2 aw_392 aw_59 (by decide +kernel) (by decide) dX4_threadOf_1 ?_
  refine as_astore_n (pc := 4) X dX4_threadOf_4 rfl ?_ (by decide)
  refine as_aload_n (pc := 5) X dX4_threadOf_5 rfl ?_
  refine as_iload_n (pc := 6) X dX4_threadOf_6 rfl ?_
  refine as_callV (ci := 3) (np := 1) (ix := 205) (pc := 7) X ct_X3_isThread (Cn := (RX3, TX3, 17)) rfl ⟨rfl, rfl⟩ aw_587 aw_588 aw_589 aw_590 aw_60 (by decide +kernel) (by decide) dX4_threadOf_7 ?_
  refine as_if_ne (pc := 10) X 15 dX4_threadOf_10 (by decide) (s_X4_threadOf_15 X) ?_
  refine as_iconst (pc := 13) X dX4_threadOf_13 (by decide) ?_
  exact as_iret (pc := 14) X ⟨rfl, rfl⟩ rfl dX4_threadOf_14
theorem s_X4_threadOf {G : am_G} {bc bs : Nat} (X : am_Cx G cX4_threadOf RX4 "threadOf" rm_X4_threadOf (some .int) 4 bc bs true) (h : Nat) : am_S G h (h_X4_threadOf h) := by
  unfold h_X4_threadOf
  split
  · next e => rw [e]; exact s_X4_threadOf_0 X
  exact as_bad
theorem ct_X4_threadOf : am_Ct yX4_threadOf cX4_threadOf 4 (some .int) rm_X4_threadOf sp_X4_threadOf := am_met (own := RX4) (nm := "threadOf") (by decide) rfl rfl (Or.inr (Or.inl rfl)) (fun _ _ => h_X4_threadOf) (fun _ _ _ X => s_X4_threadOf X) (fun _ _ _ _ h => h)
-- X5_laysRow
theorem dX5_laysRow_0 : decode cX5_laysRow 0 = .ok (.iconst 0, 1) := by decide +kernel
theorem dX5_laysRow_1 : decode cX5_laysRow 1 = .ok (.istore_n 2, 1) := by decide +kernel
theorem dX5_laysRow_2 : decode cX5_laysRow 2 = .ok (.iconst 0, 1) := by decide +kernel
theorem dX5_laysRow_3 : decode cX5_laysRow 3 = .ok (.istore_n 3, 1) := by decide +kernel
theorem dX5_laysRow_4 : decode cX5_laysRow 4 = .ok (.iload_n 3, 1) := by decide +kernel
theorem dX5_laysRow_5 : decode cX5_laysRow 5 = .ok (.aload_n 0, 1) := by decide +kernel
theorem dX5_laysRow_6 : decode cX5_laysRow 6 = .ok (.getfield 7, 3) := by decide +kernel
theorem dX5_laysRow_9 : decode cX5_laysRow 9 = .ok (.bipush 9, 2) := by decide +kernel
theorem dX5_laysRow_11 : decode cX5_laysRow 11 = .ok (.iaload, 1) := by decide +kernel
theorem dX5_laysRow_12 : decode cX5_laysRow 12 = .ok (.if_icmp .ge 39, 3) := by decide +kernel
theorem dX5_laysRow_15 : decode cX5_laysRow 15 = .ok (.aload_n 0, 1) := by decide +kernel
theorem dX5_laysRow_16 : decode cX5_laysRow 16 = .ok (.getfield 37, 3) := by decide +kernel
theorem dX5_laysRow_19 : decode cX5_laysRow 19 = .ok (.aload_n 0, 1) := by decide +kernel
theorem dX5_laysRow_20 : decode cX5_laysRow 20 = .ok (.getfield 22, 3) := by decide +kernel
theorem dX5_laysRow_23 : decode cX5_laysRow 23 = .ok (.iload_n 3, 1) := by decide +kernel
theorem dX5_laysRow_24 : decode cX5_laysRow 24 = .ok (.iaload, 1) := by decide +kernel
theorem dX5_laysRow_25 : decode cX5_laysRow 25 = .ok (.iaload, 1) := by decide +kernel
theorem dX5_laysRow_26 : decode cX5_laysRow 26 = .ok (.iload_n 1, 1) := by decide +kernel
theorem dX5_laysRow_27 : decode cX5_laysRow 27 = .ok (.if_icmp .ne 18, 3) := by decide +kernel
theorem dX5_laysRow_30 : decode cX5_laysRow 30 = .ok (.aload_n 0, 1) := by decide +kernel
theorem dX5_laysRow_31 : decode cX5_laysRow 31 = .ok (.getfield 46, 3) := by decide +kernel
theorem dX5_laysRow_34 : decode cX5_laysRow 34 = .ok (.iload_n 2, 1) := by decide +kernel
theorem dX5_laysRow_35 : decode cX5_laysRow 35 = .ok (.aload_n 0, 1) := by decide +kernel
theorem dX5_laysRow_36 : decode cX5_laysRow 36 = .ok (.getfield 22, 3) := by decide +kernel
theorem dX5_laysRow_39 : decode cX5_laysRow 39 = .ok (.iload_n 3, 1) := by decide +kernel
theorem dX5_laysRow_40 : decode cX5_laysRow 40 = .ok (.iaload, 1) := by decide +kernel
theorem dX5_laysRow_41 : decode cX5_laysRow 41 = .ok (.iastore, 1) := by decide +kernel
theorem dX5_laysRow_42 : decode cX5_laysRow 42 = .ok (.iinc 2 1, 3) := by decide +kernel
theorem dX5_laysRow_45 : decode cX5_laysRow 45 = .ok (.iinc 3 1, 3) := by decide +kernel
theorem dX5_laysRow_48 : decode cX5_laysRow 48 = .ok (.goto (-44), 3) := by decide +kernel
theorem dX5_laysRow_51 : decode cX5_laysRow 51 = .ok (.iload_n 2, 1) := by decide +kernel
theorem dX5_laysRow_52 : decode cX5_laysRow 52 = .ok (.ireturn, 1) := by decide +kernel
def t_X5_laysRow_51 : am_T := tb_iload 2 <|
  tb_iret
def t_X5_laysRow_45 : am_T := tb_iinc 3 1 <|
  tb_head 4
def t_X5_laysRow_4 : am_T := tb_iload 3 <|
  tb_aload 0 <|
  tb_getR 5 0 <|
  tb_const 9 <|
  tb_iald <|
  tb_ic (fun x y => y ≤ x) (t_X5_laysRow_51) <|
  tb_aload 0 <|
  tb_getR 5 11 <|
  tb_aload 0 <|
  tb_getR 5 6 <|
  tb_iload 3 <|
  tb_iald <|
  tb_iald <|
  tb_iload 1 <|
  tb_ic (fun x y => x ≠ y) (t_X5_laysRow_45) <|
  tb_aload 0 <|
  tb_getR 5 15 <|
  tb_iload 2 <|
  tb_aload 0 <|
  tb_getR 5 6 <|
  tb_iload 3 <|
  tb_iald <|
  tb_iast <|
  tb_iinc 2 1 <|
  t_X5_laysRow_45
def t_X5_laysRow_0 : am_T := tb_const 0 <|
  tb_istore 2 <|
  tb_const 0 <|
  tb_istore 3 <|
  tb_head 4
def h_X5_laysRow : am_Hd := fun h => if h = 0 then t_X5_laysRow_0 else if h = 4 then t_X5_laysRow_4 else tb_bad
theorem h_X5_laysRow_0 : h_X5_laysRow 0 = t_X5_laysRow_0 := rfl
theorem h_X5_laysRow_4 : h_X5_laysRow 4 = t_X5_laysRow_4 := rfl
def rm_X5_laysRow : Room := { frames := 0, cells := 0, slots := 0, locals := 0 }
def sp_X5_laysRow : am_sp := fun as M Q => as.length ≤ 4 ∧ am_OK h_X5_laysRow Q 0 (am_in 4 as) M
theorem s_X5_laysRow_51 {G : am_G} {bc bs : Nat} (X : am_Cx G cX5_laysRow RX5 "laysRow" rm_X5_laysRow (some .int) 4 bc bs true) : am_S G 51 (t_X5_laysRow_51) := by
  unfold t_X5_laysRow_51
  refine as_iload_n (pc := 51) X dX5_laysRow_51 rfl ?_
  exact as_iret (pc := 52) X ⟨rfl, rfl⟩ rfl dX5_laysRow_52
theorem s_X5_laysRow_45 {G : am_G} {bc bs : Nat} (X : am_Cx G cX5_laysRow RX5 "laysRow" rm_X5_laysRow (some .int) 4 bc bs true) : am_S G 45 (t_X5_laysRow_45) := by
  unfold t_X5_laysRow_45
  refine as_iinc (pc := 45) X dX5_laysRow_45 (by decide) (by decide) ?_
  exact as_goto (pc := 48) X 4 dX5_laysRow_48 (by decide) (as_head)
theorem s_X5_laysRow_4 {G : am_G} {bc bs : Nat} (X : am_Cx G cX5_laysRow RX5 "laysRow" rm_X5_laysRow (some .int) 4 bc bs true) : am_S G 4 (t_X5_laysRow_4) := by
  unfold t_X5_laysRow_4
  refine as_iload_n (pc := 4) X dX5_laysRow_4 rfl ?_
  refine as_aload_n (pc := 5) X dX5_laysRow_5 rfl ?_
  refine as_getR (ci := 5) (j := 0) (pc := 6) X (Cn := RX5) (Tf := TX5) (N := 21) rfl rfl (by decide) iw_X5 aw_738 rfl dX5_laysRow_6 ?_
  refine as_bipush (pc := 9) X dX5_laysRow_9 (by decide) ?_
  refine as_iald (pc := 11) X dX5_laysRow_11 ?_
  refine as_ic_ge (pc := 12) X 51 dX5_laysRow_12 (by decide) (s_X5_laysRow_51 X) ?_
  refine as_aload_n (pc := 15) X dX5_laysRow_15 rfl ?_
  refine as_getR (ci := 5) (j := 11) (pc := 16) X (Cn := RX5) (Tf := TX5) (N := 21) rfl rfl (by decide) iw_X5 aw_749 rfl dX5_laysRow_16 ?_
  refine as_aload_n (pc := 19) X dX5_laysRow_19 rfl ?_
  refine as_getR (ci := 5) (j := 6) (pc := 20) X (Cn := RX5) (Tf := TX5) (N := 21) rfl rfl (by decide) iw_X5 aw_744 rfl dX5_laysRow_20 ?_
  refine as_iload_n (pc := 23) X dX5_laysRow_23 rfl ?_
  refine as_iald (pc := 24) X dX5_laysRow_24 ?_
  refine as_iald (pc := 25) X dX5_laysRow_25 ?_
  refine as_iload_n (pc := 26) X dX5_laysRow_26 rfl ?_
  refine as_ic_ne (pc := 27) X 45 dX5_laysRow_27 (by decide) (s_X5_laysRow_45 X) ?_
  refine as_aload_n (pc := 30) X dX5_laysRow_30 rfl ?_
  refine as_getR (ci := 5) (j := 15) (pc := 31) X (Cn := RX5) (Tf := TX5) (N := 21) rfl rfl (by decide) iw_X5 aw_753 rfl dX5_laysRow_31 ?_
  refine as_iload_n (pc := 34) X dX5_laysRow_34 rfl ?_
  refine as_aload_n (pc := 35) X dX5_laysRow_35 rfl ?_
  refine as_getR (ci := 5) (j := 6) (pc := 36) X (Cn := RX5) (Tf := TX5) (N := 21) rfl rfl (by decide) iw_X5 aw_744 rfl dX5_laysRow_36 ?_
  refine as_iload_n (pc := 39) X dX5_laysRow_39 rfl ?_
  refine as_iald (pc := 40) X dX5_laysRow_40 ?_
  refine as_iast (pc := 41) X dX5_laysRow_41 ?_
  refine as_iinc (pc := 42) X dX5_laysRow_42 (by decide) (by decide) ?_
  exact s_X5_laysRow_45 X
theorem s_X5_laysRow_0 {G : am_G} {bc bs : Nat} (X : am_Cx G cX5_laysRow RX5 "laysRow" rm_X5_laysRow (some .int) 4 bc bs true) : am_S G 0 (t_X5_laysRow_0) := by
  unfold t_X5_laysRow_0
  refine as_iconst (pc := 0) X dX5_laysRow_0 (by decide) ?_
  refine as_istore_n (pc := 1) X dX5_laysRow_1 rfl ?_ (by decide)
  refine as_iconst (pc := 2) X dX5_laysRow_2 (by decide) ?_
  refine as_istore_n (pc := 3) X dX5_laysRow_3 rfl ?_ (by decide)
  exact as_head
theorem s_X5_laysRow {G : am_G} {bc bs : Nat} (X : am_Cx G cX5_laysRow RX5 "laysRow" rm_X5_laysRow (some .int) 4 bc bs true) (h : Nat) : am_S G h (h_X5_laysRow h) := by
  unfold h_X5_laysRow
  split
  · next e => rw [e]; exact s_X5_laysRow_0 X
  split
  · next e => rw [e]; exact s_X5_laysRow_4 X
  exact as_bad
theorem ct_X5_laysRow : am_Ct yX5_laysRow cX5_laysRow 4 (some .int) rm_X5_laysRow sp_X5_laysRow := am_met (own := RX5) (nm := "laysRow") (by decide) rfl rfl (Or.inr (Or.inl rfl)) (fun _ _ => h_X5_laysRow) (fun _ _ _ X => s_X5_laysRow X) (fun _ _ _ _ h => h)
-- X5_writers
theorem dX5_writers_0 : decode cX5_writers 0 = .ok (.iconst 0, 1) := by decide +kernel
theorem dX5_writers_1 : decode cX5_writers 1 = .ok (.istore_n 2, 1) := by decide +kernel
theorem dX5_writers_2 : decode cX5_writers 2 = .ok (.iconst 0, 1) := by decide +kernel
theorem dX5_writers_3 : decode cX5_writers 3 = .ok (.istore_n 3, 1) := by decide +kernel
theorem dX5_writers_4 : decode cX5_writers 4 = .ok (.iload_n 3, 1) := by decide +kernel
theorem dX5_writers_5 : decode cX5_writers 5 = .ok (.iload_n 1, 1) := by decide +kernel
theorem dX5_writers_6 : decode cX5_writers 6 = .ok (.if_icmp .ge 28, 3) := by decide +kernel
theorem dX5_writers_9 : decode cX5_writers 9 = .ok (.iload_n 2, 1) := by decide +kernel
theorem dX5_writers_10 : decode cX5_writers 10 = .ok (.iconst 1, 1) := by decide +kernel
theorem dX5_writers_11 : decode cX5_writers 11 = .ok (.aload_n 0, 1) := by decide +kernel
theorem dX5_writers_12 : decode cX5_writers 12 = .ok (.getfield 7, 3) := by decide +kernel
theorem dX5_writers_15 : decode cX5_writers 15 = .ok (.aload_n 0, 1) := by decide +kernel
theorem dX5_writers_16 : decode cX5_writers 16 = .ok (.getfield 46, 3) := by decide +kernel
theorem dX5_writers_19 : decode cX5_writers 19 = .ok (.iload_n 3, 1) := by decide +kernel
theorem dX5_writers_20 : decode cX5_writers 20 = .ok (.iaload, 1) := by decide +kernel
theorem dX5_writers_21 : decode cX5_writers 21 = .ok (.iconst 1, 1) := by decide +kernel
theorem dX5_writers_22 : decode cX5_writers 22 = .ok (.invokestatic 71, 3) := by decide +kernel
theorem dX5_writers_25 : decode cX5_writers 25 = .ok (.ishl, 1) := by decide +kernel
theorem dX5_writers_26 : decode cX5_writers 26 = .ok (.ior, 1) := by decide +kernel
theorem dX5_writers_27 : decode cX5_writers 27 = .ok (.istore_n 2, 1) := by decide +kernel
theorem dX5_writers_28 : decode cX5_writers 28 = .ok (.iinc 3 1, 3) := by decide +kernel
theorem dX5_writers_31 : decode cX5_writers 31 = .ok (.goto (-27), 3) := by decide +kernel
theorem dX5_writers_34 : decode cX5_writers 34 = .ok (.iload_n 2, 1) := by decide +kernel
theorem dX5_writers_35 : decode cX5_writers 35 = .ok (.ireturn, 1) := by decide +kernel
def t_X5_writers_34 : am_T := tb_iload 2 <|
  tb_iret
def t_X5_writers_4 : am_T := tb_iload 3 <|
  tb_iload 1 <|
  tb_ic (fun x y => y ≤ x) (t_X5_writers_34) <|
  tb_iload 2 <|
  tb_const 1 <|
  tb_aload 0 <|
  tb_getR 5 0 <|
  tb_aload 0 <|
  tb_getR 5 15 <|
  tb_iload 3 <|
  tb_iald <|
  tb_const 1 <|
  tb_callS sp_X5_of 3 <|
  tb_bin (fun x y => x <<< (y &&& 31)) <|
  tb_bin (fun x y => x ||| y) <|
  tb_istore 2 <|
  tb_iinc 3 1 <|
  tb_head 4
def t_X5_writers_0 : am_T := tb_const 0 <|
  tb_istore 2 <|
  tb_const 0 <|
  tb_istore 3 <|
  tb_head 4
def h_X5_writers : am_Hd := fun h => if h = 0 then t_X5_writers_0 else if h = 4 then t_X5_writers_4 else tb_bad
theorem h_X5_writers_0 : h_X5_writers 0 = t_X5_writers_0 := rfl
theorem h_X5_writers_4 : h_X5_writers 4 = t_X5_writers_4 := rfl
def rm_X5_writers : Room := { frames := 1, cells := 0, slots := 0, locals := 22 }
def sp_X5_writers : am_sp := fun as M Q => as.length ≤ 4 ∧ am_OK h_X5_writers Q 0 (am_in 4 as) M
theorem s_X5_writers_34 {G : am_G} {bc bs : Nat} (X : am_Cx G cX5_writers RX5 "writers" rm_X5_writers (some .int) 4 bc bs true) : am_S G 34 (t_X5_writers_34) := by
  unfold t_X5_writers_34
  refine as_iload_n (pc := 34) X dX5_writers_34 rfl ?_
  exact as_iret (pc := 35) X ⟨rfl, rfl⟩ rfl dX5_writers_35
theorem s_X5_writers_4 {G : am_G} {bc bs : Nat} (X : am_Cx G cX5_writers RX5 "writers" rm_X5_writers (some .int) 4 bc bs true) : am_S G 4 (t_X5_writers_4) := by
  unfold t_X5_writers_4
  refine as_iload_n (pc := 4) X dX5_writers_4 rfl ?_
  refine as_iload_n (pc := 5) X dX5_writers_5 rfl ?_
  refine as_ic_ge (pc := 6) X 34 dX5_writers_6 (by decide) (s_X5_writers_34 X) ?_
  refine as_iload_n (pc := 9) X dX5_writers_9 rfl ?_
  refine as_iconst (pc := 10) X dX5_writers_10 (by decide) ?_
  refine as_aload_n (pc := 11) X dX5_writers_11 rfl ?_
  refine as_getR (ci := 5) (j := 0) (pc := 12) X (Cn := RX5) (Tf := TX5) (N := 21) rfl rfl (by decide) iw_X5 aw_738 rfl dX5_writers_12 ?_
  refine as_aload_n (pc := 15) X dX5_writers_15 rfl ?_
  refine as_getR (ci := 5) (j := 15) (pc := 16) X (Cn := RX5) (Tf := TX5) (N := 21) rfl rfl (by decide) iw_X5 aw_753 rfl dX5_writers_16 ?_
  refine as_iload_n (pc := 19) X dX5_writers_19 rfl ?_
  refine as_iald (pc := 20) X dX5_writers_20 ?_
  refine as_iconst (pc := 21) X dX5_writers_21 (by decide) ?_
  refine as_callS (np := 3) (ix := 71) (pc := 22) X ct_X5_of ⟨rfl, rfl⟩ aw_873 aw_874 aw_875 aw_65 (by decide +kernel) (by decide) dX5_writers_22 ?_
  refine as_ishl (pc := 25) X dX5_writers_25 ?_
  refine as_ior (pc := 26) X dX5_writers_26 ?_
  refine as_istore_n (pc := 27) X dX5_writers_27 rfl ?_ (by decide)
  refine as_iinc (pc := 28) X dX5_writers_28 (by decide) (by decide) ?_
  exact as_goto (pc := 31) X 4 dX5_writers_31 (by decide) (as_head)
theorem s_X5_writers_0 {G : am_G} {bc bs : Nat} (X : am_Cx G cX5_writers RX5 "writers" rm_X5_writers (some .int) 4 bc bs true) : am_S G 0 (t_X5_writers_0) := by
  unfold t_X5_writers_0
  refine as_iconst (pc := 0) X dX5_writers_0 (by decide) ?_
  refine as_istore_n (pc := 1) X dX5_writers_1 rfl ?_ (by decide)
  refine as_iconst (pc := 2) X dX5_writers_2 (by decide) ?_
  refine as_istore_n (pc := 3) X dX5_writers_3 rfl ?_ (by decide)
  exact as_head
theorem s_X5_writers {G : am_G} {bc bs : Nat} (X : am_Cx G cX5_writers RX5 "writers" rm_X5_writers (some .int) 4 bc bs true) (h : Nat) : am_S G h (h_X5_writers h) := by
  unfold h_X5_writers
  split
  · next e => rw [e]; exact s_X5_writers_0 X
  split
  · next e => rw [e]; exact s_X5_writers_4 X
  exact as_bad
theorem ct_X5_writers : am_Ct yX5_writers cX5_writers 4 (some .int) rm_X5_writers sp_X5_writers := am_met (own := RX5) (nm := "writers") (by decide) rfl rfl (Or.inr (Or.inl rfl)) (fun _ _ => h_X5_writers) (fun _ _ _ X => s_X5_writers X) (fun _ _ _ _ h => h)
-- X5_widest
theorem dX5_widest_0 : decode cX5_widest 0 = .ok (.iconst 0, 1) := by decide +kernel
theorem dX5_widest_1 : decode cX5_widest 1 = .ok (.istore_n 2, 1) := by decide +kernel
theorem dX5_widest_2 : decode cX5_widest 2 = .ok (.iconst 1, 1) := by decide +kernel
theorem dX5_widest_3 : decode cX5_widest 3 = .ok (.istore_n 3, 1) := by decide +kernel
theorem dX5_widest_4 : decode cX5_widest 4 = .ok (.iload_n 3, 1) := by decide +kernel
theorem dX5_widest_5 : decode cX5_widest 5 = .ok (.iload_n 1, 1) := by decide +kernel
theorem dX5_widest_6 : decode cX5_widest 6 = .ok (.if_icmp .ge 55, 3) := by decide +kernel
theorem dX5_widest_9 : decode cX5_widest 9 = .ok (.aload_n 0, 1) := by decide +kernel
theorem dX5_widest_10 : decode cX5_widest 10 = .ok (.getfield 7, 3) := by decide +kernel
theorem dX5_widest_13 : decode cX5_widest 13 = .ok (.aload_n 0, 1) := by decide +kernel
theorem dX5_widest_14 : decode cX5_widest 14 = .ok (.getfield 46, 3) := by decide +kernel
theorem dX5_widest_17 : decode cX5_widest 17 = .ok (.iload_n 3, 1) := by decide +kernel
theorem dX5_widest_18 : decode cX5_widest 18 = .ok (.iaload, 1) := by decide +kernel
theorem dX5_widest_19 : decode cX5_widest 19 = .ok (.iconst 0, 1) := by decide +kernel
theorem dX5_widest_20 : decode cX5_widest 20 = .ok (.invokestatic 71, 3) := by decide +kernel
theorem dX5_widest_23 : decode cX5_widest 23 = .ok (.aload_n 0, 1) := by decide +kernel
theorem dX5_widest_24 : decode cX5_widest 24 = .ok (.getfield 7, 3) := by decide +kernel
theorem dX5_widest_27 : decode cX5_widest 27 = .ok (.aload_n 0, 1) := by decide +kernel
theorem dX5_widest_28 : decode cX5_widest 28 = .ok (.getfield 46, 3) := by decide +kernel
theorem dX5_widest_31 : decode cX5_widest 31 = .ok (.iload_n 3, 1) := by decide +kernel
theorem dX5_widest_32 : decode cX5_widest 32 = .ok (.iconst 1, 1) := by decide +kernel
theorem dX5_widest_33 : decode cX5_widest 33 = .ok (.isub, 1) := by decide +kernel
theorem dX5_widest_34 : decode cX5_widest 34 = .ok (.iaload, 1) := by decide +kernel
theorem dX5_widest_35 : decode cX5_widest 35 = .ok (.iconst 0, 1) := by decide +kernel
theorem dX5_widest_36 : decode cX5_widest 36 = .ok (.invokestatic 71, 3) := by decide +kernel
theorem dX5_widest_39 : decode cX5_widest 39 = .ok (.isub, 1) := by decide +kernel
theorem dX5_widest_40 : decode cX5_widest 40 = .ok (.istore 4, 2) := by decide +kernel
theorem dX5_widest_42 : decode cX5_widest 42 = .ok (.iload 4, 2) := by decide +kernel
theorem dX5_widest_44 : decode cX5_widest 44 = .ok (.iload_n 2, 1) := by decide +kernel
theorem dX5_widest_45 : decode cX5_widest 45 = .ok (.if_icmp .le 8, 3) := by decide +kernel
theorem dX5_widest_48 : decode cX5_widest 48 = .ok (.iload 4, 2) := by decide +kernel
theorem dX5_widest_50 : decode cX5_widest 50 = .ok (.goto 4, 3) := by decide +kernel
theorem dX5_widest_53 : decode cX5_widest 53 = .ok (.iload_n 2, 1) := by decide +kernel
theorem dX5_widest_54 : decode cX5_widest 54 = .ok (.istore_n 2, 1) := by decide +kernel
theorem dX5_widest_55 : decode cX5_widest 55 = .ok (.iinc 3 1, 3) := by decide +kernel
theorem dX5_widest_58 : decode cX5_widest 58 = .ok (.goto (-54), 3) := by decide +kernel
theorem dX5_widest_61 : decode cX5_widest 61 = .ok (.iload_n 2, 1) := by decide +kernel
theorem dX5_widest_62 : decode cX5_widest 62 = .ok (.ireturn, 1) := by decide +kernel
def t_X5_widest_61 : am_T := tb_iload 2 <|
  tb_iret
def t_X5_widest_54 : am_T := tb_istore 2 <|
  tb_iinc 3 1 <|
  tb_head 4
def t_X5_widest_53 : am_T := tb_iload 2 <|
  t_X5_widest_54
def t_X5_widest_4 : am_T := tb_iload 3 <|
  tb_iload 1 <|
  tb_ic (fun x y => y ≤ x) (t_X5_widest_61) <|
  tb_aload 0 <|
  tb_getR 5 0 <|
  tb_aload 0 <|
  tb_getR 5 15 <|
  tb_iload 3 <|
  tb_iald <|
  tb_const 0 <|
  tb_callS sp_X5_of 3 <|
  tb_aload 0 <|
  tb_getR 5 0 <|
  tb_aload 0 <|
  tb_getR 5 15 <|
  tb_iload 3 <|
  tb_const 1 <|
  tb_bin (fun x y => x - y) <|
  tb_iald <|
  tb_const 0 <|
  tb_callS sp_X5_of 3 <|
  tb_bin (fun x y => x - y) <|
  tb_istore 4 <|
  tb_iload 4 <|
  tb_iload 2 <|
  tb_ic (fun x y => x ≤ y) (t_X5_widest_53) <|
  tb_iload 4 <|
  t_X5_widest_54
def t_X5_widest_0 : am_T := tb_const 0 <|
  tb_istore 2 <|
  tb_const 1 <|
  tb_istore 3 <|
  tb_head 4
def h_X5_widest : am_Hd := fun h => if h = 0 then t_X5_widest_0 else if h = 4 then t_X5_widest_4 else tb_bad
theorem h_X5_widest_0 : h_X5_widest 0 = t_X5_widest_0 := rfl
theorem h_X5_widest_4 : h_X5_widest 4 = t_X5_widest_4 := rfl
def rm_X5_widest : Room := { frames := 1, cells := 0, slots := 0, locals := 22 }
def sp_X5_widest : am_sp := fun as M Q => as.length ≤ 5 ∧ am_OK h_X5_widest Q 0 (am_in 5 as) M
theorem s_X5_widest_61 {G : am_G} {bc bs : Nat} (X : am_Cx G cX5_widest RX5 "widest" rm_X5_widest (some .int) 5 bc bs true) : am_S G 61 (t_X5_widest_61) := by
  unfold t_X5_widest_61
  refine as_iload_n (pc := 61) X dX5_widest_61 rfl ?_
  exact as_iret (pc := 62) X ⟨rfl, rfl⟩ rfl dX5_widest_62
theorem s_X5_widest_54 {G : am_G} {bc bs : Nat} (X : am_Cx G cX5_widest RX5 "widest" rm_X5_widest (some .int) 5 bc bs true) : am_S G 54 (t_X5_widest_54) := by
  unfold t_X5_widest_54
  refine as_istore_n (pc := 54) X dX5_widest_54 rfl ?_ (by decide)
  refine as_iinc (pc := 55) X dX5_widest_55 (by decide) (by decide) ?_
  exact as_goto (pc := 58) X 4 dX5_widest_58 (by decide) (as_head)
theorem s_X5_widest_53 {G : am_G} {bc bs : Nat} (X : am_Cx G cX5_widest RX5 "widest" rm_X5_widest (some .int) 5 bc bs true) : am_S G 53 (t_X5_widest_53) := by
  unfold t_X5_widest_53
  refine as_iload_n (pc := 53) X dX5_widest_53 rfl ?_
  exact s_X5_widest_54 X
theorem s_X5_widest_4 {G : am_G} {bc bs : Nat} (X : am_Cx G cX5_widest RX5 "widest" rm_X5_widest (some .int) 5 bc bs true) : am_S G 4 (t_X5_widest_4) := by
  unfold t_X5_widest_4
  refine as_iload_n (pc := 4) X dX5_widest_4 rfl ?_
  refine as_iload_n (pc := 5) X dX5_widest_5 rfl ?_
  refine as_ic_ge (pc := 6) X 61 dX5_widest_6 (by decide) (s_X5_widest_61 X) ?_
  refine as_aload_n (pc := 9) X dX5_widest_9 rfl ?_
  refine as_getR (ci := 5) (j := 0) (pc := 10) X (Cn := RX5) (Tf := TX5) (N := 21) rfl rfl (by decide) iw_X5 aw_738 rfl dX5_widest_10 ?_
  refine as_aload_n (pc := 13) X dX5_widest_13 rfl ?_
  refine as_getR (ci := 5) (j := 15) (pc := 14) X (Cn := RX5) (Tf := TX5) (N := 21) rfl rfl (by decide) iw_X5 aw_753 rfl dX5_widest_14 ?_
  refine as_iload_n (pc := 17) X dX5_widest_17 rfl ?_
  refine as_iald (pc := 18) X dX5_widest_18 ?_
  refine as_iconst (pc := 19) X dX5_widest_19 (by decide) ?_
  refine as_callS (np := 3) (ix := 71) (pc := 20) X ct_X5_of ⟨rfl, rfl⟩ aw_873 aw_874 aw_875 aw_65 (by decide +kernel) (by decide) dX5_widest_20 ?_
  refine as_aload_n (pc := 23) X dX5_widest_23 rfl ?_
  refine as_getR (ci := 5) (j := 0) (pc := 24) X (Cn := RX5) (Tf := TX5) (N := 21) rfl rfl (by decide) iw_X5 aw_738 rfl dX5_widest_24 ?_
  refine as_aload_n (pc := 27) X dX5_widest_27 rfl ?_
  refine as_getR (ci := 5) (j := 15) (pc := 28) X (Cn := RX5) (Tf := TX5) (N := 21) rfl rfl (by decide) iw_X5 aw_753 rfl dX5_widest_28 ?_
  refine as_iload_n (pc := 31) X dX5_widest_31 rfl ?_
  refine as_iconst (pc := 32) X dX5_widest_32 (by decide) ?_
  refine as_isub (pc := 33) X dX5_widest_33 ?_
  refine as_iald (pc := 34) X dX5_widest_34 ?_
  refine as_iconst (pc := 35) X dX5_widest_35 (by decide) ?_
  refine as_callS (np := 3) (ix := 71) (pc := 36) X ct_X5_of ⟨rfl, rfl⟩ aw_873 aw_874 aw_875 aw_65 (by decide +kernel) (by decide) dX5_widest_36 ?_
  refine as_isub (pc := 39) X dX5_widest_39 ?_
  refine as_istore (pc := 40) X dX5_widest_40 ?_ (by decide)
  refine as_iload (pc := 42) X dX5_widest_42 ?_
  refine as_iload_n (pc := 44) X dX5_widest_44 rfl ?_
  refine as_ic_le (pc := 45) X 53 dX5_widest_45 (by decide) (s_X5_widest_53 X) ?_
  refine as_iload (pc := 48) X dX5_widest_48 ?_
  exact as_goto (pc := 50) X 54 dX5_widest_50 (by decide) (s_X5_widest_54 X)
theorem s_X5_widest_0 {G : am_G} {bc bs : Nat} (X : am_Cx G cX5_widest RX5 "widest" rm_X5_widest (some .int) 5 bc bs true) : am_S G 0 (t_X5_widest_0) := by
  unfold t_X5_widest_0
  refine as_iconst (pc := 0) X dX5_widest_0 (by decide) ?_
  refine as_istore_n (pc := 1) X dX5_widest_1 rfl ?_ (by decide)
  refine as_iconst (pc := 2) X dX5_widest_2 (by decide) ?_
  refine as_istore_n (pc := 3) X dX5_widest_3 rfl ?_ (by decide)
  exact as_head
theorem s_X5_widest {G : am_G} {bc bs : Nat} (X : am_Cx G cX5_widest RX5 "widest" rm_X5_widest (some .int) 5 bc bs true) (h : Nat) : am_S G h (h_X5_widest h) := by
  unfold h_X5_widest
  split
  · next e => rw [e]; exact s_X5_widest_0 X
  split
  · next e => rw [e]; exact s_X5_widest_4 X
  exact as_bad
theorem ct_X5_widest : am_Ct yX5_widest cX5_widest 5 (some .int) rm_X5_widest sp_X5_widest := am_met (own := RX5) (nm := "widest") (by decide) rfl rfl (Or.inr (Or.inl rfl)) (fun _ _ => h_X5_widest) (fun _ _ _ X => s_X5_widest X) (fun _ _ _ _ h => h)
-- X5_longest
theorem dX5_longest_0 : decode cX5_longest 0 = .ok (.iconst 0, 1) := by decide +kernel
theorem dX5_longest_1 : decode cX5_longest 1 = .ok (.istore_n 2, 1) := by decide +kernel
theorem dX5_longest_2 : decode cX5_longest 2 = .ok (.iconst 0, 1) := by decide +kernel
theorem dX5_longest_3 : decode cX5_longest 3 = .ok (.istore_n 3, 1) := by decide +kernel
theorem dX5_longest_4 : decode cX5_longest 4 = .ok (.iload_n 3, 1) := by decide +kernel
theorem dX5_longest_5 : decode cX5_longest 5 = .ok (.iload_n 1, 1) := by decide +kernel
theorem dX5_longest_6 : decode cX5_longest 6 = .ok (.if_icmp .ge 60, 3) := by decide +kernel
theorem dX5_longest_9 : decode cX5_longest 9 = .ok (.iconst 1, 1) := by decide +kernel
theorem dX5_longest_10 : decode cX5_longest 10 = .ok (.istore 4, 2) := by decide +kernel
theorem dX5_longest_12 : decode cX5_longest 12 = .ok (.aload_n 0, 1) := by decide +kernel
theorem dX5_longest_13 : decode cX5_longest 13 = .ok (.getfield 46, 3) := by decide +kernel
theorem dX5_longest_16 : decode cX5_longest 16 = .ok (.iload_n 3, 1) := by decide +kernel
theorem dX5_longest_17 : decode cX5_longest 17 = .ok (.iaload, 1) := by decide +kernel
theorem dX5_longest_18 : decode cX5_longest 18 = .ok (.istore 5, 2) := by decide +kernel
theorem dX5_longest_20 : decode cX5_longest 20 = .ok (.aload_n 0, 1) := by decide +kernel
theorem dX5_longest_21 : decode cX5_longest 21 = .ok (.getfield 34, 3) := by decide +kernel
theorem dX5_longest_24 : decode cX5_longest 24 = .ok (.iload 5, 2) := by decide +kernel
theorem dX5_longest_26 : decode cX5_longest 26 = .ok (.iaload, 1) := by decide +kernel
theorem dX5_longest_27 : decode cX5_longest 27 = .ok (.bipush (-4), 2) := by decide +kernel
theorem dX5_longest_29 : decode cX5_longest 29 = .ok (.if_icmp .eq 18, 3) := by decide +kernel
theorem dX5_longest_32 : decode cX5_longest 32 = .ok (.iinc 4 1, 3) := by decide +kernel
theorem dX5_longest_35 : decode cX5_longest 35 = .ok (.aload_n 0, 1) := by decide +kernel
theorem dX5_longest_36 : decode cX5_longest 36 = .ok (.getfield 34, 3) := by decide +kernel
theorem dX5_longest_39 : decode cX5_longest 39 = .ok (.iload 5, 2) := by decide +kernel
theorem dX5_longest_41 : decode cX5_longest 41 = .ok (.iaload, 1) := by decide +kernel
theorem dX5_longest_42 : decode cX5_longest 42 = .ok (.istore 5, 2) := by decide +kernel
theorem dX5_longest_44 : decode cX5_longest 44 = .ok (.goto (-24), 3) := by decide +kernel
theorem dX5_longest_47 : decode cX5_longest 47 = .ok (.iload 4, 2) := by decide +kernel
theorem dX5_longest_49 : decode cX5_longest 49 = .ok (.iload_n 2, 1) := by decide +kernel
theorem dX5_longest_50 : decode cX5_longest 50 = .ok (.if_icmp .le 8, 3) := by decide +kernel
theorem dX5_longest_53 : decode cX5_longest 53 = .ok (.iload 4, 2) := by decide +kernel
theorem dX5_longest_55 : decode cX5_longest 55 = .ok (.goto 4, 3) := by decide +kernel
theorem dX5_longest_58 : decode cX5_longest 58 = .ok (.iload_n 2, 1) := by decide +kernel
theorem dX5_longest_59 : decode cX5_longest 59 = .ok (.istore_n 2, 1) := by decide +kernel
theorem dX5_longest_60 : decode cX5_longest 60 = .ok (.iinc 3 1, 3) := by decide +kernel
theorem dX5_longest_63 : decode cX5_longest 63 = .ok (.goto (-59), 3) := by decide +kernel
theorem dX5_longest_66 : decode cX5_longest 66 = .ok (.iload_n 2, 1) := by decide +kernel
theorem dX5_longest_67 : decode cX5_longest 67 = .ok (.ireturn, 1) := by decide +kernel
def t_X5_longest_66 : am_T := tb_iload 2 <|
  tb_iret
def t_X5_longest_59 : am_T := tb_istore 2 <|
  tb_iinc 3 1 <|
  tb_head 4
def t_X5_longest_58 : am_T := tb_iload 2 <|
  t_X5_longest_59
def t_X5_longest_47 : am_T := tb_iload 4 <|
  tb_iload 2 <|
  tb_ic (fun x y => x ≤ y) (t_X5_longest_58) <|
  tb_iload 4 <|
  t_X5_longest_59
def t_X5_longest_20 : am_T := tb_aload 0 <|
  tb_getR 5 10 <|
  tb_iload 5 <|
  tb_iald <|
  tb_const (-4) <|
  tb_ic (fun x y => x = y) (t_X5_longest_47) <|
  tb_iinc 4 1 <|
  tb_aload 0 <|
  tb_getR 5 10 <|
  tb_iload 5 <|
  tb_iald <|
  tb_istore 5 <|
  tb_head 20
def t_X5_longest_4 : am_T := tb_iload 3 <|
  tb_iload 1 <|
  tb_ic (fun x y => y ≤ x) (t_X5_longest_66) <|
  tb_const 1 <|
  tb_istore 4 <|
  tb_aload 0 <|
  tb_getR 5 15 <|
  tb_iload 3 <|
  tb_iald <|
  tb_istore 5 <|
  tb_head 20
def t_X5_longest_0 : am_T := tb_const 0 <|
  tb_istore 2 <|
  tb_const 0 <|
  tb_istore 3 <|
  tb_head 4
def h_X5_longest : am_Hd := fun h => if h = 0 then t_X5_longest_0 else if h = 4 then t_X5_longest_4 else if h = 20 then t_X5_longest_20 else tb_bad
theorem h_X5_longest_0 : h_X5_longest 0 = t_X5_longest_0 := rfl
theorem h_X5_longest_4 : h_X5_longest 4 = t_X5_longest_4 := rfl
theorem h_X5_longest_20 : h_X5_longest 20 = t_X5_longest_20 := rfl
def rm_X5_longest : Room := { frames := 0, cells := 0, slots := 0, locals := 0 }
def sp_X5_longest : am_sp := fun as M Q => as.length ≤ 6 ∧ am_OK h_X5_longest Q 0 (am_in 6 as) M
theorem s_X5_longest_66 {G : am_G} {bc bs : Nat} (X : am_Cx G cX5_longest RX5 "longest" rm_X5_longest (some .int) 6 bc bs true) : am_S G 66 (t_X5_longest_66) := by
  unfold t_X5_longest_66
  refine as_iload_n (pc := 66) X dX5_longest_66 rfl ?_
  exact as_iret (pc := 67) X ⟨rfl, rfl⟩ rfl dX5_longest_67
theorem s_X5_longest_59 {G : am_G} {bc bs : Nat} (X : am_Cx G cX5_longest RX5 "longest" rm_X5_longest (some .int) 6 bc bs true) : am_S G 59 (t_X5_longest_59) := by
  unfold t_X5_longest_59
  refine as_istore_n (pc := 59) X dX5_longest_59 rfl ?_ (by decide)
  refine as_iinc (pc := 60) X dX5_longest_60 (by decide) (by decide) ?_
  exact as_goto (pc := 63) X 4 dX5_longest_63 (by decide) (as_head)
theorem s_X5_longest_58 {G : am_G} {bc bs : Nat} (X : am_Cx G cX5_longest RX5 "longest" rm_X5_longest (some .int) 6 bc bs true) : am_S G 58 (t_X5_longest_58) := by
  unfold t_X5_longest_58
  refine as_iload_n (pc := 58) X dX5_longest_58 rfl ?_
  exact s_X5_longest_59 X
theorem s_X5_longest_47 {G : am_G} {bc bs : Nat} (X : am_Cx G cX5_longest RX5 "longest" rm_X5_longest (some .int) 6 bc bs true) : am_S G 47 (t_X5_longest_47) := by
  unfold t_X5_longest_47
  refine as_iload (pc := 47) X dX5_longest_47 ?_
  refine as_iload_n (pc := 49) X dX5_longest_49 rfl ?_
  refine as_ic_le (pc := 50) X 58 dX5_longest_50 (by decide) (s_X5_longest_58 X) ?_
  refine as_iload (pc := 53) X dX5_longest_53 ?_
  exact as_goto (pc := 55) X 59 dX5_longest_55 (by decide) (s_X5_longest_59 X)
theorem s_X5_longest_20 {G : am_G} {bc bs : Nat} (X : am_Cx G cX5_longest RX5 "longest" rm_X5_longest (some .int) 6 bc bs true) : am_S G 20 (t_X5_longest_20) := by
  unfold t_X5_longest_20
  refine as_aload_n (pc := 20) X dX5_longest_20 rfl ?_
  refine as_getR (ci := 5) (j := 10) (pc := 21) X (Cn := RX5) (Tf := TX5) (N := 21) rfl rfl (by decide) iw_X5 aw_748 rfl dX5_longest_21 ?_
  refine as_iload (pc := 24) X dX5_longest_24 ?_
  refine as_iald (pc := 26) X dX5_longest_26 ?_
  refine as_bipush (pc := 27) X dX5_longest_27 (by decide) ?_
  refine as_ic_eq (pc := 29) X 47 dX5_longest_29 (by decide) (s_X5_longest_47 X) ?_
  refine as_iinc (pc := 32) X dX5_longest_32 (by decide) (by decide) ?_
  refine as_aload_n (pc := 35) X dX5_longest_35 rfl ?_
  refine as_getR (ci := 5) (j := 10) (pc := 36) X (Cn := RX5) (Tf := TX5) (N := 21) rfl rfl (by decide) iw_X5 aw_748 rfl dX5_longest_36 ?_
  refine as_iload (pc := 39) X dX5_longest_39 ?_
  refine as_iald (pc := 41) X dX5_longest_41 ?_
  refine as_istore (pc := 42) X dX5_longest_42 ?_ (by decide)
  exact as_goto (pc := 44) X 20 dX5_longest_44 (by decide) (as_head)
theorem s_X5_longest_4 {G : am_G} {bc bs : Nat} (X : am_Cx G cX5_longest RX5 "longest" rm_X5_longest (some .int) 6 bc bs true) : am_S G 4 (t_X5_longest_4) := by
  unfold t_X5_longest_4
  refine as_iload_n (pc := 4) X dX5_longest_4 rfl ?_
  refine as_iload_n (pc := 5) X dX5_longest_5 rfl ?_
  refine as_ic_ge (pc := 6) X 66 dX5_longest_6 (by decide) (s_X5_longest_66 X) ?_
  refine as_iconst (pc := 9) X dX5_longest_9 (by decide) ?_
  refine as_istore (pc := 10) X dX5_longest_10 ?_ (by decide)
  refine as_aload_n (pc := 12) X dX5_longest_12 rfl ?_
  refine as_getR (ci := 5) (j := 15) (pc := 13) X (Cn := RX5) (Tf := TX5) (N := 21) rfl rfl (by decide) iw_X5 aw_753 rfl dX5_longest_13 ?_
  refine as_iload_n (pc := 16) X dX5_longest_16 rfl ?_
  refine as_iald (pc := 17) X dX5_longest_17 ?_
  refine as_istore (pc := 18) X dX5_longest_18 ?_ (by decide)
  exact as_head
theorem s_X5_longest_0 {G : am_G} {bc bs : Nat} (X : am_Cx G cX5_longest RX5 "longest" rm_X5_longest (some .int) 6 bc bs true) : am_S G 0 (t_X5_longest_0) := by
  unfold t_X5_longest_0
  refine as_iconst (pc := 0) X dX5_longest_0 (by decide) ?_
  refine as_istore_n (pc := 1) X dX5_longest_1 rfl ?_ (by decide)
  refine as_iconst (pc := 2) X dX5_longest_2 (by decide) ?_
  refine as_istore_n (pc := 3) X dX5_longest_3 rfl ?_ (by decide)
  exact as_head
theorem s_X5_longest {G : am_G} {bc bs : Nat} (X : am_Cx G cX5_longest RX5 "longest" rm_X5_longest (some .int) 6 bc bs true) (h : Nat) : am_S G h (h_X5_longest h) := by
  unfold h_X5_longest
  split
  · next e => rw [e]; exact s_X5_longest_0 X
  split
  · next e => rw [e]; exact s_X5_longest_4 X
  split
  · next e => rw [e]; exact s_X5_longest_20 X
  exact as_bad
theorem ct_X5_longest : am_Ct yX5_longest cX5_longest 6 (some .int) rm_X5_longest sp_X5_longest := am_met (own := RX5) (nm := "longest") (by decide) rfl rfl (Or.inr (Or.inl rfl)) (fun _ _ => h_X5_longest) (fun _ _ _ X => s_X5_longest X) (fun _ _ _ _ h => h)
-- X5_threadOf
theorem dX5_threadOf_0 : decode cX5_threadOf 0 = .ok (.aload_n 0, 1) := by decide +kernel
theorem dX5_threadOf_1 : decode cX5_threadOf 1 = .ok (.aload_n 0, 1) := by decide +kernel
theorem dX5_threadOf_2 : decode cX5_threadOf 2 = .ok (.getfield 7, 3) := by decide +kernel
theorem dX5_threadOf_5 : decode cX5_threadOf 5 = .ok (.invokevirtual 145, 3) := by decide +kernel
theorem dX5_threadOf_8 : decode cX5_threadOf 8 = .ok (.iload_n 1, 1) := by decide +kernel
theorem dX5_threadOf_9 : decode cX5_threadOf 9 = .ok (.iconst 0, 1) := by decide +kernel
theorem dX5_threadOf_10 : decode cX5_threadOf 10 = .ok (.aload_n 0, 1) := by decide +kernel
theorem dX5_threadOf_11 : decode cX5_threadOf 11 = .ok (.getfield 117, 3) := by decide +kernel
theorem dX5_threadOf_14 : decode cX5_threadOf 14 = .ok (.iconst 1, 1) := by decide +kernel
theorem dX5_threadOf_15 : decode cX5_threadOf 15 = .ok (.isub, 1) := by decide +kernel
theorem dX5_threadOf_16 : decode cX5_threadOf 16 = .ok (.invokestatic 60, 3) := by decide +kernel
theorem dX5_threadOf_19 : decode cX5_threadOf 19 = .ok (.ifCond .eq 13, 3) := by decide +kernel
theorem dX5_threadOf_22 : decode cX5_threadOf 22 = .ok (.iload_n 2, 1) := by decide +kernel
theorem dX5_threadOf_23 : decode cX5_threadOf 23 = .ok (.iconst 0, 1) := by decide +kernel
theorem dX5_threadOf_24 : decode cX5_threadOf 24 = .ok (.bipush 6, 2) := by decide +kernel
theorem dX5_threadOf_26 : decode cX5_threadOf 26 = .ok (.invokestatic 60, 3) := by decide +kernel
theorem dX5_threadOf_29 : decode cX5_threadOf 29 = .ok (.ifCond .ne 5, 3) := by decide +kernel
theorem dX5_threadOf_32 : decode cX5_threadOf 32 = .ok (.iconst (-1), 1) := by decide +kernel
theorem dX5_threadOf_33 : decode cX5_threadOf 33 = .ok (.ireturn, 1) := by decide +kernel
theorem dX5_threadOf_34 : decode cX5_threadOf 34 = .ok (.aload_n 0, 1) := by decide +kernel
theorem dX5_threadOf_35 : decode cX5_threadOf 35 = .ok (.iload_n 1, 1) := by decide +kernel
theorem dX5_threadOf_36 : decode cX5_threadOf 36 = .ok (.invokevirtual 181, 3) := by decide +kernel
theorem dX5_threadOf_39 : decode cX5_threadOf 39 = .ok (.istore_n 3, 1) := by decide +kernel
theorem dX5_threadOf_40 : decode cX5_threadOf 40 = .ok (.iload_n 2, 1) := by decide +kernel
theorem dX5_threadOf_41 : decode cX5_threadOf 41 = .ok (.tableswitch 101 0 5 #[39, 41, 47, 54, 63, 95], 39) := by decide +kernel
theorem dX5_threadOf_80 : decode cX5_threadOf 80 = .ok (.iload_n 3, 1) := by decide +kernel
theorem dX5_threadOf_81 : decode cX5_threadOf 81 = .ok (.ireturn, 1) := by decide +kernel
theorem dX5_threadOf_82 : decode cX5_threadOf 82 = .ok (.aload_n 0, 1) := by decide +kernel
theorem dX5_threadOf_83 : decode cX5_threadOf 83 = .ok (.iload_n 3, 1) := by decide +kernel
theorem dX5_threadOf_84 : decode cX5_threadOf 84 = .ok (.invokevirtual 184, 3) := by decide +kernel
theorem dX5_threadOf_87 : decode cX5_threadOf 87 = .ok (.ireturn, 1) := by decide +kernel
theorem dX5_threadOf_88 : decode cX5_threadOf 88 = .ok (.aload_n 0, 1) := by decide +kernel
theorem dX5_threadOf_89 : decode cX5_threadOf 89 = .ok (.getfield 46, 3) := by decide +kernel
theorem dX5_threadOf_92 : decode cX5_threadOf 92 = .ok (.iconst 0, 1) := by decide +kernel
theorem dX5_threadOf_93 : decode cX5_threadOf 93 = .ok (.iaload, 1) := by decide +kernel
theorem dX5_threadOf_94 : decode cX5_threadOf 94 = .ok (.ireturn, 1) := by decide +kernel
theorem dX5_threadOf_95 : decode cX5_threadOf 95 = .ok (.aload_n 0, 1) := by decide +kernel
theorem dX5_threadOf_96 : decode cX5_threadOf 96 = .ok (.getfield 46, 3) := by decide +kernel
theorem dX5_threadOf_99 : decode cX5_threadOf 99 = .ok (.iload_n 3, 1) := by decide +kernel
theorem dX5_threadOf_100 : decode cX5_threadOf 100 = .ok (.iconst 1, 1) := by decide +kernel
theorem dX5_threadOf_101 : decode cX5_threadOf 101 = .ok (.isub, 1) := by decide +kernel
theorem dX5_threadOf_102 : decode cX5_threadOf 102 = .ok (.iaload, 1) := by decide +kernel
theorem dX5_threadOf_103 : decode cX5_threadOf 103 = .ok (.ireturn, 1) := by decide +kernel
theorem dX5_threadOf_104 : decode cX5_threadOf 104 = .ok (.aload_n 0, 1) := by decide +kernel
theorem dX5_threadOf_105 : decode cX5_threadOf 105 = .ok (.getfield 7, 3) := by decide +kernel
theorem dX5_threadOf_108 : decode cX5_threadOf 108 = .ok (.aload_n 0, 1) := by decide +kernel
theorem dX5_threadOf_109 : decode cX5_threadOf 109 = .ok (.getfield 46, 3) := by decide +kernel
theorem dX5_threadOf_112 : decode cX5_threadOf 112 = .ok (.iload_n 3, 1) := by decide +kernel
theorem dX5_threadOf_113 : decode cX5_threadOf 113 = .ok (.iconst 1, 1) := by decide +kernel
theorem dX5_threadOf_114 : decode cX5_threadOf 114 = .ok (.isub, 1) := by decide +kernel
theorem dX5_threadOf_115 : decode cX5_threadOf 115 = .ok (.iaload, 1) := by decide +kernel
theorem dX5_threadOf_116 : decode cX5_threadOf 116 = .ok (.iconst 0, 1) := by decide +kernel
theorem dX5_threadOf_117 : decode cX5_threadOf 117 = .ok (.invokestatic 71, 3) := by decide +kernel
theorem dX5_threadOf_120 : decode cX5_threadOf 120 = .ok (.aload_n 0, 1) := by decide +kernel
theorem dX5_threadOf_121 : decode cX5_threadOf 121 = .ok (.getfield 7, 3) := by decide +kernel
theorem dX5_threadOf_124 : decode cX5_threadOf 124 = .ok (.aload_n 0, 1) := by decide +kernel
theorem dX5_threadOf_125 : decode cX5_threadOf 125 = .ok (.getfield 46, 3) := by decide +kernel
theorem dX5_threadOf_128 : decode cX5_threadOf 128 = .ok (.iconst 0, 1) := by decide +kernel
theorem dX5_threadOf_129 : decode cX5_threadOf 129 = .ok (.iaload, 1) := by decide +kernel
theorem dX5_threadOf_130 : decode cX5_threadOf 130 = .ok (.iconst 0, 1) := by decide +kernel
theorem dX5_threadOf_131 : decode cX5_threadOf 131 = .ok (.invokestatic 71, 3) := by decide +kernel
theorem dX5_threadOf_134 : decode cX5_threadOf 134 = .ok (.isub, 1) := by decide +kernel
theorem dX5_threadOf_135 : decode cX5_threadOf 135 = .ok (.ireturn, 1) := by decide +kernel
theorem dX5_threadOf_136 : decode cX5_threadOf 136 = .ok (.aload_n 0, 1) := by decide +kernel
theorem dX5_threadOf_137 : decode cX5_threadOf 137 = .ok (.iload_n 3, 1) := by decide +kernel
theorem dX5_threadOf_138 : decode cX5_threadOf 138 = .ok (.invokevirtual 187, 3) := by decide +kernel
theorem dX5_threadOf_141 : decode cX5_threadOf 141 = .ok (.ireturn, 1) := by decide +kernel
theorem dX5_threadOf_142 : decode cX5_threadOf 142 = .ok (.aload_n 0, 1) := by decide +kernel
theorem dX5_threadOf_143 : decode cX5_threadOf 143 = .ok (.iload_n 3, 1) := by decide +kernel
theorem dX5_threadOf_144 : decode cX5_threadOf 144 = .ok (.invokevirtual 190, 3) := by decide +kernel
theorem dX5_threadOf_147 : decode cX5_threadOf 147 = .ok (.ireturn, 1) := by decide +kernel
def t_X5_threadOf_142 : am_T := tb_aload 0 <|
  tb_iload 3 <|
  tb_callV 5 sp_X5_longest 2 <|
  tb_iret
def t_X5_threadOf_136 : am_T := tb_aload 0 <|
  tb_iload 3 <|
  tb_callV 5 sp_X5_widest 2 <|
  tb_iret
def t_X5_threadOf_104 : am_T := tb_aload 0 <|
  tb_getR 5 0 <|
  tb_aload 0 <|
  tb_getR 5 15 <|
  tb_iload 3 <|
  tb_const 1 <|
  tb_bin (fun x y => x - y) <|
  tb_iald <|
  tb_const 0 <|
  tb_callS sp_X5_of 3 <|
  tb_aload 0 <|
  tb_getR 5 0 <|
  tb_aload 0 <|
  tb_getR 5 15 <|
  tb_const 0 <|
  tb_iald <|
  tb_const 0 <|
  tb_callS sp_X5_of 3 <|
  tb_bin (fun x y => x - y) <|
  tb_iret
def t_X5_threadOf_95 : am_T := tb_aload 0 <|
  tb_getR 5 15 <|
  tb_iload 3 <|
  tb_const 1 <|
  tb_bin (fun x y => x - y) <|
  tb_iald <|
  tb_iret
def t_X5_threadOf_88 : am_T := tb_aload 0 <|
  tb_getR 5 15 <|
  tb_const 0 <|
  tb_iald <|
  tb_iret
def t_X5_threadOf_82 : am_T := tb_aload 0 <|
  tb_iload 3 <|
  tb_callV 5 sp_X5_writers 2 <|
  tb_iret
def t_X5_threadOf_80 : am_T := tb_iload 3 <|
  tb_iret
def w_X5_threadOf_41 : Nat → am_T := fun j => match j with
    | 0 => t_X5_threadOf_80
    | 1 => t_X5_threadOf_82
    | 2 => t_X5_threadOf_88
    | 3 => t_X5_threadOf_95
    | 4 => t_X5_threadOf_104
    | 5 => t_X5_threadOf_136
    | _ => tb_bad
def v_X5_threadOf_41 : Nat → Nat := fun j => match j with
    | 0 => 80
    | 1 => 82
    | 2 => 88
    | 3 => 95
    | 4 => 104
    | 5 => 136
    | _ => 0
def t_X5_threadOf_34 : am_T := tb_aload 0 <|
  tb_iload 1 <|
  tb_callV 5 sp_X5_laysRow 2 <|
  tb_istore 3 <|
  tb_iload 2 <|
  tb_sw 0 5 w_X5_threadOf_41 (t_X5_threadOf_142)
def t_X5_threadOf_32 : am_T := tb_const (-1) <|
  tb_iret
def t_X5_threadOf_0 : am_T := tb_aload 0 <|
  tb_aload 0 <|
  tb_getR 5 0 <|
  tb_callV 5 sp_X5_lays 2 <|
  tb_iload 1 <|
  tb_const 0 <|
  tb_aload 0 <|
  tb_getI 5 14 <|
  tb_const 1 <|
  tb_bin (fun x y => x - y) <|
  tb_callS sp_X5_in 3 <|
  tb_if (fun x => x = 0) (t_X5_threadOf_32) <|
  tb_iload 2 <|
  tb_const 0 <|
  tb_const 6 <|
  tb_callS sp_X5_in 3 <|
  tb_if (fun x => x ≠ 0) (t_X5_threadOf_34) <|
  t_X5_threadOf_32
def h_X5_threadOf : am_Hd := fun h => if h = 0 then t_X5_threadOf_0 else tb_bad
theorem h_X5_threadOf_0 : h_X5_threadOf 0 = t_X5_threadOf_0 := rfl
def rm_X5_threadOf : Room := { frames := 6, cells := 0, slots := 0, locals := 145 }
def sp_X5_threadOf : am_sp := fun as M Q => as.length ≤ 4 ∧ am_OK h_X5_threadOf Q 0 (am_in 4 as) M
theorem s_X5_threadOf_142 {G : am_G} {bc bs : Nat} (X : am_Cx G cX5_threadOf RX5 "threadOf" rm_X5_threadOf (some .int) 4 bc bs true) : am_S G 142 (t_X5_threadOf_142) := by
  unfold t_X5_threadOf_142
  refine as_aload_n (pc := 142) X dX5_threadOf_142 rfl ?_
  refine as_iload_n (pc := 143) X dX5_threadOf_143 rfl ?_
  refine as_callV (ci := 5) (np := 1) (ix := 190) (pc := 144) X ct_X5_longest (Cn := (RX5, TX5, 21)) rfl ⟨rfl, rfl⟩ aw_1002 aw_1004 aw_49 aw_1005 aw_65 (by decide +kernel) (by decide) dX5_threadOf_144 ?_
  exact as_iret (pc := 147) X ⟨rfl, rfl⟩ rfl dX5_threadOf_147
theorem s_X5_threadOf_136 {G : am_G} {bc bs : Nat} (X : am_Cx G cX5_threadOf RX5 "threadOf" rm_X5_threadOf (some .int) 4 bc bs true) : am_S G 136 (t_X5_threadOf_136) := by
  unfold t_X5_threadOf_136
  refine as_aload_n (pc := 136) X dX5_threadOf_136 rfl ?_
  refine as_iload_n (pc := 137) X dX5_threadOf_137 rfl ?_
  refine as_callV (ci := 5) (np := 1) (ix := 187) (pc := 138) X ct_X5_widest (Cn := (RX5, TX5, 21)) rfl ⟨rfl, rfl⟩ aw_998 aw_1000 aw_48 aw_1001 aw_65 (by decide +kernel) (by decide) dX5_threadOf_138 ?_
  exact as_iret (pc := 141) X ⟨rfl, rfl⟩ rfl dX5_threadOf_141
theorem s_X5_threadOf_104 {G : am_G} {bc bs : Nat} (X : am_Cx G cX5_threadOf RX5 "threadOf" rm_X5_threadOf (some .int) 4 bc bs true) : am_S G 104 (t_X5_threadOf_104) := by
  unfold t_X5_threadOf_104
  refine as_aload_n (pc := 104) X dX5_threadOf_104 rfl ?_
  refine as_getR (ci := 5) (j := 0) (pc := 105) X (Cn := RX5) (Tf := TX5) (N := 21) rfl rfl (by decide) iw_X5 aw_738 rfl dX5_threadOf_105 ?_
  refine as_aload_n (pc := 108) X dX5_threadOf_108 rfl ?_
  refine as_getR (ci := 5) (j := 15) (pc := 109) X (Cn := RX5) (Tf := TX5) (N := 21) rfl rfl (by decide) iw_X5 aw_753 rfl dX5_threadOf_109 ?_
  refine as_iload_n (pc := 112) X dX5_threadOf_112 rfl ?_
  refine as_iconst (pc := 113) X dX5_threadOf_113 (by decide) ?_
  refine as_isub (pc := 114) X dX5_threadOf_114 ?_
  refine as_iald (pc := 115) X dX5_threadOf_115 ?_
  refine as_iconst (pc := 116) X dX5_threadOf_116 (by decide) ?_
  refine as_callS (np := 3) (ix := 71) (pc := 117) X ct_X5_of ⟨rfl, rfl⟩ aw_873 aw_874 aw_875 aw_65 (by decide +kernel) (by decide) dX5_threadOf_117 ?_
  refine as_aload_n (pc := 120) X dX5_threadOf_120 rfl ?_
  refine as_getR (ci := 5) (j := 0) (pc := 121) X (Cn := RX5) (Tf := TX5) (N := 21) rfl rfl (by decide) iw_X5 aw_738 rfl dX5_threadOf_121 ?_
  refine as_aload_n (pc := 124) X dX5_threadOf_124 rfl ?_
  refine as_getR (ci := 5) (j := 15) (pc := 125) X (Cn := RX5) (Tf := TX5) (N := 21) rfl rfl (by decide) iw_X5 aw_753 rfl dX5_threadOf_125 ?_
  refine as_iconst (pc := 128) X dX5_threadOf_128 (by decide) ?_
  refine as_iald (pc := 129) X dX5_threadOf_129 ?_
  refine as_iconst (pc := 130) X dX5_threadOf_130 (by decide) ?_
  refine as_callS (np := 3) (ix := 71) (pc := 131) X ct_X5_of ⟨rfl, rfl⟩ aw_873 aw_874 aw_875 aw_65 (by decide +kernel) (by decide) dX5_threadOf_131 ?_
  refine as_isub (pc := 134) X dX5_threadOf_134 ?_
  exact as_iret (pc := 135) X ⟨rfl, rfl⟩ rfl dX5_threadOf_135
theorem s_X5_threadOf_95 {G : am_G} {bc bs : Nat} (X : am_Cx G cX5_threadOf RX5 "threadOf" rm_X5_threadOf (some .int) 4 bc bs true) : am_S G 95 (t_X5_threadOf_95) := by
  unfold t_X5_threadOf_95
  refine as_aload_n (pc := 95) X dX5_threadOf_95 rfl ?_
  refine as_getR (ci := 5) (j := 15) (pc := 96) X (Cn := RX5) (Tf := TX5) (N := 21) rfl rfl (by decide) iw_X5 aw_753 rfl dX5_threadOf_96 ?_
  refine as_iload_n (pc := 99) X dX5_threadOf_99 rfl ?_
  refine as_iconst (pc := 100) X dX5_threadOf_100 (by decide) ?_
  refine as_isub (pc := 101) X dX5_threadOf_101 ?_
  refine as_iald (pc := 102) X dX5_threadOf_102 ?_
  exact as_iret (pc := 103) X ⟨rfl, rfl⟩ rfl dX5_threadOf_103
theorem s_X5_threadOf_88 {G : am_G} {bc bs : Nat} (X : am_Cx G cX5_threadOf RX5 "threadOf" rm_X5_threadOf (some .int) 4 bc bs true) : am_S G 88 (t_X5_threadOf_88) := by
  unfold t_X5_threadOf_88
  refine as_aload_n (pc := 88) X dX5_threadOf_88 rfl ?_
  refine as_getR (ci := 5) (j := 15) (pc := 89) X (Cn := RX5) (Tf := TX5) (N := 21) rfl rfl (by decide) iw_X5 aw_753 rfl dX5_threadOf_89 ?_
  refine as_iconst (pc := 92) X dX5_threadOf_92 (by decide) ?_
  refine as_iald (pc := 93) X dX5_threadOf_93 ?_
  exact as_iret (pc := 94) X ⟨rfl, rfl⟩ rfl dX5_threadOf_94
theorem s_X5_threadOf_82 {G : am_G} {bc bs : Nat} (X : am_Cx G cX5_threadOf RX5 "threadOf" rm_X5_threadOf (some .int) 4 bc bs true) : am_S G 82 (t_X5_threadOf_82) := by
  unfold t_X5_threadOf_82
  refine as_aload_n (pc := 82) X dX5_threadOf_82 rfl ?_
  refine as_iload_n (pc := 83) X dX5_threadOf_83 rfl ?_
  refine as_callV (ci := 5) (np := 1) (ix := 184) (pc := 84) X ct_X5_writers (Cn := (RX5, TX5, 21)) rfl ⟨rfl, rfl⟩ aw_994 aw_996 aw_47 aw_997 aw_65 (by decide +kernel) (by decide) dX5_threadOf_84 ?_
  exact as_iret (pc := 87) X ⟨rfl, rfl⟩ rfl dX5_threadOf_87
theorem s_X5_threadOf_80 {G : am_G} {bc bs : Nat} (X : am_Cx G cX5_threadOf RX5 "threadOf" rm_X5_threadOf (some .int) 4 bc bs true) : am_S G 80 (t_X5_threadOf_80) := by
  unfold t_X5_threadOf_80
  refine as_iload_n (pc := 80) X dX5_threadOf_80 rfl ?_
  exact as_iret (pc := 81) X ⟨rfl, rfl⟩ rfl dX5_threadOf_81
theorem s_X5_threadOf_34 {G : am_G} {bc bs : Nat} (X : am_Cx G cX5_threadOf RX5 "threadOf" rm_X5_threadOf (some .int) 4 bc bs true) : am_S G 34 (t_X5_threadOf_34) := by
  unfold t_X5_threadOf_34
  refine as_aload_n (pc := 34) X dX5_threadOf_34 rfl ?_
  refine as_iload_n (pc := 35) X dX5_threadOf_35 rfl ?_
  refine as_callV (ci := 5) (np := 1) (ix := 181) (pc := 36) X ct_X5_laysRow (Cn := (RX5, TX5, 21)) rfl ⟨rfl, rfl⟩ aw_990 aw_992 aw_46 aw_993 aw_65 (by decide +kernel) (by decide) dX5_threadOf_36 ?_
  refine as_istore_n (pc := 39) X dX5_threadOf_39 rfl ?_ (by decide)
  refine as_iload_n (pc := 40) X dX5_threadOf_40 rfl ?_
  refine as_sw (pc := 41) X dX5_threadOf_41 v_X5_threadOf_41 142 (by decide) (fun j hj => ?_) (s_X5_threadOf_142 X)
  match j, hj with
  | 0, _ => exact ⟨39, rfl, by decide, s_X5_threadOf_80 X⟩
  | 1, _ => exact ⟨41, rfl, by decide, s_X5_threadOf_82 X⟩
  | 2, _ => exact ⟨47, rfl, by decide, s_X5_threadOf_88 X⟩
  | 3, _ => exact ⟨54, rfl, by decide, s_X5_threadOf_95 X⟩
  | 4, _ => exact ⟨63, rfl, by decide, s_X5_threadOf_104 X⟩
  | 5, _ => exact ⟨95, rfl, by decide, s_X5_threadOf_136 X⟩
  | j + 6, hj => exact absurd hj (by omega)
theorem s_X5_threadOf_32 {G : am_G} {bc bs : Nat} (X : am_Cx G cX5_threadOf RX5 "threadOf" rm_X5_threadOf (some .int) 4 bc bs true) : am_S G 32 (t_X5_threadOf_32) := by
  unfold t_X5_threadOf_32
  refine as_iconst (pc := 32) X dX5_threadOf_32 (by decide) ?_
  exact as_iret (pc := 33) X ⟨rfl, rfl⟩ rfl dX5_threadOf_33
theorem s_X5_threadOf_0 {G : am_G} {bc bs : Nat} (X : am_Cx G cX5_threadOf RX5 "threadOf" rm_X5_threadOf (some .int) 4 bc bs true) : am_S G 0 (t_X5_threadOf_0) := by
  unfold t_X5_threadOf_0
  refine as_aload_n (pc := 0) X dX5_threadOf_0 rfl ?_
  refine as_aload_n (pc := 1) X dX5_threadOf_1 rfl ?_
  refine as_getR (ci := 5) (j := 0) (pc := 2) X (Cn := RX5) (Tf := TX5) (N := 21) rfl rfl (by decide) iw_X5 aw_738 rfl dX5_threadOf_2 ?_
  refine as_callV (ci := 5) (np := 1) (ix := 145) (pc := 5) X ct_X5_lays (Cn := (RX5, TX5, 21)) rfl ⟨rfl, rfl⟩ aw_861 aw_863 aw_29 aw_864 aw_65 (by decide +kernel) (by decide) dX5_threadOf_5 ?_
  refine as_iload_n (pc := 8) X dX5_threadOf_8 rfl ?_
  refine as_iconst (pc := 9) X dX5_threadOf_9 (by decide) ?_
  refine as_aload_n (pc := 10) X dX5_threadOf_10 rfl ?_
  refine as_getI (ci := 5) (j := 14) (pc := 11) X (Cn := RX5) (Tf := TX5) (N := 21) rfl rfl (by decide) iw_X5 aw_752 rfl dX5_threadOf_11 ?_
  refine as_iconst (pc := 14) X dX5_threadOf_14 (by decide) ?_
  refine as_isub (pc := 15) X dX5_threadOf_15 ?_
  refine as_callS (np := 3) (ix := 60) (pc := 16) X ct_X5_in ⟨rfl, rfl⟩ aw_806 aw_807 aw_808 aw_65 (by decide +kernel) (by decide) dX5_threadOf_16 ?_
  refine as_if_eq (pc := 19) X 32 dX5_threadOf_19 (by decide) (s_X5_threadOf_32 X) ?_
  refine as_iload_n (pc := 22) X dX5_threadOf_22 rfl ?_
  refine as_iconst (pc := 23) X dX5_threadOf_23 (by decide) ?_
  refine as_bipush (pc := 24) X dX5_threadOf_24 (by decide) ?_
  refine as_callS (np := 3) (ix := 60) (pc := 26) X ct_X5_in ⟨rfl, rfl⟩ aw_806 aw_807 aw_808 aw_65 (by decide +kernel) (by decide) dX5_threadOf_26 ?_
  refine as_if_ne (pc := 29) X 34 dX5_threadOf_29 (by decide) (s_X5_threadOf_34 X) ?_
  exact s_X5_threadOf_32 X
theorem s_X5_threadOf {G : am_G} {bc bs : Nat} (X : am_Cx G cX5_threadOf RX5 "threadOf" rm_X5_threadOf (some .int) 4 bc bs true) (h : Nat) : am_S G h (h_X5_threadOf h) := by
  unfold h_X5_threadOf
  split
  · next e => rw [e]; exact s_X5_threadOf_0 X
  exact as_bad
theorem ct_X5_threadOf : am_Ct yX5_threadOf cX5_threadOf 4 (some .int) rm_X5_threadOf sp_X5_threadOf := am_met (own := RX5) (nm := "threadOf") (by decide) rfl rfl (Or.inr (Or.inl rfl)) (fun _ _ => h_X5_threadOf) (fun _ _ _ X => s_X5_threadOf X) (fun _ _ _ _ h => h)
-- X4_lineIn
theorem dX4_lineIn_0 : decode cX4_lineIn 0 = .ok (.aload_n 0, 1) := by decide +kernel
theorem dX4_lineIn_1 : decode cX4_lineIn 1 = .ok (.invokevirtual 116, 3) := by decide +kernel
theorem dX4_lineIn_4 : decode cX4_lineIn 4 = .ok (.astore_n 3, 1) := by decide +kernel
theorem dX4_lineIn_5 : decode cX4_lineIn 5 = .ok (.aload_n 3, 1) := by decide +kernel
theorem dX4_lineIn_6 : decode cX4_lineIn 6 = .ok (.iload_n 1, 1) := by decide +kernel
theorem dX4_lineIn_7 : decode cX4_lineIn 7 = .ok (.invokevirtual 205, 3) := by decide +kernel
theorem dX4_lineIn_10 : decode cX4_lineIn 10 = .ok (.ifCond .eq 7, 3) := by decide +kernel
theorem dX4_lineIn_13 : decode cX4_lineIn 13 = .ok (.iload_n 2, 1) := by decide +kernel
theorem dX4_lineIn_14 : decode cX4_lineIn 14 = .ok (.ifCond .ge 5, 3) := by decide +kernel
theorem dX4_lineIn_17 : decode cX4_lineIn 17 = .ok (.iconst (-1), 1) := by decide +kernel
theorem dX4_lineIn_18 : decode cX4_lineIn 18 = .ok (.ireturn, 1) := by decide +kernel
theorem dX4_lineIn_19 : decode cX4_lineIn 19 = .ok (.aload_n 3, 1) := by decide +kernel
theorem dX4_lineIn_20 : decode cX4_lineIn 20 = .ok (.iload_n 1, 1) := by decide +kernel
theorem dX4_lineIn_21 : decode cX4_lineIn 21 = .ok (.iload_n 2, 1) := by decide +kernel
theorem dX4_lineIn_22 : decode cX4_lineIn 22 = .ok (.invokevirtual 214, 3) := by decide +kernel
theorem dX4_lineIn_25 : decode cX4_lineIn 25 = .ok (.invokestatic 79, 3) := by decide +kernel
theorem dX4_lineIn_28 : decode cX4_lineIn 28 = .ok (.ireturn, 1) := by decide +kernel
def t_X4_lineIn_19 : am_T := tb_aload 3 <|
  tb_iload 1 <|
  tb_iload 2 <|
  tb_callV 3 sp_X3_memberOf 3 <|
  tb_callS sp_X4_orNotFound 1 <|
  tb_iret
def t_X4_lineIn_17 : am_T := tb_const (-1) <|
  tb_iret
def t_X4_lineIn_0 : am_T := tb_aload 0 <|
  tb_callV 4 sp_X4_currentThreads 1 <|
  tb_astore 3 <|
  tb_aload 3 <|
  tb_iload 1 <|
  tb_callV 3 sp_X3_isThread 2 <|
  tb_if (fun x => x = 0) (t_X4_lineIn_17) <|
  tb_iload 2 <|
  tb_if (fun x => 0 ≤ x) (t_X4_lineIn_19) <|
  t_X4_lineIn_17
def h_X4_lineIn : am_Hd := fun h => if h = 0 then t_X4_lineIn_0 else tb_bad
theorem h_X4_lineIn_0 : h_X4_lineIn 0 = t_X4_lineIn_0 := rfl
def rm_X4_lineIn : Room := { frames := 6, cells := 0, slots := 0, locals := 133 }
def sp_X4_lineIn : am_sp := fun as M Q => as.length ≤ 4 ∧ am_OK h_X4_lineIn Q 0 (am_in 4 as) M
theorem s_X4_lineIn_19 {G : am_G} {bc bs : Nat} (X : am_Cx G cX4_lineIn RX4 "lineIn" rm_X4_lineIn (some .int) 4 bc bs true) : am_S G 19 (t_X4_lineIn_19) := by
  unfold t_X4_lineIn_19
  refine as_aload_n (pc := 19) X dX4_lineIn_19 rfl ?_
  refine as_iload_n (pc := 20) X dX4_lineIn_20 rfl ?_
  refine as_iload_n (pc := 21) X dX4_lineIn_21 rfl ?_
  refine as_callV (ci := 3) (np := 2) (ix := 214) (pc := 22) X ct_X3_memberOf (Cn := (RX3, TX3, 17)) rfl ⟨rfl, rfl⟩ aw_595 aw_596 aw_597 aw_598 aw_60 (by decide +kernel) (by decide) dX4_lineIn_22 ?_
  refine as_callS (np := 1) (ix := 79) (pc := 25) X ct_X4_orNotFound ⟨rfl, rfl⟩ aw_347 aw_348 aw_349 aw_59 (by decide +kernel) (by decide) dX4_lineIn_25 ?_
  exact as_iret (pc := 28) X ⟨rfl, rfl⟩ rfl dX4_lineIn_28
theorem s_X4_lineIn_17 {G : am_G} {bc bs : Nat} (X : am_Cx G cX4_lineIn RX4 "lineIn" rm_X4_lineIn (some .int) 4 bc bs true) : am_S G 17 (t_X4_lineIn_17) := by
  unfold t_X4_lineIn_17
  refine as_iconst (pc := 17) X dX4_lineIn_17 (by decide) ?_
  exact as_iret (pc := 18) X ⟨rfl, rfl⟩ rfl dX4_lineIn_18
theorem s_X4_lineIn_0 {G : am_G} {bc bs : Nat} (X : am_Cx G cX4_lineIn RX4 "lineIn" rm_X4_lineIn (some .int) 4 bc bs true) : am_S G 0 (t_X4_lineIn_0) := by
  unfold t_X4_lineIn_0
  refine as_aload_n (pc := 0) X dX4_lineIn_0 rfl ?_
  refine as_callV (ci := 4) (np := 0) (ix := 116) (pc := 1) X ct_X4_currentThreads (Cn := (RX4, TX4, 7)) rfl ⟨rfl, rfl⟩ aw_389 aw_391 aw_2 aw_392 aw_59 (by decide +kernel) (by decide) dX4_lineIn_1 ?_
  refine as_astore_n (pc := 4) X dX4_lineIn_4 rfl ?_ (by decide)
  refine as_aload_n (pc := 5) X dX4_lineIn_5 rfl ?_
  refine as_iload_n (pc := 6) X dX4_lineIn_6 rfl ?_
  refine as_callV (ci := 3) (np := 1) (ix := 205) (pc := 7) X ct_X3_isThread (Cn := (RX3, TX3, 17)) rfl ⟨rfl, rfl⟩ aw_587 aw_588 aw_589 aw_590 aw_60 (by decide +kernel) (by decide) dX4_lineIn_7 ?_
  refine as_if_eq (pc := 10) X 17 dX4_lineIn_10 (by decide) (s_X4_lineIn_17 X) ?_
  refine as_iload_n (pc := 13) X dX4_lineIn_13 rfl ?_
  refine as_if_ge (pc := 14) X 19 dX4_lineIn_14 (by decide) (s_X4_lineIn_19 X) ?_
  exact s_X4_lineIn_17 X
theorem s_X4_lineIn {G : am_G} {bc bs : Nat} (X : am_Cx G cX4_lineIn RX4 "lineIn" rm_X4_lineIn (some .int) 4 bc bs true) (h : Nat) : am_S G h (h_X4_lineIn h) := by
  unfold h_X4_lineIn
  split
  · next e => rw [e]; exact s_X4_lineIn_0 X
  exact as_bad
theorem ct_X4_lineIn : am_Ct yX4_lineIn cX4_lineIn 4 (some .int) rm_X4_lineIn sp_X4_lineIn := am_met (own := RX4) (nm := "lineIn") (by decide) rfl rfl (Or.inr (Or.inl rfl)) (fun _ _ => h_X4_lineIn) (fun _ _ _ X => s_X4_lineIn X) (fun _ _ _ _ h => h)
-- X5_lineIn
theorem dX5_lineIn_0 : decode cX5_lineIn 0 = .ok (.aload_n 0, 1) := by decide +kernel
theorem dX5_lineIn_1 : decode cX5_lineIn 1 = .ok (.aload_n 0, 1) := by decide +kernel
theorem dX5_lineIn_2 : decode cX5_lineIn 2 = .ok (.getfield 7, 3) := by decide +kernel
theorem dX5_lineIn_5 : decode cX5_lineIn 5 = .ok (.invokevirtual 145, 3) := by decide +kernel
theorem dX5_lineIn_8 : decode cX5_lineIn 8 = .ok (.iload_n 1, 1) := by decide +kernel
theorem dX5_lineIn_9 : decode cX5_lineIn 9 = .ok (.iconst 0, 1) := by decide +kernel
theorem dX5_lineIn_10 : decode cX5_lineIn 10 = .ok (.aload_n 0, 1) := by decide +kernel
theorem dX5_lineIn_11 : decode cX5_lineIn 11 = .ok (.getfield 117, 3) := by decide +kernel
theorem dX5_lineIn_14 : decode cX5_lineIn 14 = .ok (.iconst 1, 1) := by decide +kernel
theorem dX5_lineIn_15 : decode cX5_lineIn 15 = .ok (.isub, 1) := by decide +kernel
theorem dX5_lineIn_16 : decode cX5_lineIn 16 = .ok (.invokestatic 60, 3) := by decide +kernel
theorem dX5_lineIn_19 : decode cX5_lineIn 19 = .ok (.ifCond .eq 7, 3) := by decide +kernel
theorem dX5_lineIn_22 : decode cX5_lineIn 22 = .ok (.iload_n 2, 1) := by decide +kernel
theorem dX5_lineIn_23 : decode cX5_lineIn 23 = .ok (.ifCond .ge 5, 3) := by decide +kernel
theorem dX5_lineIn_26 : decode cX5_lineIn 26 = .ok (.iconst (-1), 1) := by decide +kernel
theorem dX5_lineIn_27 : decode cX5_lineIn 27 = .ok (.ireturn, 1) := by decide +kernel
theorem dX5_lineIn_28 : decode cX5_lineIn 28 = .ok (.iload_n 2, 1) := by decide +kernel
theorem dX5_lineIn_29 : decode cX5_lineIn 29 = .ok (.aload_n 0, 1) := by decide +kernel
theorem dX5_lineIn_30 : decode cX5_lineIn 30 = .ok (.iload_n 1, 1) := by decide +kernel
theorem dX5_lineIn_31 : decode cX5_lineIn 31 = .ok (.invokevirtual 181, 3) := by decide +kernel
theorem dX5_lineIn_34 : decode cX5_lineIn 34 = .ok (.if_icmp .ge 12, 3) := by decide +kernel
theorem dX5_lineIn_37 : decode cX5_lineIn 37 = .ok (.aload_n 0, 1) := by decide +kernel
theorem dX5_lineIn_38 : decode cX5_lineIn 38 = .ok (.getfield 46, 3) := by decide +kernel
theorem dX5_lineIn_41 : decode cX5_lineIn 41 = .ok (.iload_n 2, 1) := by decide +kernel
theorem dX5_lineIn_42 : decode cX5_lineIn 42 = .ok (.iaload, 1) := by decide +kernel
theorem dX5_lineIn_43 : decode cX5_lineIn 43 = .ok (.goto 5, 3) := by decide +kernel
theorem dX5_lineIn_46 : decode cX5_lineIn 46 = .ok (.bipush (-4), 2) := by decide +kernel
theorem dX5_lineIn_48 : decode cX5_lineIn 48 = .ok (.ireturn, 1) := by decide +kernel
def t_X5_lineIn_48 : am_T := tb_iret
def t_X5_lineIn_46 : am_T := tb_const (-4) <|
  t_X5_lineIn_48
def t_X5_lineIn_28 : am_T := tb_iload 2 <|
  tb_aload 0 <|
  tb_iload 1 <|
  tb_callV 5 sp_X5_laysRow 2 <|
  tb_ic (fun x y => y ≤ x) (t_X5_lineIn_46) <|
  tb_aload 0 <|
  tb_getR 5 15 <|
  tb_iload 2 <|
  tb_iald <|
  t_X5_lineIn_48
def t_X5_lineIn_26 : am_T := tb_const (-1) <|
  tb_iret
def t_X5_lineIn_0 : am_T := tb_aload 0 <|
  tb_aload 0 <|
  tb_getR 5 0 <|
  tb_callV 5 sp_X5_lays 2 <|
  tb_iload 1 <|
  tb_const 0 <|
  tb_aload 0 <|
  tb_getI 5 14 <|
  tb_const 1 <|
  tb_bin (fun x y => x - y) <|
  tb_callS sp_X5_in 3 <|
  tb_if (fun x => x = 0) (t_X5_lineIn_26) <|
  tb_iload 2 <|
  tb_if (fun x => 0 ≤ x) (t_X5_lineIn_28) <|
  t_X5_lineIn_26
def h_X5_lineIn : am_Hd := fun h => if h = 0 then t_X5_lineIn_0 else tb_bad
theorem h_X5_lineIn_0 : h_X5_lineIn 0 = t_X5_lineIn_0 := rfl
def rm_X5_lineIn : Room := { frames := 6, cells := 0, slots := 0, locals := 145 }
def sp_X5_lineIn : am_sp := fun as M Q => as.length ≤ 3 ∧ am_OK h_X5_lineIn Q 0 (am_in 3 as) M
theorem s_X5_lineIn_48 {G : am_G} {bc bs : Nat} (X : am_Cx G cX5_lineIn RX5 "lineIn" rm_X5_lineIn (some .int) 3 bc bs true) : am_S G 48 (t_X5_lineIn_48) := by
  unfold t_X5_lineIn_48
  exact as_iret (pc := 48) X ⟨rfl, rfl⟩ rfl dX5_lineIn_48
theorem s_X5_lineIn_46 {G : am_G} {bc bs : Nat} (X : am_Cx G cX5_lineIn RX5 "lineIn" rm_X5_lineIn (some .int) 3 bc bs true) : am_S G 46 (t_X5_lineIn_46) := by
  unfold t_X5_lineIn_46
  refine as_bipush (pc := 46) X dX5_lineIn_46 (by decide) ?_
  exact s_X5_lineIn_48 X
theorem s_X5_lineIn_28 {G : am_G} {bc bs : Nat} (X : am_Cx G cX5_lineIn RX5 "lineIn" rm_X5_lineIn (some .int) 3 bc bs true) : am_S G 28 (t_X5_lineIn_28) := by
  unfold t_X5_lineIn_28
  refine as_iload_n (pc := 28) X dX5_lineIn_28 rfl ?_
  refine as_aload_n (pc := 29) X dX5_lineIn_29 rfl ?_
  refine as_iload_n (pc := 30) X dX5_lineIn_30 rfl ?_
  refine as_callV (ci := 5) (np := 1) (ix := 181) (pc := 31) X ct_X5_laysRow (Cn := (RX5, TX5, 21)) rfl ⟨rfl, rfl⟩ aw_990 aw_992 aw_46 aw_993 aw_65 (by decide +kernel) (by decide) dX5_lineIn_31 ?_
  refine as_ic_ge (pc := 34) X 46 dX5_lineIn_34 (by decide) (s_X5_lineIn_46 X) ?_
  refine as_aload_n (pc := 37) X dX5_lineIn_37 rfl ?_
  refine as_getR (ci := 5) (j := 15) (pc := 38) X (Cn := RX5) (Tf := TX5) (N := 21) rfl rfl (by decide) iw_X5 aw_753 rfl dX5_lineIn_38 ?_
  refine as_iload_n (pc := 41) X dX5_lineIn_41 rfl ?_
  refine as_iald (pc := 42) X dX5_lineIn_42 ?_
  exact as_goto (pc := 43) X 48 dX5_lineIn_43 (by decide) (s_X5_lineIn_48 X)
theorem s_X5_lineIn_26 {G : am_G} {bc bs : Nat} (X : am_Cx G cX5_lineIn RX5 "lineIn" rm_X5_lineIn (some .int) 3 bc bs true) : am_S G 26 (t_X5_lineIn_26) := by
  unfold t_X5_lineIn_26
  refine as_iconst (pc := 26) X dX5_lineIn_26 (by decide) ?_
  exact as_iret (pc := 27) X ⟨rfl, rfl⟩ rfl dX5_lineIn_27
theorem s_X5_lineIn_0 {G : am_G} {bc bs : Nat} (X : am_Cx G cX5_lineIn RX5 "lineIn" rm_X5_lineIn (some .int) 3 bc bs true) : am_S G 0 (t_X5_lineIn_0) := by
  unfold t_X5_lineIn_0
  refine as_aload_n (pc := 0) X dX5_lineIn_0 rfl ?_
  refine as_aload_n (pc := 1) X dX5_lineIn_1 rfl ?_
  refine as_getR (ci := 5) (j := 0) (pc := 2) X (Cn := RX5) (Tf := TX5) (N := 21) rfl rfl (by decide) iw_X5 aw_738 rfl dX5_lineIn_2 ?_
  refine as_callV (ci := 5) (np := 1) (ix := 145) (pc := 5) X ct_X5_lays (Cn := (RX5, TX5, 21)) rfl ⟨rfl, rfl⟩ aw_861 aw_863 aw_29 aw_864 aw_65 (by decide +kernel) (by decide) dX5_lineIn_5 ?_
  refine as_iload_n (pc := 8) X dX5_lineIn_8 rfl ?_
  refine as_iconst (pc := 9) X dX5_lineIn_9 (by decide) ?_
  refine as_aload_n (pc := 10) X dX5_lineIn_10 rfl ?_
  refine as_getI (ci := 5) (j := 14) (pc := 11) X (Cn := RX5) (Tf := TX5) (N := 21) rfl rfl (by decide) iw_X5 aw_752 rfl dX5_lineIn_11 ?_
  refine as_iconst (pc := 14) X dX5_lineIn_14 (by decide) ?_
  refine as_isub (pc := 15) X dX5_lineIn_15 ?_
  refine as_callS (np := 3) (ix := 60) (pc := 16) X ct_X5_in ⟨rfl, rfl⟩ aw_806 aw_807 aw_808 aw_65 (by decide +kernel) (by decide) dX5_lineIn_16 ?_
  refine as_if_eq (pc := 19) X 26 dX5_lineIn_19 (by decide) (s_X5_lineIn_26 X) ?_
  refine as_iload_n (pc := 22) X dX5_lineIn_22 rfl ?_
  refine as_if_ge (pc := 23) X 28 dX5_lineIn_23 (by decide) (s_X5_lineIn_28 X) ?_
  exact s_X5_lineIn_26 X
theorem s_X5_lineIn {G : am_G} {bc bs : Nat} (X : am_Cx G cX5_lineIn RX5 "lineIn" rm_X5_lineIn (some .int) 3 bc bs true) (h : Nat) : am_S G h (h_X5_lineIn h) := by
  unfold h_X5_lineIn
  split
  · next e => rw [e]; exact s_X5_lineIn_0 X
  exact as_bad
theorem ct_X5_lineIn : am_Ct yX5_lineIn cX5_lineIn 3 (some .int) rm_X5_lineIn sp_X5_lineIn := am_met (own := RX5) (nm := "lineIn") (by decide) rfl rfl (Or.inr (Or.inl rfl)) (fun _ _ => h_X5_lineIn) (fun _ _ _ X => s_X5_lineIn X) (fun _ _ _ _ h => h)
-- X3_isBusier
theorem dX3_isBusier_0 : decode cX3_isBusier 0 = .ok (.aload_n 0, 1) := by decide +kernel
theorem dX3_isBusier_1 : decode cX3_isBusier 1 = .ok (.getfield 62, 3) := by decide +kernel
theorem dX3_isBusier_4 : decode cX3_isBusier 4 = .ok (.iload_n 1, 1) := by decide +kernel
theorem dX3_isBusier_5 : decode cX3_isBusier 5 = .ok (.iaload, 1) := by decide +kernel
theorem dX3_isBusier_6 : decode cX3_isBusier 6 = .ok (.aload_n 0, 1) := by decide +kernel
theorem dX3_isBusier_7 : decode cX3_isBusier 7 = .ok (.getfield 62, 3) := by decide +kernel
theorem dX3_isBusier_10 : decode cX3_isBusier 10 = .ok (.iload_n 2, 1) := by decide +kernel
theorem dX3_isBusier_11 : decode cX3_isBusier 11 = .ok (.iaload, 1) := by decide +kernel
theorem dX3_isBusier_12 : decode cX3_isBusier 12 = .ok (.isub, 1) := by decide +kernel
theorem dX3_isBusier_13 : decode cX3_isBusier 13 = .ok (.istore_n 3, 1) := by decide +kernel
theorem dX3_isBusier_14 : decode cX3_isBusier 14 = .ok (.iload_n 3, 1) := by decide +kernel
theorem dX3_isBusier_15 : decode cX3_isBusier 15 = .ok (.ifCond .eq 13, 3) := by decide +kernel
theorem dX3_isBusier_18 : decode cX3_isBusier 18 = .ok (.iload_n 3, 1) := by decide +kernel
theorem dX3_isBusier_19 : decode cX3_isBusier 19 = .ok (.ifCond .le 7, 3) := by decide +kernel
theorem dX3_isBusier_22 : decode cX3_isBusier 22 = .ok (.iconst 1, 1) := by decide +kernel
theorem dX3_isBusier_23 : decode cX3_isBusier 23 = .ok (.goto 4, 3) := by decide +kernel
theorem dX3_isBusier_26 : decode cX3_isBusier 26 = .ok (.iconst 0, 1) := by decide +kernel
theorem dX3_isBusier_27 : decode cX3_isBusier 27 = .ok (.ireturn, 1) := by decide +kernel
theorem dX3_isBusier_28 : decode cX3_isBusier 28 = .ok (.aload_n 0, 1) := by decide +kernel
theorem dX3_isBusier_29 : decode cX3_isBusier 29 = .ok (.getfield 12, 3) := by decide +kernel
theorem dX3_isBusier_32 : decode cX3_isBusier 32 = .ok (.aload_n 0, 1) := by decide +kernel
theorem dX3_isBusier_33 : decode cX3_isBusier 33 = .ok (.getfield 65, 3) := by decide +kernel
theorem dX3_isBusier_36 : decode cX3_isBusier 36 = .ok (.iload_n 2, 1) := by decide +kernel
theorem dX3_isBusier_37 : decode cX3_isBusier 37 = .ok (.iaload, 1) := by decide +kernel
theorem dX3_isBusier_38 : decode cX3_isBusier 38 = .ok (.aload_n 0, 1) := by decide +kernel
theorem dX3_isBusier_39 : decode cX3_isBusier 39 = .ok (.getfield 65, 3) := by decide +kernel
theorem dX3_isBusier_42 : decode cX3_isBusier 42 = .ok (.iload_n 1, 1) := by decide +kernel
theorem dX3_isBusier_43 : decode cX3_isBusier 43 = .ok (.iaload, 1) := by decide +kernel
theorem dX3_isBusier_44 : decode cX3_isBusier 44 = .ok (.invokevirtual 168, 3) := by decide +kernel
theorem dX3_isBusier_47 : decode cX3_isBusier 47 = .ok (.ireturn, 1) := by decide +kernel
def t_X3_isBusier_28 : am_T := tb_aload 0 <|
  tb_getR 3 0 <|
  tb_aload 0 <|
  tb_getR 3 16 <|
  tb_iload 2 <|
  tb_iald <|
  tb_aload 0 <|
  tb_getR 3 16 <|
  tb_iload 1 <|
  tb_iald <|
  tb_callV 1 sp_X1_isEarlier 3 <|
  tb_zret
def t_X3_isBusier_27 : am_T := tb_zret
def t_X3_isBusier_26 : am_T := tb_const 0 <|
  t_X3_isBusier_27
def t_X3_isBusier_0 : am_T := tb_aload 0 <|
  tb_getR 3 15 <|
  tb_iload 1 <|
  tb_iald <|
  tb_aload 0 <|
  tb_getR 3 15 <|
  tb_iload 2 <|
  tb_iald <|
  tb_bin (fun x y => x - y) <|
  tb_istore 3 <|
  tb_iload 3 <|
  tb_if (fun x => x = 0) (t_X3_isBusier_28) <|
  tb_iload 3 <|
  tb_if (fun x => x ≤ 0) (t_X3_isBusier_26) <|
  tb_const 1 <|
  t_X3_isBusier_27
def h_X3_isBusier : am_Hd := fun h => if h = 0 then t_X3_isBusier_0 else tb_bad
theorem h_X3_isBusier_0 : h_X3_isBusier 0 = t_X3_isBusier_0 := rfl
def rm_X3_isBusier : Room := { frames := 1, cells := 0, slots := 0, locals := 22 }
def sp_X3_isBusier : am_sp := fun as M Q => as.length ≤ 4 ∧ am_OK h_X3_isBusier Q 0 (am_in 4 as) M
theorem s_X3_isBusier_28 {G : am_G} {bc bs : Nat} (X : am_Cx G cX3_isBusier RX3 "isBusier" rm_X3_isBusier (some .boolean) 4 bc bs true) : am_S G 28 (t_X3_isBusier_28) := by
  unfold t_X3_isBusier_28
  refine as_aload_n (pc := 28) X dX3_isBusier_28 rfl ?_
  refine as_getR (ci := 3) (j := 0) (pc := 29) X (Cn := RX3) (Tf := TX3) (N := 17) rfl rfl (by decide) iw_X3 aw_159 rfl dX3_isBusier_29 ?_
  refine as_aload_n (pc := 32) X dX3_isBusier_32 rfl ?_
  refine as_getR (ci := 3) (j := 16) (pc := 33) X (Cn := RX3) (Tf := TX3) (N := 17) rfl rfl (by decide) iw_X3 aw_184 rfl dX3_isBusier_33 ?_
  refine as_iload_n (pc := 36) X dX3_isBusier_36 rfl ?_
  refine as_iald (pc := 37) X dX3_isBusier_37 ?_
  refine as_aload_n (pc := 38) X dX3_isBusier_38 rfl ?_
  refine as_getR (ci := 3) (j := 16) (pc := 39) X (Cn := RX3) (Tf := TX3) (N := 17) rfl rfl (by decide) iw_X3 aw_184 rfl dX3_isBusier_39 ?_
  refine as_iload_n (pc := 42) X dX3_isBusier_42 rfl ?_
  refine as_iald (pc := 43) X dX3_isBusier_43 ?_
  refine as_callV (ci := 1) (np := 2) (ix := 168) (pc := 44) X ct_X1_isEarlier (Cn := (RX1, TX1, 14)) rfl ⟨rfl, rfl⟩ aw_510 aw_498 aw_499 aw_500 aw_61 (by decide +kernel) (by decide) dX3_isBusier_44 ?_
  exact as_zret (pc := 47) X ⟨rfl, rfl⟩ rfl dX3_isBusier_47
theorem s_X3_isBusier_27 {G : am_G} {bc bs : Nat} (X : am_Cx G cX3_isBusier RX3 "isBusier" rm_X3_isBusier (some .boolean) 4 bc bs true) : am_S G 27 (t_X3_isBusier_27) := by
  unfold t_X3_isBusier_27
  exact as_zret (pc := 27) X ⟨rfl, rfl⟩ rfl dX3_isBusier_27
theorem s_X3_isBusier_26 {G : am_G} {bc bs : Nat} (X : am_Cx G cX3_isBusier RX3 "isBusier" rm_X3_isBusier (some .boolean) 4 bc bs true) : am_S G 26 (t_X3_isBusier_26) := by
  unfold t_X3_isBusier_26
  refine as_iconst (pc := 26) X dX3_isBusier_26 (by decide) ?_
  exact s_X3_isBusier_27 X
theorem s_X3_isBusier_0 {G : am_G} {bc bs : Nat} (X : am_Cx G cX3_isBusier RX3 "isBusier" rm_X3_isBusier (some .boolean) 4 bc bs true) : am_S G 0 (t_X3_isBusier_0) := by
  unfold t_X3_isBusier_0
  refine as_aload_n (pc := 0) X dX3_isBusier_0 rfl ?_
  refine as_getR (ci := 3) (j := 15) (pc := 1) X (Cn := RX3) (Tf := TX3) (N := 17) rfl rfl (by decide) iw_X3 aw_182 rfl dX3_isBusier_1 ?_
  refine as_iload_n (pc := 4) X dX3_isBusier_4 rfl ?_
  refine as_iald (pc := 5) X dX3_isBusier_5 ?_
  refine as_aload_n (pc := 6) X dX3_isBusier_6 rfl ?_
  refine as_getR (ci := 3) (j := 15) (pc := 7) X (Cn := RX3) (Tf := TX3) (N := 17) rfl rfl (by decide) iw_X3 aw_182 rfl dX3_isBusier_7 ?_
  refine as_iload_n (pc := 10) X dX3_isBusier_10 rfl ?_
  refine as_iald (pc := 11) X dX3_isBusier_11 ?_
  refine as_isub (pc := 12) X dX3_isBusier_12 ?_
  refine as_istore_n (pc := 13) X dX3_isBusier_13 rfl ?_ (by decide)
  refine as_iload_n (pc := 14) X dX3_isBusier_14 rfl ?_
  refine as_if_eq (pc := 15) X 28 dX3_isBusier_15 (by decide) (s_X3_isBusier_28 X) ?_
  refine as_iload_n (pc := 18) X dX3_isBusier_18 rfl ?_
  refine as_if_le (pc := 19) X 26 dX3_isBusier_19 (by decide) (s_X3_isBusier_26 X) ?_
  refine as_iconst (pc := 22) X dX3_isBusier_22 (by decide) ?_
  exact as_goto (pc := 23) X 27 dX3_isBusier_23 (by decide) (s_X3_isBusier_27 X)
theorem s_X3_isBusier {G : am_G} {bc bs : Nat} (X : am_Cx G cX3_isBusier RX3 "isBusier" rm_X3_isBusier (some .boolean) 4 bc bs true) (h : Nat) : am_S G h (h_X3_isBusier h) := by
  unfold h_X3_isBusier
  split
  · next e => rw [e]; exact s_X3_isBusier_0 X
  exact as_bad
theorem ct_X3_isBusier : am_Ct yX3_isBusier cX3_isBusier 4 (some .boolean) rm_X3_isBusier sp_X3_isBusier := am_met (own := RX3) (nm := "isBusier") (by decide) rfl rfl (Or.inr (Or.inr (Or.inl rfl))) (fun _ _ => h_X3_isBusier) (fun _ _ _ X => s_X3_isBusier X) (fun _ _ _ _ h => h)
-- X3_ranked
theorem dX3_ranked_0 : decode cX3_ranked 0 = .ok (.iconst 0, 1) := by decide +kernel
theorem dX3_ranked_1 : decode cX3_ranked 1 = .ok (.istore_n 2, 1) := by decide +kernel
theorem dX3_ranked_2 : decode cX3_ranked 2 = .ok (.iload_n 2, 1) := by decide +kernel
theorem dX3_ranked_3 : decode cX3_ranked 3 = .ok (.aload_n 0, 1) := by decide +kernel
theorem dX3_ranked_4 : decode cX3_ranked 4 = .ok (.getfield 58, 3) := by decide +kernel
theorem dX3_ranked_7 : decode cX3_ranked 7 = .ok (.if_icmp .ge 49, 3) := by decide +kernel
theorem dX3_ranked_10 : decode cX3_ranked 10 = .ok (.iconst 0, 1) := by decide +kernel
theorem dX3_ranked_11 : decode cX3_ranked 11 = .ok (.istore_n 3, 1) := by decide +kernel
theorem dX3_ranked_12 : decode cX3_ranked 12 = .ok (.iconst 0, 1) := by decide +kernel
theorem dX3_ranked_13 : decode cX3_ranked 13 = .ok (.istore 4, 2) := by decide +kernel
theorem dX3_ranked_15 : decode cX3_ranked 15 = .ok (.iload 4, 2) := by decide +kernel
theorem dX3_ranked_17 : decode cX3_ranked 17 = .ok (.aload_n 0, 1) := by decide +kernel
theorem dX3_ranked_18 : decode cX3_ranked 18 = .ok (.getfield 58, 3) := by decide +kernel
theorem dX3_ranked_21 : decode cX3_ranked 21 = .ok (.if_icmp .ge 22, 3) := by decide +kernel
theorem dX3_ranked_24 : decode cX3_ranked 24 = .ok (.aload_n 0, 1) := by decide +kernel
theorem dX3_ranked_25 : decode cX3_ranked 25 = .ok (.iload 4, 2) := by decide +kernel
theorem dX3_ranked_27 : decode cX3_ranked 27 = .ok (.iload_n 2, 1) := by decide +kernel
theorem dX3_ranked_28 : decode cX3_ranked 28 = .ok (.invokevirtual 181, 3) := by decide +kernel
theorem dX3_ranked_31 : decode cX3_ranked 31 = .ok (.ifCond .eq 6, 3) := by decide +kernel
theorem dX3_ranked_34 : decode cX3_ranked 34 = .ok (.iinc 3 1, 3) := by decide +kernel
theorem dX3_ranked_37 : decode cX3_ranked 37 = .ok (.iinc 4 1, 3) := by decide +kernel
theorem dX3_ranked_40 : decode cX3_ranked 40 = .ok (.goto (-25), 3) := by decide +kernel
theorem dX3_ranked_43 : decode cX3_ranked 43 = .ok (.iload_n 3, 1) := by decide +kernel
theorem dX3_ranked_44 : decode cX3_ranked 44 = .ok (.iload_n 1, 1) := by decide +kernel
theorem dX3_ranked_45 : decode cX3_ranked 45 = .ok (.if_icmp .ne 5, 3) := by decide +kernel
theorem dX3_ranked_48 : decode cX3_ranked 48 = .ok (.iload_n 2, 1) := by decide +kernel
theorem dX3_ranked_49 : decode cX3_ranked 49 = .ok (.ireturn, 1) := by decide +kernel
theorem dX3_ranked_50 : decode cX3_ranked 50 = .ok (.iinc 2 1, 3) := by decide +kernel
theorem dX3_ranked_53 : decode cX3_ranked 53 = .ok (.goto (-51), 3) := by decide +kernel
theorem dX3_ranked_56 : decode cX3_ranked 56 = .ok (.iconst (-1), 1) := by decide +kernel
theorem dX3_ranked_57 : decode cX3_ranked 57 = .ok (.ireturn, 1) := by decide +kernel
def t_X3_ranked_56 : am_T := tb_const (-1) <|
  tb_iret
def t_X3_ranked_50 : am_T := tb_iinc 2 1 <|
  tb_head 2
def t_X3_ranked_43 : am_T := tb_iload 3 <|
  tb_iload 1 <|
  tb_ic (fun x y => x ≠ y) (t_X3_ranked_50) <|
  tb_iload 2 <|
  tb_iret
def t_X3_ranked_37 : am_T := tb_iinc 4 1 <|
  tb_head 15
def t_X3_ranked_15 : am_T := tb_iload 4 <|
  tb_aload 0 <|
  tb_getI 3 14 <|
  tb_ic (fun x y => y ≤ x) (t_X3_ranked_43) <|
  tb_aload 0 <|
  tb_iload 4 <|
  tb_iload 2 <|
  tb_callV 3 sp_X3_isBusier 3 <|
  tb_if (fun x => x = 0) (t_X3_ranked_37) <|
  tb_iinc 3 1 <|
  t_X3_ranked_37
def t_X3_ranked_2 : am_T := tb_iload 2 <|
  tb_aload 0 <|
  tb_getI 3 14 <|
  tb_ic (fun x y => y ≤ x) (t_X3_ranked_56) <|
  tb_const 0 <|
  tb_istore 3 <|
  tb_const 0 <|
  tb_istore 4 <|
  tb_head 15
def t_X3_ranked_0 : am_T := tb_const 0 <|
  tb_istore 2 <|
  tb_head 2
def h_X3_ranked : am_Hd := fun h => if h = 0 then t_X3_ranked_0 else if h = 2 then t_X3_ranked_2 else if h = 15 then t_X3_ranked_15 else tb_bad
theorem h_X3_ranked_0 : h_X3_ranked 0 = t_X3_ranked_0 := rfl
theorem h_X3_ranked_2 : h_X3_ranked 2 = t_X3_ranked_2 := rfl
theorem h_X3_ranked_15 : h_X3_ranked 15 = t_X3_ranked_15 := rfl
def rm_X3_ranked : Room := { frames := 2, cells := 0, slots := 0, locals := 45 }
def sp_X3_ranked : am_sp := fun as M Q => as.length ≤ 5 ∧ am_OK h_X3_ranked Q 0 (am_in 5 as) M
theorem s_X3_ranked_56 {G : am_G} {bc bs : Nat} (X : am_Cx G cX3_ranked RX3 "ranked" rm_X3_ranked (some .int) 5 bc bs true) : am_S G 56 (t_X3_ranked_56) := by
  unfold t_X3_ranked_56
  refine as_iconst (pc := 56) X dX3_ranked_56 (by decide) ?_
  exact as_iret (pc := 57) X ⟨rfl, rfl⟩ rfl dX3_ranked_57
theorem s_X3_ranked_50 {G : am_G} {bc bs : Nat} (X : am_Cx G cX3_ranked RX3 "ranked" rm_X3_ranked (some .int) 5 bc bs true) : am_S G 50 (t_X3_ranked_50) := by
  unfold t_X3_ranked_50
  refine as_iinc (pc := 50) X dX3_ranked_50 (by decide) (by decide) ?_
  exact as_goto (pc := 53) X 2 dX3_ranked_53 (by decide) (as_head)
theorem s_X3_ranked_43 {G : am_G} {bc bs : Nat} (X : am_Cx G cX3_ranked RX3 "ranked" rm_X3_ranked (some .int) 5 bc bs true) : am_S G 43 (t_X3_ranked_43) := by
  unfold t_X3_ranked_43
  refine as_iload_n (pc := 43) X dX3_ranked_43 rfl ?_
  refine as_iload_n (pc := 44) X dX3_ranked_44 rfl ?_
  refine as_ic_ne (pc := 45) X 50 dX3_ranked_45 (by decide) (s_X3_ranked_50 X) ?_
  refine as_iload_n (pc := 48) X dX3_ranked_48 rfl ?_
  exact as_iret (pc := 49) X ⟨rfl, rfl⟩ rfl dX3_ranked_49
theorem s_X3_ranked_37 {G : am_G} {bc bs : Nat} (X : am_Cx G cX3_ranked RX3 "ranked" rm_X3_ranked (some .int) 5 bc bs true) : am_S G 37 (t_X3_ranked_37) := by
  unfold t_X3_ranked_37
  refine as_iinc (pc := 37) X dX3_ranked_37 (by decide) (by decide) ?_
  exact as_goto (pc := 40) X 15 dX3_ranked_40 (by decide) (as_head)
theorem s_X3_ranked_15 {G : am_G} {bc bs : Nat} (X : am_Cx G cX3_ranked RX3 "ranked" rm_X3_ranked (some .int) 5 bc bs true) : am_S G 15 (t_X3_ranked_15) := by
  unfold t_X3_ranked_15
  refine as_iload (pc := 15) X dX3_ranked_15 ?_
  refine as_aload_n (pc := 17) X dX3_ranked_17 rfl ?_
  refine as_getI (ci := 3) (j := 14) (pc := 18) X (Cn := RX3) (Tf := TX3) (N := 17) rfl rfl (by decide) iw_X3 aw_180 rfl dX3_ranked_18 ?_
  refine as_ic_ge (pc := 21) X 43 dX3_ranked_21 (by decide) (s_X3_ranked_43 X) ?_
  refine as_aload_n (pc := 24) X dX3_ranked_24 rfl ?_
  refine as_iload (pc := 25) X dX3_ranked_25 ?_
  refine as_iload_n (pc := 27) X dX3_ranked_27 rfl ?_
  refine as_callV (ci := 3) (np := 2) (ix := 181) (pc := 28) X ct_X3_isBusier (Cn := (RX3, TX3, 17)) rfl ⟨rfl, rfl⟩ aw_624 aw_626 aw_16 aw_627 aw_60 (by decide +kernel) (by decide) dX3_ranked_28 ?_
  refine as_if_eq (pc := 31) X 37 dX3_ranked_31 (by decide) (s_X3_ranked_37 X) ?_
  refine as_iinc (pc := 34) X dX3_ranked_34 (by decide) (by decide) ?_
  exact s_X3_ranked_37 X
theorem s_X3_ranked_2 {G : am_G} {bc bs : Nat} (X : am_Cx G cX3_ranked RX3 "ranked" rm_X3_ranked (some .int) 5 bc bs true) : am_S G 2 (t_X3_ranked_2) := by
  unfold t_X3_ranked_2
  refine as_iload_n (pc := 2) X dX3_ranked_2 rfl ?_
  refine as_aload_n (pc := 3) X dX3_ranked_3 rfl ?_
  refine as_getI (ci := 3) (j := 14) (pc := 4) X (Cn := RX3) (Tf := TX3) (N := 17) rfl rfl (by decide) iw_X3 aw_180 rfl dX3_ranked_4 ?_
  refine as_ic_ge (pc := 7) X 56 dX3_ranked_7 (by decide) (s_X3_ranked_56 X) ?_
  refine as_iconst (pc := 10) X dX3_ranked_10 (by decide) ?_
  refine as_istore_n (pc := 11) X dX3_ranked_11 rfl ?_ (by decide)
  refine as_iconst (pc := 12) X dX3_ranked_12 (by decide) ?_
  refine as_istore (pc := 13) X dX3_ranked_13 ?_ (by decide)
  exact as_head
theorem s_X3_ranked_0 {G : am_G} {bc bs : Nat} (X : am_Cx G cX3_ranked RX3 "ranked" rm_X3_ranked (some .int) 5 bc bs true) : am_S G 0 (t_X3_ranked_0) := by
  unfold t_X3_ranked_0
  refine as_iconst (pc := 0) X dX3_ranked_0 (by decide) ?_
  refine as_istore_n (pc := 1) X dX3_ranked_1 rfl ?_ (by decide)
  exact as_head
theorem s_X3_ranked {G : am_G} {bc bs : Nat} (X : am_Cx G cX3_ranked RX3 "ranked" rm_X3_ranked (some .int) 5 bc bs true) (h : Nat) : am_S G h (h_X3_ranked h) := by
  unfold h_X3_ranked
  split
  · next e => rw [e]; exact s_X3_ranked_0 X
  split
  · next e => rw [e]; exact s_X3_ranked_2 X
  split
  · next e => rw [e]; exact s_X3_ranked_15 X
  exact as_bad
theorem ct_X3_ranked : am_Ct yX3_ranked cX3_ranked 5 (some .int) rm_X3_ranked sp_X3_ranked := am_met (own := RX3) (nm := "ranked") (by decide) rfl rfl (Or.inr (Or.inl rfl)) (fun _ _ => h_X3_ranked) (fun _ _ _ X => s_X3_ranked X) (fun _ _ _ _ h => h)
-- X4_busiest
theorem dX4_busiest_0 : decode cX4_busiest 0 = .ok (.iload_n 1, 1) := by decide +kernel
theorem dX4_busiest_1 : decode cX4_busiest 1 = .ok (.ifCond .ge 5, 3) := by decide +kernel
theorem dX4_busiest_4 : decode cX4_busiest 4 = .ok (.iconst (-1), 1) := by decide +kernel
theorem dX4_busiest_5 : decode cX4_busiest 5 = .ok (.ireturn, 1) := by decide +kernel
theorem dX4_busiest_6 : decode cX4_busiest 6 = .ok (.aload_n 0, 1) := by decide +kernel
theorem dX4_busiest_7 : decode cX4_busiest 7 = .ok (.invokevirtual 116, 3) := by decide +kernel
theorem dX4_busiest_10 : decode cX4_busiest 10 = .ok (.iload_n 1, 1) := by decide +kernel
theorem dX4_busiest_11 : decode cX4_busiest 11 = .ok (.invokevirtual 229, 3) := by decide +kernel
theorem dX4_busiest_14 : decode cX4_busiest 14 = .ok (.invokestatic 79, 3) := by decide +kernel
theorem dX4_busiest_17 : decode cX4_busiest 17 = .ok (.ireturn, 1) := by decide +kernel
def t_X4_busiest_6 : am_T := tb_aload 0 <|
  tb_callV 4 sp_X4_currentThreads 1 <|
  tb_iload 1 <|
  tb_callV 3 sp_X3_ranked 2 <|
  tb_callS sp_X4_orNotFound 1 <|
  tb_iret
def t_X4_busiest_0 : am_T := tb_iload 1 <|
  tb_if (fun x => 0 ≤ x) (t_X4_busiest_6) <|
  tb_const (-1) <|
  tb_iret
def h_X4_busiest : am_Hd := fun h => if h = 0 then t_X4_busiest_0 else tb_bad
theorem h_X4_busiest_0 : h_X4_busiest 0 = t_X4_busiest_0 := rfl
def rm_X4_busiest : Room := { frames := 6, cells := 0, slots := 0, locals := 133 }
def sp_X4_busiest : am_sp := fun as M Q => as.length ≤ 2 ∧ am_OK h_X4_busiest Q 0 (am_in 2 as) M
theorem s_X4_busiest_6 {G : am_G} {bc bs : Nat} (X : am_Cx G cX4_busiest RX4 "busiest" rm_X4_busiest (some .int) 2 bc bs true) : am_S G 6 (t_X4_busiest_6) := by
  unfold t_X4_busiest_6
  refine as_aload_n (pc := 6) X dX4_busiest_6 rfl ?_
  refine as_callV (ci := 4) (np := 0) (ix := 116) (pc := 7) X ct_X4_currentThreads (Cn := (RX4, TX4, 7)) rfl ⟨rfl, rfl⟩ aw_389 aw_391 aw_2 aw_392 aw_59 (by decide +kernel) (by decide) dX4_busiest_7 ?_
  refine as_iload_n (pc := 10) X dX4_busiest_10 rfl ?_
  refine as_callV (ci := 3) (np := 1) (ix := 229) (pc := 11) X ct_X3_ranked (Cn := (RX3, TX3, 17)) rfl ⟨rfl, rfl⟩ aw_620 aw_621 aw_622 aw_623 aw_60 (by decide +kernel) (by decide) dX4_busiest_11 ?_
  refine as_callS (np := 1) (ix := 79) (pc := 14) X ct_X4_orNotFound ⟨rfl, rfl⟩ aw_347 aw_348 aw_349 aw_59 (by decide +kernel) (by decide) dX4_busiest_14 ?_
  exact as_iret (pc := 17) X ⟨rfl, rfl⟩ rfl dX4_busiest_17
theorem s_X4_busiest_0 {G : am_G} {bc bs : Nat} (X : am_Cx G cX4_busiest RX4 "busiest" rm_X4_busiest (some .int) 2 bc bs true) : am_S G 0 (t_X4_busiest_0) := by
  unfold t_X4_busiest_0
  refine as_iload_n (pc := 0) X dX4_busiest_0 rfl ?_
  refine as_if_ge (pc := 1) X 6 dX4_busiest_1 (by decide) (s_X4_busiest_6 X) ?_
  refine as_iconst (pc := 4) X dX4_busiest_4 (by decide) ?_
  exact as_iret (pc := 5) X ⟨rfl, rfl⟩ rfl dX4_busiest_5
theorem s_X4_busiest {G : am_G} {bc bs : Nat} (X : am_Cx G cX4_busiest RX4 "busiest" rm_X4_busiest (some .int) 2 bc bs true) (h : Nat) : am_S G h (h_X4_busiest h) := by
  unfold h_X4_busiest
  split
  · next e => rw [e]; exact s_X4_busiest_0 X
  exact as_bad
theorem ct_X4_busiest : am_Ct yX4_busiest cX4_busiest 2 (some .int) rm_X4_busiest sp_X4_busiest := am_met (own := RX4) (nm := "busiest") (by decide) rfl rfl (Or.inr (Or.inl rfl)) (fun _ _ => h_X4_busiest) (fun _ _ _ X => s_X4_busiest X) (fun _ _ _ _ h => h)
-- X5_weightOf
theorem dX5_weightOf_0 : decode cX5_weightOf 0 = .ok (.aload_n 0, 1) := by decide +kernel
theorem dX5_weightOf_1 : decode cX5_weightOf 1 = .ok (.iload_n 1, 1) := by decide +kernel
theorem dX5_weightOf_2 : decode cX5_weightOf 2 = .ok (.invokevirtual 181, 3) := by decide +kernel
theorem dX5_weightOf_5 : decode cX5_weightOf 5 = .ok (.istore_n 2, 1) := by decide +kernel
theorem dX5_weightOf_6 : decode cX5_weightOf 6 = .ok (.bipush 30, 2) := by decide +kernel
theorem dX5_weightOf_8 : decode cX5_weightOf 8 = .ok (.iload_n 2, 1) := by decide +kernel
theorem dX5_weightOf_9 : decode cX5_weightOf 9 = .ok (.imul, 1) := by decide +kernel
theorem dX5_weightOf_10 : decode cX5_weightOf 10 = .ok (.aload_n 0, 1) := by decide +kernel
theorem dX5_weightOf_11 : decode cX5_weightOf 11 = .ok (.getfield 25, 3) := by decide +kernel
theorem dX5_weightOf_14 : decode cX5_weightOf 14 = .ok (.aload_n 0, 1) := by decide +kernel
theorem dX5_weightOf_15 : decode cX5_weightOf 15 = .ok (.getfield 46, 3) := by decide +kernel
theorem dX5_weightOf_18 : decode cX5_weightOf 18 = .ok (.iload_n 2, 1) := by decide +kernel
theorem dX5_weightOf_19 : decode cX5_weightOf 19 = .ok (.iconst 1, 1) := by decide +kernel
theorem dX5_weightOf_20 : decode cX5_weightOf 20 = .ok (.isub, 1) := by decide +kernel
theorem dX5_weightOf_21 : decode cX5_weightOf 21 = .ok (.iaload, 1) := by decide +kernel
theorem dX5_weightOf_22 : decode cX5_weightOf 22 = .ok (.iaload, 1) := by decide +kernel
theorem dX5_weightOf_23 : decode cX5_weightOf 23 = .ok (.iadd, 1) := by decide +kernel
theorem dX5_weightOf_24 : decode cX5_weightOf 24 = .ok (.ireturn, 1) := by decide +kernel
def t_X5_weightOf_0 : am_T := tb_aload 0 <|
  tb_iload 1 <|
  tb_callV 5 sp_X5_laysRow 2 <|
  tb_istore 2 <|
  tb_const 30 <|
  tb_iload 2 <|
  tb_bin (fun x y => x * y) <|
  tb_aload 0 <|
  tb_getR 5 7 <|
  tb_aload 0 <|
  tb_getR 5 15 <|
  tb_iload 2 <|
  tb_const 1 <|
  tb_bin (fun x y => x - y) <|
  tb_iald <|
  tb_iald <|
  tb_bin (fun x y => x + y) <|
  tb_iret
def h_X5_weightOf : am_Hd := fun h => if h = 0 then t_X5_weightOf_0 else tb_bad
theorem h_X5_weightOf_0 : h_X5_weightOf 0 = t_X5_weightOf_0 := rfl
def rm_X5_weightOf : Room := { frames := 1, cells := 0, slots := 0, locals := 23 }
def sp_X5_weightOf : am_sp := fun as M Q => as.length ≤ 3 ∧ am_OK h_X5_weightOf Q 0 (am_in 3 as) M
theorem s_X5_weightOf_0 {G : am_G} {bc bs : Nat} (X : am_Cx G cX5_weightOf RX5 "weightOf" rm_X5_weightOf (some .int) 3 bc bs true) : am_S G 0 (t_X5_weightOf_0) := by
  unfold t_X5_weightOf_0
  refine as_aload_n (pc := 0) X dX5_weightOf_0 rfl ?_
  refine as_iload_n (pc := 1) X dX5_weightOf_1 rfl ?_
  refine as_callV (ci := 5) (np := 1) (ix := 181) (pc := 2) X ct_X5_laysRow (Cn := (RX5, TX5, 21)) rfl ⟨rfl, rfl⟩ aw_990 aw_992 aw_46 aw_993 aw_65 (by decide +kernel) (by decide) dX5_weightOf_2 ?_
  refine as_istore_n (pc := 5) X dX5_weightOf_5 rfl ?_ (by decide)
  refine as_bipush (pc := 6) X dX5_weightOf_6 (by decide) ?_
  refine as_iload_n (pc := 8) X dX5_weightOf_8 rfl ?_
  refine as_imul (pc := 9) X dX5_weightOf_9 ?_
  refine as_aload_n (pc := 10) X dX5_weightOf_10 rfl ?_
  refine as_getR (ci := 5) (j := 7) (pc := 11) X (Cn := RX5) (Tf := TX5) (N := 21) rfl rfl (by decide) iw_X5 aw_745 rfl dX5_weightOf_11 ?_
  refine as_aload_n (pc := 14) X dX5_weightOf_14 rfl ?_
  refine as_getR (ci := 5) (j := 15) (pc := 15) X (Cn := RX5) (Tf := TX5) (N := 21) rfl rfl (by decide) iw_X5 aw_753 rfl dX5_weightOf_15 ?_
  refine as_iload_n (pc := 18) X dX5_weightOf_18 rfl ?_
  refine as_iconst (pc := 19) X dX5_weightOf_19 (by decide) ?_
  refine as_isub (pc := 20) X dX5_weightOf_20 ?_
  refine as_iald (pc := 21) X dX5_weightOf_21 ?_
  refine as_iald (pc := 22) X dX5_weightOf_22 ?_
  refine as_iadd (pc := 23) X dX5_weightOf_23 ?_
  exact as_iret (pc := 24) X ⟨rfl, rfl⟩ rfl dX5_weightOf_24
theorem s_X5_weightOf {G : am_G} {bc bs : Nat} (X : am_Cx G cX5_weightOf RX5 "weightOf" rm_X5_weightOf (some .int) 3 bc bs true) (h : Nat) : am_S G h (h_X5_weightOf h) := by
  unfold h_X5_weightOf
  split
  · next e => rw [e]; exact s_X5_weightOf_0 X
  exact as_bad
theorem ct_X5_weightOf : am_Ct yX5_weightOf cX5_weightOf 3 (some .int) rm_X5_weightOf sp_X5_weightOf := am_met (own := RX5) (nm := "weightOf") (by decide) rfl rfl (Or.inr (Or.inl rfl)) (fun _ _ => h_X5_weightOf) (fun _ _ _ X => s_X5_weightOf X) (fun _ _ _ _ h => h)
-- X5_busiest
theorem dX5_busiest_0 : decode cX5_busiest 0 = .ok (.iload_n 1, 1) := by decide +kernel
theorem dX5_busiest_1 : decode cX5_busiest 1 = .ok (.ifCond .ge 5, 3) := by decide +kernel
theorem dX5_busiest_4 : decode cX5_busiest 4 = .ok (.iconst (-1), 1) := by decide +kernel
theorem dX5_busiest_5 : decode cX5_busiest 5 = .ok (.ireturn, 1) := by decide +kernel
theorem dX5_busiest_6 : decode cX5_busiest 6 = .ok (.aload_n 0, 1) := by decide +kernel
theorem dX5_busiest_7 : decode cX5_busiest 7 = .ok (.aload_n 0, 1) := by decide +kernel
theorem dX5_busiest_8 : decode cX5_busiest 8 = .ok (.getfield 7, 3) := by decide +kernel
theorem dX5_busiest_11 : decode cX5_busiest 11 = .ok (.invokevirtual 145, 3) := by decide +kernel
theorem dX5_busiest_14 : decode cX5_busiest 14 = .ok (.iconst 0, 1) := by decide +kernel
theorem dX5_busiest_15 : decode cX5_busiest 15 = .ok (.istore_n 2, 1) := by decide +kernel
theorem dX5_busiest_16 : decode cX5_busiest 16 = .ok (.iload_n 2, 1) := by decide +kernel
theorem dX5_busiest_17 : decode cX5_busiest 17 = .ok (.aload_n 0, 1) := by decide +kernel
theorem dX5_busiest_18 : decode cX5_busiest 18 = .ok (.getfield 117, 3) := by decide +kernel
theorem dX5_busiest_21 : decode cX5_busiest 21 = .ok (.if_icmp .ge 64, 3) := by decide +kernel
theorem dX5_busiest_24 : decode cX5_busiest 24 = .ok (.aload_n 0, 1) := by decide +kernel
theorem dX5_busiest_25 : decode cX5_busiest 25 = .ok (.iload_n 2, 1) := by decide +kernel
theorem dX5_busiest_26 : decode cX5_busiest 26 = .ok (.invokevirtual 193, 3) := by decide +kernel
theorem dX5_busiest_29 : decode cX5_busiest 29 = .ok (.istore_n 3, 1) := by decide +kernel
theorem dX5_busiest_30 : decode cX5_busiest 30 = .ok (.iconst 0, 1) := by decide +kernel
theorem dX5_busiest_31 : decode cX5_busiest 31 = .ok (.istore 4, 2) := by decide +kernel
theorem dX5_busiest_33 : decode cX5_busiest 33 = .ok (.iconst 0, 1) := by decide +kernel
theorem dX5_busiest_34 : decode cX5_busiest 34 = .ok (.istore 5, 2) := by decide +kernel
theorem dX5_busiest_36 : decode cX5_busiest 36 = .ok (.iload 5, 2) := by decide +kernel
theorem dX5_busiest_38 : decode cX5_busiest 38 = .ok (.aload_n 0, 1) := by decide +kernel
theorem dX5_busiest_39 : decode cX5_busiest 39 = .ok (.getfield 117, 3) := by decide +kernel
theorem dX5_busiest_42 : decode cX5_busiest 42 = .ok (.if_icmp .ge 29, 3) := by decide +kernel
theorem dX5_busiest_45 : decode cX5_busiest 45 = .ok (.iload 4, 2) := by decide +kernel
theorem dX5_busiest_47 : decode cX5_busiest 47 = .ok (.aload_n 0, 1) := by decide +kernel
theorem dX5_busiest_48 : decode cX5_busiest 48 = .ok (.iload 5, 2) := by decide +kernel
theorem dX5_busiest_50 : decode cX5_busiest 50 = .ok (.invokevirtual 193, 3) := by decide +kernel
theorem dX5_busiest_53 : decode cX5_busiest 53 = .ok (.iload_n 3, 1) := by decide +kernel
theorem dX5_busiest_54 : decode cX5_busiest 54 = .ok (.if_icmp .le 7, 3) := by decide +kernel
theorem dX5_busiest_57 : decode cX5_busiest 57 = .ok (.iconst 1, 1) := by decide +kernel
theorem dX5_busiest_58 : decode cX5_busiest 58 = .ok (.goto 4, 3) := by decide +kernel
theorem dX5_busiest_61 : decode cX5_busiest 61 = .ok (.iconst 0, 1) := by decide +kernel
theorem dX5_busiest_62 : decode cX5_busiest 62 = .ok (.iadd, 1) := by decide +kernel
theorem dX5_busiest_63 : decode cX5_busiest 63 = .ok (.istore 4, 2) := by decide +kernel
theorem dX5_busiest_65 : decode cX5_busiest 65 = .ok (.iinc 5 1, 3) := by decide +kernel
theorem dX5_busiest_68 : decode cX5_busiest 68 = .ok (.goto (-32), 3) := by decide +kernel
theorem dX5_busiest_71 : decode cX5_busiest 71 = .ok (.iload 4, 2) := by decide +kernel
theorem dX5_busiest_73 : decode cX5_busiest 73 = .ok (.iload_n 1, 1) := by decide +kernel
theorem dX5_busiest_74 : decode cX5_busiest 74 = .ok (.if_icmp .ne 5, 3) := by decide +kernel
theorem dX5_busiest_77 : decode cX5_busiest 77 = .ok (.iload_n 2, 1) := by decide +kernel
theorem dX5_busiest_78 : decode cX5_busiest 78 = .ok (.ireturn, 1) := by decide +kernel
theorem dX5_busiest_79 : decode cX5_busiest 79 = .ok (.iinc 2 1, 3) := by decide +kernel
theorem dX5_busiest_82 : decode cX5_busiest 82 = .ok (.goto (-66), 3) := by decide +kernel
theorem dX5_busiest_85 : decode cX5_busiest 85 = .ok (.bipush (-4), 2) := by decide +kernel
theorem dX5_busiest_87 : decode cX5_busiest 87 = .ok (.ireturn, 1) := by decide +kernel
def t_X5_busiest_85 : am_T := tb_const (-4) <|
  tb_iret
def t_X5_busiest_79 : am_T := tb_iinc 2 1 <|
  tb_head 16
def t_X5_busiest_71 : am_T := tb_iload 4 <|
  tb_iload 1 <|
  tb_ic (fun x y => x ≠ y) (t_X5_busiest_79) <|
  tb_iload 2 <|
  tb_iret
def t_X5_busiest_62 : am_T := tb_bin (fun x y => x + y) <|
  tb_istore 4 <|
  tb_iinc 5 1 <|
  tb_head 36
def t_X5_busiest_61 : am_T := tb_const 0 <|
  t_X5_busiest_62
def t_X5_busiest_36 : am_T := tb_iload 5 <|
  tb_aload 0 <|
  tb_getI 5 14 <|
  tb_ic (fun x y => y ≤ x) (t_X5_busiest_71) <|
  tb_iload 4 <|
  tb_aload 0 <|
  tb_iload 5 <|
  tb_callV 5 sp_X5_weightOf 2 <|
  tb_iload 3 <|
  tb_ic (fun x y => x ≤ y) (t_X5_busiest_61) <|
  tb_const 1 <|
  t_X5_busiest_62
def t_X5_busiest_16 : am_T := tb_iload 2 <|
  tb_aload 0 <|
  tb_getI 5 14 <|
  tb_ic (fun x y => y ≤ x) (t_X5_busiest_85) <|
  tb_aload 0 <|
  tb_iload 2 <|
  tb_callV 5 sp_X5_weightOf 2 <|
  tb_istore 3 <|
  tb_const 0 <|
  tb_istore 4 <|
  tb_const 0 <|
  tb_istore 5 <|
  tb_head 36
def t_X5_busiest_6 : am_T := tb_aload 0 <|
  tb_aload 0 <|
  tb_getR 5 0 <|
  tb_callV 5 sp_X5_lays 2 <|
  tb_const 0 <|
  tb_istore 2 <|
  tb_head 16
def t_X5_busiest_0 : am_T := tb_iload 1 <|
  tb_if (fun x => 0 ≤ x) (t_X5_busiest_6) <|
  tb_const (-1) <|
  tb_iret
def h_X5_busiest : am_Hd := fun h => if h = 0 then t_X5_busiest_0 else if h = 16 then t_X5_busiest_16 else if h = 36 then t_X5_busiest_36 else tb_bad
theorem h_X5_busiest_0 : h_X5_busiest 0 = t_X5_busiest_0 := rfl
theorem h_X5_busiest_16 : h_X5_busiest 16 = t_X5_busiest_16 := rfl
theorem h_X5_busiest_36 : h_X5_busiest 36 = t_X5_busiest_36 := rfl
def rm_X5_busiest : Room := { frames := 6, cells := 0, slots := 0, locals := 145 }
def sp_X5_busiest : am_sp := fun as M Q => as.length ≤ 6 ∧ am_OK h_X5_busiest Q 0 (am_in 6 as) M
theorem s_X5_busiest_85 {G : am_G} {bc bs : Nat} (X : am_Cx G cX5_busiest RX5 "busiest" rm_X5_busiest (some .int) 6 bc bs true) : am_S G 85 (t_X5_busiest_85) := by
  unfold t_X5_busiest_85
  refine as_bipush (pc := 85) X dX5_busiest_85 (by decide) ?_
  exact as_iret (pc := 87) X ⟨rfl, rfl⟩ rfl dX5_busiest_87
theorem s_X5_busiest_79 {G : am_G} {bc bs : Nat} (X : am_Cx G cX5_busiest RX5 "busiest" rm_X5_busiest (some .int) 6 bc bs true) : am_S G 79 (t_X5_busiest_79) := by
  unfold t_X5_busiest_79
  refine as_iinc (pc := 79) X dX5_busiest_79 (by decide) (by decide) ?_
  exact as_goto (pc := 82) X 16 dX5_busiest_82 (by decide) (as_head)
theorem s_X5_busiest_71 {G : am_G} {bc bs : Nat} (X : am_Cx G cX5_busiest RX5 "busiest" rm_X5_busiest (some .int) 6 bc bs true) : am_S G 71 (t_X5_busiest_71) := by
  unfold t_X5_busiest_71
  refine as_iload (pc := 71) X dX5_busiest_71 ?_
  refine as_iload_n (pc := 73) X dX5_busiest_73 rfl ?_
  refine as_ic_ne (pc := 74) X 79 dX5_busiest_74 (by decide) (s_X5_busiest_79 X) ?_
  refine as_iload_n (pc := 77) X dX5_busiest_77 rfl ?_
  exact as_iret (pc := 78) X ⟨rfl, rfl⟩ rfl dX5_busiest_78
theorem s_X5_busiest_62 {G : am_G} {bc bs : Nat} (X : am_Cx G cX5_busiest RX5 "busiest" rm_X5_busiest (some .int) 6 bc bs true) : am_S G 62 (t_X5_busiest_62) := by
  unfold t_X5_busiest_62
  refine as_iadd (pc := 62) X dX5_busiest_62 ?_
  refine as_istore (pc := 63) X dX5_busiest_63 ?_ (by decide)
  refine as_iinc (pc := 65) X dX5_busiest_65 (by decide) (by decide) ?_
  exact as_goto (pc := 68) X 36 dX5_busiest_68 (by decide) (as_head)
theorem s_X5_busiest_61 {G : am_G} {bc bs : Nat} (X : am_Cx G cX5_busiest RX5 "busiest" rm_X5_busiest (some .int) 6 bc bs true) : am_S G 61 (t_X5_busiest_61) := by
  unfold t_X5_busiest_61
  refine as_iconst (pc := 61) X dX5_busiest_61 (by decide) ?_
  exact s_X5_busiest_62 X
theorem s_X5_busiest_36 {G : am_G} {bc bs : Nat} (X : am_Cx G cX5_busiest RX5 "busiest" rm_X5_busiest (some .int) 6 bc bs true) : am_S G 36 (t_X5_busiest_36) := by
  unfold t_X5_busiest_36
  refine as_iload (pc := 36) X dX5_busiest_36 ?_
  refine as_aload_n (pc := 38) X dX5_busiest_38 rfl ?_
  refine as_getI (ci := 5) (j := 14) (pc := 39) X (Cn := RX5) (Tf := TX5) (N := 21) rfl rfl (by decide) iw_X5 aw_752 rfl dX5_busiest_39 ?_
  refine as_ic_ge (pc := 42) X 71 dX5_busiest_42 (by decide) (s_X5_busiest_71 X) ?_
  refine as_iload (pc := 45) X dX5_busiest_45 ?_
  refine as_aload_n (pc := 47) X dX5_busiest_47 rfl ?_
  refine as_iload (pc := 48) X dX5_busiest_48 ?_
  refine as_callV (ci := 5) (np := 1) (ix := 193) (pc := 50) X ct_X5_weightOf (Cn := (RX5, TX5, 21)) rfl ⟨rfl, rfl⟩ aw_1014 aw_1016 aw_50 aw_1017 aw_65 (by decide +kernel) (by decide) dX5_busiest_50 ?_
  refine as_iload_n (pc := 53) X dX5_busiest_53 rfl ?_
  refine as_ic_le (pc := 54) X 61 dX5_busiest_54 (by decide) (s_X5_busiest_61 X) ?_
  refine as_iconst (pc := 57) X dX5_busiest_57 (by decide) ?_
  exact as_goto (pc := 58) X 62 dX5_busiest_58 (by decide) (s_X5_busiest_62 X)
theorem s_X5_busiest_16 {G : am_G} {bc bs : Nat} (X : am_Cx G cX5_busiest RX5 "busiest" rm_X5_busiest (some .int) 6 bc bs true) : am_S G 16 (t_X5_busiest_16) := by
  unfold t_X5_busiest_16
  refine as_iload_n (pc := 16) X dX5_busiest_16 rfl ?_
  refine as_aload_n (pc := 17) X dX5_busiest_17 rfl ?_
  refine as_getI (ci := 5) (j := 14) (pc := 18) X (Cn := RX5) (Tf := TX5) (N := 21) rfl rfl (by decide) iw_X5 aw_752 rfl dX5_busiest_18 ?_
  refine as_ic_ge (pc := 21) X 85 dX5_busiest_21 (by decide) (s_X5_busiest_85 X) ?_
  refine as_aload_n (pc := 24) X dX5_busiest_24 rfl ?_
  refine as_iload_n (pc := 25) X dX5_busiest_25 rfl ?_
  refine as_callV (ci := 5) (np := 1) (ix := 193) (pc := 26) X ct_X5_weightOf (Cn := (RX5, TX5, 21)) rfl ⟨rfl, rfl⟩ aw_1014 aw_1016 aw_50 aw_1017 aw_65 (by decide +kernel) (by decide) dX5_busiest_26 ?_
  refine as_istore_n (pc := 29) X dX5_busiest_29 rfl ?_ (by decide)
  refine as_iconst (pc := 30) X dX5_busiest_30 (by decide) ?_
  refine as_istore (pc := 31) X dX5_busiest_31 ?_ (by decide)
  refine as_iconst (pc := 33) X dX5_busiest_33 (by decide) ?_
  refine as_istore (pc := 34) X dX5_busiest_34 ?_ (by decide)
  exact as_head
theorem s_X5_busiest_6 {G : am_G} {bc bs : Nat} (X : am_Cx G cX5_busiest RX5 "busiest" rm_X5_busiest (some .int) 6 bc bs true) : am_S G 6 (t_X5_busiest_6) := by
  unfold t_X5_busiest_6
  refine as_aload_n (pc := 6) X dX5_busiest_6 rfl ?_
  refine as_aload_n (pc := 7) X dX5_busiest_7 rfl ?_
  refine as_getR (ci := 5) (j := 0) (pc := 8) X (Cn := RX5) (Tf := TX5) (N := 21) rfl rfl (by decide) iw_X5 aw_738 rfl dX5_busiest_8 ?_
  refine as_callV (ci := 5) (np := 1) (ix := 145) (pc := 11) X ct_X5_lays (Cn := (RX5, TX5, 21)) rfl ⟨rfl, rfl⟩ aw_861 aw_863 aw_29 aw_864 aw_65 (by decide +kernel) (by decide) dX5_busiest_11 ?_
  refine as_iconst (pc := 14) X dX5_busiest_14 (by decide) ?_
  refine as_istore_n (pc := 15) X dX5_busiest_15 rfl ?_ (by decide)
  exact as_head
theorem s_X5_busiest_0 {G : am_G} {bc bs : Nat} (X : am_Cx G cX5_busiest RX5 "busiest" rm_X5_busiest (some .int) 6 bc bs true) : am_S G 0 (t_X5_busiest_0) := by
  unfold t_X5_busiest_0
  refine as_iload_n (pc := 0) X dX5_busiest_0 rfl ?_
  refine as_if_ge (pc := 1) X 6 dX5_busiest_1 (by decide) (s_X5_busiest_6 X) ?_
  refine as_iconst (pc := 4) X dX5_busiest_4 (by decide) ?_
  exact as_iret (pc := 5) X ⟨rfl, rfl⟩ rfl dX5_busiest_5
theorem s_X5_busiest {G : am_G} {bc bs : Nat} (X : am_Cx G cX5_busiest RX5 "busiest" rm_X5_busiest (some .int) 6 bc bs true) (h : Nat) : am_S G h (h_X5_busiest h) := by
  unfold h_X5_busiest
  split
  · next e => rw [e]; exact s_X5_busiest_0 X
  split
  · next e => rw [e]; exact s_X5_busiest_16 X
  split
  · next e => rw [e]; exact s_X5_busiest_36 X
  exact as_bad
theorem ct_X5_busiest : am_Ct yX5_busiest cX5_busiest 6 (some .int) rm_X5_busiest sp_X5_busiest := am_met (own := RX5) (nm := "busiest") (by decide) rfl rfl (Or.inr (Or.inl rfl)) (fun _ _ => h_X5_busiest) (fun _ _ _ X => s_X5_busiest X) (fun _ _ _ _ h => h)
-- X3_answersBetween
theorem dX3_answersBetween_0 : decode cX3_answersBetween 0 = .ok (.iconst 0, 1) := by decide +kernel
theorem dX3_answersBetween_1 : decode cX3_answersBetween 1 = .ok (.istore_n 3, 1) := by decide +kernel
theorem dX3_answersBetween_2 : decode cX3_answersBetween 2 = .ok (.iconst 0, 1) := by decide +kernel
theorem dX3_answersBetween_3 : decode cX3_answersBetween 3 = .ok (.istore 4, 2) := by decide +kernel
theorem dX3_answersBetween_5 : decode cX3_answersBetween 5 = .ok (.iload 4, 2) := by decide +kernel
theorem dX3_answersBetween_7 : decode cX3_answersBetween 7 = .ok (.aload_n 0, 1) := by decide +kernel
theorem dX3_answersBetween_8 : decode cX3_answersBetween 8 = .ok (.getfield 12, 3) := by decide +kernel
theorem dX3_answersBetween_11 : decode cX3_answersBetween 11 = .ok (.getfield 71, 3) := by decide +kernel
theorem dX3_answersBetween_14 : decode cX3_answersBetween 14 = .ok (.if_icmp .ge 55, 3) := by decide +kernel
theorem dX3_answersBetween_17 : decode cX3_answersBetween 17 = .ok (.aload_n 0, 1) := by decide +kernel
theorem dX3_answersBetween_18 : decode cX3_answersBetween 18 = .ok (.getfield 43, 3) := by decide +kernel
theorem dX3_answersBetween_21 : decode cX3_answersBetween 21 = .ok (.iload 4, 2) := by decide +kernel
theorem dX3_answersBetween_23 : decode cX3_answersBetween 23 = .ok (.iaload, 1) := by decide +kernel
theorem dX3_answersBetween_24 : decode cX3_answersBetween 24 = .ok (.istore 5, 2) := by decide +kernel
theorem dX3_answersBetween_26 : decode cX3_answersBetween 26 = .ok (.iload 5, 2) := by decide +kernel
theorem dX3_answersBetween_28 : decode cX3_answersBetween 28 = .ok (.iconst (-1), 1) := by decide +kernel
theorem dX3_answersBetween_29 : decode cX3_answersBetween 29 = .ok (.if_icmp .eq 34, 3) := by decide +kernel
theorem dX3_answersBetween_32 : decode cX3_answersBetween 32 = .ok (.aload_n 0, 1) := by decide +kernel
theorem dX3_answersBetween_33 : decode cX3_answersBetween 33 = .ok (.getfield 12, 3) := by decide +kernel
theorem dX3_answersBetween_36 : decode cX3_answersBetween 36 = .ok (.getfield 98, 3) := by decide +kernel
theorem dX3_answersBetween_39 : decode cX3_answersBetween 39 = .ok (.iload 4, 2) := by decide +kernel
theorem dX3_answersBetween_41 : decode cX3_answersBetween 41 = .ok (.iaload, 1) := by decide +kernel
theorem dX3_answersBetween_42 : decode cX3_answersBetween 42 = .ok (.iload_n 1, 1) := by decide +kernel
theorem dX3_answersBetween_43 : decode cX3_answersBetween 43 = .ok (.if_icmp .ne 20, 3) := by decide +kernel
theorem dX3_answersBetween_46 : decode cX3_answersBetween 46 = .ok (.aload_n 0, 1) := by decide +kernel
theorem dX3_answersBetween_47 : decode cX3_answersBetween 47 = .ok (.getfield 12, 3) := by decide +kernel
theorem dX3_answersBetween_50 : decode cX3_answersBetween 50 = .ok (.getfield 98, 3) := by decide +kernel
theorem dX3_answersBetween_53 : decode cX3_answersBetween 53 = .ok (.iload 5, 2) := by decide +kernel
theorem dX3_answersBetween_55 : decode cX3_answersBetween 55 = .ok (.iaload, 1) := by decide +kernel
theorem dX3_answersBetween_56 : decode cX3_answersBetween 56 = .ok (.iload_n 2, 1) := by decide +kernel
theorem dX3_answersBetween_57 : decode cX3_answersBetween 57 = .ok (.if_icmp .ne 6, 3) := by decide +kernel
theorem dX3_answersBetween_60 : decode cX3_answersBetween 60 = .ok (.iinc 3 1, 3) := by decide +kernel
theorem dX3_answersBetween_63 : decode cX3_answersBetween 63 = .ok (.iinc 4 1, 3) := by decide +kernel
theorem dX3_answersBetween_66 : decode cX3_answersBetween 66 = .ok (.goto (-61), 3) := by decide +kernel
theorem dX3_answersBetween_69 : decode cX3_answersBetween 69 = .ok (.iload_n 3, 1) := by decide +kernel
theorem dX3_answersBetween_70 : decode cX3_answersBetween 70 = .ok (.ireturn, 1) := by decide +kernel
def t_X3_answersBetween_69 : am_T := tb_iload 3 <|
  tb_iret
def t_X3_answersBetween_63 : am_T := tb_iinc 4 1 <|
  tb_head 5
def t_X3_answersBetween_5 : am_T := tb_iload 4 <|
  tb_aload 0 <|
  tb_getR 3 0 <|
  tb_getI 1 4 <|
  tb_ic (fun x y => y ≤ x) (t_X3_answersBetween_69) <|
  tb_aload 0 <|
  tb_getR 3 9 <|
  tb_iload 4 <|
  tb_iald <|
  tb_istore 5 <|
  tb_iload 5 <|
  tb_const (-1) <|
  tb_ic (fun x y => x = y) (t_X3_answersBetween_63) <|
  tb_aload 0 <|
  tb_getR 3 0 <|
  tb_getR 1 6 <|
  tb_iload 4 <|
  tb_iald <|
  tb_iload 1 <|
  tb_ic (fun x y => x ≠ y) (t_X3_answersBetween_63) <|
  tb_aload 0 <|
  tb_getR 3 0 <|
  tb_getR 1 6 <|
  tb_iload 5 <|
  tb_iald <|
  tb_iload 2 <|
  tb_ic (fun x y => x ≠ y) (t_X3_answersBetween_63) <|
  tb_iinc 3 1 <|
  t_X3_answersBetween_63
def t_X3_answersBetween_0 : am_T := tb_const 0 <|
  tb_istore 3 <|
  tb_const 0 <|
  tb_istore 4 <|
  tb_head 5
def h_X3_answersBetween : am_Hd := fun h => if h = 0 then t_X3_answersBetween_0 else if h = 5 then t_X3_answersBetween_5 else tb_bad
theorem h_X3_answersBetween_0 : h_X3_answersBetween 0 = t_X3_answersBetween_0 := rfl
theorem h_X3_answersBetween_5 : h_X3_answersBetween 5 = t_X3_answersBetween_5 := rfl
def rm_X3_answersBetween : Room := { frames := 0, cells := 0, slots := 0, locals := 0 }
def sp_X3_answersBetween : am_sp := fun as M Q => as.length ≤ 6 ∧ am_OK h_X3_answersBetween Q 0 (am_in 6 as) M
theorem s_X3_answersBetween_69 {G : am_G} {bc bs : Nat} (X : am_Cx G cX3_answersBetween RX3 "answersBetween" rm_X3_answersBetween (some .int) 6 bc bs true) : am_S G 69 (t_X3_answersBetween_69) := by
  unfold t_X3_answersBetween_69
  refine as_iload_n (pc := 69) X dX3_answersBetween_69 rfl ?_
  exact as_iret (pc := 70) X ⟨rfl, rfl⟩ rfl dX3_answersBetween_70
theorem s_X3_answersBetween_63 {G : am_G} {bc bs : Nat} (X : am_Cx G cX3_answersBetween RX3 "answersBetween" rm_X3_answersBetween (some .int) 6 bc bs true) : am_S G 63 (t_X3_answersBetween_63) := by
  unfold t_X3_answersBetween_63
  refine as_iinc (pc := 63) X dX3_answersBetween_63 (by decide) (by decide) ?_
  exact as_goto (pc := 66) X 5 dX3_answersBetween_66 (by decide) (as_head)
theorem s_X3_answersBetween_5 {G : am_G} {bc bs : Nat} (X : am_Cx G cX3_answersBetween RX3 "answersBetween" rm_X3_answersBetween (some .int) 6 bc bs true) : am_S G 5 (t_X3_answersBetween_5) := by
  unfold t_X3_answersBetween_5
  refine as_iload (pc := 5) X dX3_answersBetween_5 ?_
  refine as_aload_n (pc := 7) X dX3_answersBetween_7 rfl ?_
  refine as_getR (ci := 3) (j := 0) (pc := 8) X (Cn := RX3) (Tf := TX3) (N := 17) rfl rfl (by decide) iw_X3 aw_159 rfl dX3_answersBetween_8 ?_
  refine as_getI (ci := 1) (j := 4) (pc := 11) X (Cn := RX1) (Tf := TX1) (N := 14) rfl rfl (by decide) iw_X1 aw_99 rfl dX3_answersBetween_11 ?_
  refine as_ic_ge (pc := 14) X 69 dX3_answersBetween_14 (by decide) (s_X3_answersBetween_69 X) ?_
  refine as_aload_n (pc := 17) X dX3_answersBetween_17 rfl ?_
  refine as_getR (ci := 3) (j := 9) (pc := 18) X (Cn := RX3) (Tf := TX3) (N := 17) rfl rfl (by decide) iw_X3 aw_172 rfl dX3_answersBetween_18 ?_
  refine as_iload (pc := 21) X dX3_answersBetween_21 ?_
  refine as_iald (pc := 23) X dX3_answersBetween_23 ?_
  refine as_istore (pc := 24) X dX3_answersBetween_24 ?_ (by decide)
  refine as_iload (pc := 26) X dX3_answersBetween_26 ?_
  refine as_iconst (pc := 28) X dX3_answersBetween_28 (by decide) ?_
  refine as_ic_eq (pc := 29) X 63 dX3_answersBetween_29 (by decide) (s_X3_answersBetween_63 X) ?_
  refine as_aload_n (pc := 32) X dX3_answersBetween_32 rfl ?_
  refine as_getR (ci := 3) (j := 0) (pc := 33) X (Cn := RX3) (Tf := TX3) (N := 17) rfl rfl (by decide) iw_X3 aw_159 rfl dX3_answersBetween_33 ?_
  refine as_getR (ci := 1) (j := 6) (pc := 36) X (Cn := RX1) (Tf := TX1) (N := 14) rfl rfl (by decide) iw_X1 aw_106 rfl dX3_answersBetween_36 ?_
  refine as_iload (pc := 39) X dX3_answersBetween_39 ?_
  refine as_iald (pc := 41) X dX3_answersBetween_41 ?_
  refine as_iload_n (pc := 42) X dX3_answersBetween_42 rfl ?_
  refine as_ic_ne (pc := 43) X 63 dX3_answersBetween_43 (by decide) (s_X3_answersBetween_63 X) ?_
  refine as_aload_n (pc := 46) X dX3_answersBetween_46 rfl ?_
  refine as_getR (ci := 3) (j := 0) (pc := 47) X (Cn := RX3) (Tf := TX3) (N := 17) rfl rfl (by decide) iw_X3 aw_159 rfl dX3_answersBetween_47 ?_
  refine as_getR (ci := 1) (j := 6) (pc := 50) X (Cn := RX1) (Tf := TX1) (N := 14) rfl rfl (by decide) iw_X1 aw_106 rfl dX3_answersBetween_50 ?_
  refine as_iload (pc := 53) X dX3_answersBetween_53 ?_
  refine as_iald (pc := 55) X dX3_answersBetween_55 ?_
  refine as_iload_n (pc := 56) X dX3_answersBetween_56 rfl ?_
  refine as_ic_ne (pc := 57) X 63 dX3_answersBetween_57 (by decide) (s_X3_answersBetween_63 X) ?_
  refine as_iinc (pc := 60) X dX3_answersBetween_60 (by decide) (by decide) ?_
  exact s_X3_answersBetween_63 X
theorem s_X3_answersBetween_0 {G : am_G} {bc bs : Nat} (X : am_Cx G cX3_answersBetween RX3 "answersBetween" rm_X3_answersBetween (some .int) 6 bc bs true) : am_S G 0 (t_X3_answersBetween_0) := by
  unfold t_X3_answersBetween_0
  refine as_iconst (pc := 0) X dX3_answersBetween_0 (by decide) ?_
  refine as_istore_n (pc := 1) X dX3_answersBetween_1 rfl ?_ (by decide)
  refine as_iconst (pc := 2) X dX3_answersBetween_2 (by decide) ?_
  refine as_istore (pc := 3) X dX3_answersBetween_3 ?_ (by decide)
  exact as_head
theorem s_X3_answersBetween {G : am_G} {bc bs : Nat} (X : am_Cx G cX3_answersBetween RX3 "answersBetween" rm_X3_answersBetween (some .int) 6 bc bs true) (h : Nat) : am_S G h (h_X3_answersBetween h) := by
  unfold h_X3_answersBetween
  split
  · next e => rw [e]; exact s_X3_answersBetween_0 X
  split
  · next e => rw [e]; exact s_X3_answersBetween_5 X
  exact as_bad
theorem ct_X3_answersBetween : am_Ct yX3_answersBetween cX3_answersBetween 6 (some .int) rm_X3_answersBetween sp_X3_answersBetween := am_met (own := RX3) (nm := "answersBetween") (by decide) rfl rfl (Or.inr (Or.inl rfl)) (fun _ _ => h_X3_answersBetween) (fun _ _ _ X => s_X3_answersBetween X) (fun _ _ _ _ h => h)
-- X4_answers
theorem dX4_answers_0 : decode cX4_answers 0 = .ok (.iload_n 1, 1) := by decide +kernel
theorem dX4_answers_1 : decode cX4_answers 1 = .ok (.invokestatic 45, 3) := by decide +kernel
theorem dX4_answers_4 : decode cX4_answers 4 = .ok (.ifCond .eq 10, 3) := by decide +kernel
theorem dX4_answers_7 : decode cX4_answers 7 = .ok (.iload_n 2, 1) := by decide +kernel
theorem dX4_answers_8 : decode cX4_answers 8 = .ok (.invokestatic 45, 3) := by decide +kernel
theorem dX4_answers_11 : decode cX4_answers 11 = .ok (.ifCond .ne 5, 3) := by decide +kernel
theorem dX4_answers_14 : decode cX4_answers 14 = .ok (.iconst (-1), 1) := by decide +kernel
theorem dX4_answers_15 : decode cX4_answers 15 = .ok (.ireturn, 1) := by decide +kernel
theorem dX4_answers_16 : decode cX4_answers 16 = .ok (.aload_n 0, 1) := by decide +kernel
theorem dX4_answers_17 : decode cX4_answers 17 = .ok (.invokevirtual 116, 3) := by decide +kernel
theorem dX4_answers_20 : decode cX4_answers 20 = .ok (.iload_n 1, 1) := by decide +kernel
theorem dX4_answers_21 : decode cX4_answers 21 = .ok (.iload_n 2, 1) := by decide +kernel
theorem dX4_answers_22 : decode cX4_answers 22 = .ok (.invokevirtual 232, 3) := by decide +kernel
theorem dX4_answers_25 : decode cX4_answers 25 = .ok (.ireturn, 1) := by decide +kernel
def t_X4_answers_16 : am_T := tb_aload 0 <|
  tb_callV 4 sp_X4_currentThreads 1 <|
  tb_iload 1 <|
  tb_iload 2 <|
  tb_callV 3 sp_X3_answersBetween 3 <|
  tb_iret
def t_X4_answers_14 : am_T := tb_const (-1) <|
  tb_iret
def t_X4_answers_0 : am_T := tb_iload 1 <|
  tb_callS sp_X4_isPerson 1 <|
  tb_if (fun x => x = 0) (t_X4_answers_14) <|
  tb_iload 2 <|
  tb_callS sp_X4_isPerson 1 <|
  tb_if (fun x => x ≠ 0) (t_X4_answers_16) <|
  t_X4_answers_14
def h_X4_answers : am_Hd := fun h => if h = 0 then t_X4_answers_0 else tb_bad
theorem h_X4_answers_0 : h_X4_answers 0 = t_X4_answers_0 := rfl
def rm_X4_answers : Room := { frames := 6, cells := 0, slots := 0, locals := 133 }
def sp_X4_answers : am_sp := fun as M Q => as.length ≤ 3 ∧ am_OK h_X4_answers Q 0 (am_in 3 as) M
theorem s_X4_answers_16 {G : am_G} {bc bs : Nat} (X : am_Cx G cX4_answers RX4 "answers" rm_X4_answers (some .int) 3 bc bs true) : am_S G 16 (t_X4_answers_16) := by
  unfold t_X4_answers_16
  refine as_aload_n (pc := 16) X dX4_answers_16 rfl ?_
  refine as_callV (ci := 4) (np := 0) (ix := 116) (pc := 17) X ct_X4_currentThreads (Cn := (RX4, TX4, 7)) rfl ⟨rfl, rfl⟩ aw_389 aw_391 aw_2 aw_392 aw_59 (by decide +kernel) (by decide) dX4_answers_17 ?_
  refine as_iload_n (pc := 20) X dX4_answers_20 rfl ?_
  refine as_iload_n (pc := 21) X dX4_answers_21 rfl ?_
  refine as_callV (ci := 3) (np := 2) (ix := 232) (pc := 22) X ct_X3_answersBetween (Cn := (RX3, TX3, 17)) rfl ⟨rfl, rfl⟩ aw_632 aw_633 aw_634 aw_635 aw_60 (by decide +kernel) (by decide) dX4_answers_22 ?_
  exact as_iret (pc := 25) X ⟨rfl, rfl⟩ rfl dX4_answers_25
theorem s_X4_answers_14 {G : am_G} {bc bs : Nat} (X : am_Cx G cX4_answers RX4 "answers" rm_X4_answers (some .int) 3 bc bs true) : am_S G 14 (t_X4_answers_14) := by
  unfold t_X4_answers_14
  refine as_iconst (pc := 14) X dX4_answers_14 (by decide) ?_
  exact as_iret (pc := 15) X ⟨rfl, rfl⟩ rfl dX4_answers_15
theorem s_X4_answers_0 {G : am_G} {bc bs : Nat} (X : am_Cx G cX4_answers RX4 "answers" rm_X4_answers (some .int) 3 bc bs true) : am_S G 0 (t_X4_answers_0) := by
  unfold t_X4_answers_0
  refine as_iload_n (pc := 0) X dX4_answers_0 rfl ?_
  refine as_callS (np := 1) (ix := 45) (pc := 1) X ct_X4_isPerson ⟨rfl, rfl⟩ aw_300 aw_301 aw_302 aw_59 (by decide +kernel) (by decide) dX4_answers_1 ?_
  refine as_if_eq (pc := 4) X 14 dX4_answers_4 (by decide) (s_X4_answers_14 X) ?_
  refine as_iload_n (pc := 7) X dX4_answers_7 rfl ?_
  refine as_callS (np := 1) (ix := 45) (pc := 8) X ct_X4_isPerson ⟨rfl, rfl⟩ aw_300 aw_301 aw_302 aw_59 (by decide +kernel) (by decide) dX4_answers_8 ?_
  refine as_if_ne (pc := 11) X 16 dX4_answers_11 (by decide) (s_X4_answers_16 X) ?_
  exact s_X4_answers_14 X
theorem s_X4_answers {G : am_G} {bc bs : Nat} (X : am_Cx G cX4_answers RX4 "answers" rm_X4_answers (some .int) 3 bc bs true) (h : Nat) : am_S G h (h_X4_answers h) := by
  unfold h_X4_answers
  split
  · next e => rw [e]; exact s_X4_answers_0 X
  exact as_bad
theorem ct_X4_answers : am_Ct yX4_answers cX4_answers 3 (some .int) rm_X4_answers sp_X4_answers := am_met (own := RX4) (nm := "answers") (by decide) rfl rfl (Or.inr (Or.inl rfl)) (fun _ _ => h_X4_answers) (fun _ _ _ X => s_X4_answers X) (fun _ _ _ _ h => h)
