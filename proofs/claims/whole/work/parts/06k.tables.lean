-- X5_type
theorem dX5_type_0 : decode cX5_type 0 = .ok (.iload_n 1, 1) := by decide +kernel
theorem dX5_type_1 : decode cX5_type 1 = .ok (.bipush 32, 2) := by decide +kernel
theorem dX5_type_3 : decode cX5_type 3 = .ok (.bipush 126, 2) := by decide +kernel
theorem dX5_type_5 : decode cX5_type 5 = .ok (.invokestatic 60, 3) := by decide +kernel
theorem dX5_type_8 : decode cX5_type 8 = .ok (.ifCond .ne 5, 3) := by decide +kernel
theorem dX5_type_11 : decode cX5_type 11 = .ok (.iconst (-1), 1) := by decide +kernel
theorem dX5_type_12 : decode cX5_type 12 = .ok (.ireturn, 1) := by decide +kernel
theorem dX5_type_13 : decode cX5_type 13 = .ok (.aload_n 0, 1) := by decide +kernel
theorem dX5_type_14 : decode cX5_type 14 = .ok (.getfield 165, 3) := by decide +kernel
theorem dX5_type_17 : decode cX5_type 17 = .ok (.bipush 80, 2) := by decide +kernel
theorem dX5_type_19 : decode cX5_type 19 = .ok (.if_icmp .ne 6, 3) := by decide +kernel
theorem dX5_type_22 : decode cX5_type 22 = .ok (.bipush (-3), 2) := by decide +kernel
theorem dX5_type_24 : decode cX5_type 24 = .ok (.ireturn, 1) := by decide +kernel
theorem dX5_type_25 : decode cX5_type 25 = .ok (.aload_n 0, 1) := by decide +kernel
theorem dX5_type_26 : decode cX5_type 26 = .ok (.getfield 19, 3) := by decide +kernel
theorem dX5_type_29 : decode cX5_type 29 = .ok (.aload_n 0, 1) := by decide +kernel
theorem dX5_type_30 : decode cX5_type 30 = .ok (.getfield 165, 3) := by decide +kernel
theorem dX5_type_33 : decode cX5_type 33 = .ok (.iload_n 1, 1) := by decide +kernel
theorem dX5_type_34 : decode cX5_type 34 = .ok (.iastore, 1) := by decide +kernel
theorem dX5_type_35 : decode cX5_type 35 = .ok (.aload_n 0, 1) := by decide +kernel
theorem dX5_type_36 : decode cX5_type 36 = .ok (.dup, 1) := by decide +kernel
theorem dX5_type_37 : decode cX5_type 37 = .ok (.getfield 165, 3) := by decide +kernel
theorem dX5_type_40 : decode cX5_type 40 = .ok (.iconst 1, 1) := by decide +kernel
theorem dX5_type_41 : decode cX5_type 41 = .ok (.iadd, 1) := by decide +kernel
theorem dX5_type_42 : decode cX5_type 42 = .ok (.putfield 165, 3) := by decide +kernel
theorem dX5_type_45 : decode cX5_type 45 = .ok (.aload_n 0, 1) := by decide +kernel
theorem dX5_type_46 : decode cX5_type 46 = .ok (.getfield 165, 3) := by decide +kernel
theorem dX5_type_49 : decode cX5_type 49 = .ok (.ireturn, 1) := by decide +kernel
def t_X5_type_25 : am_T := tb_aload 0 <|
  tb_getR 5 4 <|
  tb_aload 0 <|
  tb_getI 5 5 <|
  tb_iload 1 <|
  tb_iast <|
  tb_aload 0 <|
  tb_dup <|
  tb_getI 5 5 <|
  tb_const 1 <|
  tb_bin (fun x y => x + y) <|
  tb_putI 5 5 <|
  tb_aload 0 <|
  tb_getI 5 5 <|
  tb_iret
def t_X5_type_13 : am_T := tb_aload 0 <|
  tb_getI 5 5 <|
  tb_const 80 <|
  tb_ic (fun x y => x ≠ y) (t_X5_type_25) <|
  tb_const (-3) <|
  tb_iret
def t_X5_type_0 : am_T := tb_iload 1 <|
  tb_const 32 <|
  tb_const 126 <|
  tb_callS sp_X5_in 3 <|
  tb_if (fun x => x ≠ 0) (t_X5_type_13) <|
  tb_const (-1) <|
  tb_iret
def h_X5_type : am_Hd := fun h => if h = 0 then t_X5_type_0 else tb_bad
theorem h_X5_type_0 : h_X5_type 0 = t_X5_type_0 := rfl
def rm_X5_type : Room := { frames := 1, cells := 0, slots := 0, locals := 22 }
def sp_X5_type : am_sp := fun as M Q => as.length ≤ 2 ∧ am_OK h_X5_type Q 0 (am_in 2 as) M
theorem s_X5_type_25 {G : am_G} {bc bs : Nat} (X : am_Cx G cX5_type RX5 "type" rm_X5_type (some .int) 2 bc bs true) : am_S G 25 (t_X5_type_25) := by
  unfold t_X5_type_25
  refine as_aload_n (pc := 25) X dX5_type_25 rfl ?_
  refine as_getR (ci := 5) (j := 4) (pc := 26) X (Cn := RX5) (Tf := TX5) (N := 21) rfl rfl (by decide) iw_X5 aw_742 rfl dX5_type_26 ?_
  refine as_aload_n (pc := 29) X dX5_type_29 rfl ?_
  refine as_getI (ci := 5) (j := 5) (pc := 30) X (Cn := RX5) (Tf := TX5) (N := 21) rfl rfl (by decide) iw_X5 aw_743 rfl dX5_type_30 ?_
  refine as_iload_n (pc := 33) X dX5_type_33 rfl ?_
  refine as_iast (pc := 34) X dX5_type_34 ?_
  refine as_aload_n (pc := 35) X dX5_type_35 rfl ?_
  refine as_dup (pc := 36) X dX5_type_36 ?_
  refine as_getI (ci := 5) (j := 5) (pc := 37) X (Cn := RX5) (Tf := TX5) (N := 21) rfl rfl (by decide) iw_X5 aw_743 rfl dX5_type_37 ?_
  refine as_iconst (pc := 40) X dX5_type_40 (by decide) ?_
  refine as_iadd (pc := 41) X dX5_type_41 ?_
  refine as_putI (ci := 5) (j := 5) (pc := 42) X (Cn := RX5) (Tf := TX5) (N := 21) rfl rfl (by decide) iw_X5 aw_743 tyX5 tyX5_ok nmX5 rfl rfl (by decide +kernel) dX5_type_42 ?_
  refine as_aload_n (pc := 45) X dX5_type_45 rfl ?_
  refine as_getI (ci := 5) (j := 5) (pc := 46) X (Cn := RX5) (Tf := TX5) (N := 21) rfl rfl (by decide) iw_X5 aw_743 rfl dX5_type_46 ?_
  exact as_iret (pc := 49) X ⟨rfl, rfl⟩ rfl dX5_type_49
theorem s_X5_type_13 {G : am_G} {bc bs : Nat} (X : am_Cx G cX5_type RX5 "type" rm_X5_type (some .int) 2 bc bs true) : am_S G 13 (t_X5_type_13) := by
  unfold t_X5_type_13
  refine as_aload_n (pc := 13) X dX5_type_13 rfl ?_
  refine as_getI (ci := 5) (j := 5) (pc := 14) X (Cn := RX5) (Tf := TX5) (N := 21) rfl rfl (by decide) iw_X5 aw_743 rfl dX5_type_14 ?_
  refine as_bipush (pc := 17) X dX5_type_17 (by decide) ?_
  refine as_ic_ne (pc := 19) X 25 dX5_type_19 (by decide) (s_X5_type_25 X) ?_
  refine as_bipush (pc := 22) X dX5_type_22 (by decide) ?_
  exact as_iret (pc := 24) X ⟨rfl, rfl⟩ rfl dX5_type_24
theorem s_X5_type_0 {G : am_G} {bc bs : Nat} (X : am_Cx G cX5_type RX5 "type" rm_X5_type (some .int) 2 bc bs true) : am_S G 0 (t_X5_type_0) := by
  unfold t_X5_type_0
  refine as_iload_n (pc := 0) X dX5_type_0 rfl ?_
  refine as_bipush (pc := 1) X dX5_type_1 (by decide) ?_
  refine as_bipush (pc := 3) X dX5_type_3 (by decide) ?_
  refine as_callS (np := 3) (ix := 60) (pc := 5) X ct_X5_in ⟨rfl, rfl⟩ aw_806 aw_807 aw_808 aw_65 (by decide +kernel) (by decide) dX5_type_5 ?_
  refine as_if_ne (pc := 8) X 13 dX5_type_8 (by decide) (s_X5_type_13 X) ?_
  refine as_iconst (pc := 11) X dX5_type_11 (by decide) ?_
  exact as_iret (pc := 12) X ⟨rfl, rfl⟩ rfl dX5_type_12
theorem s_X5_type {G : am_G} {bc bs : Nat} (X : am_Cx G cX5_type RX5 "type" rm_X5_type (some .int) 2 bc bs true) (h : Nat) : am_S G h (h_X5_type h) := by
  unfold h_X5_type
  split
  · next e => rw [e]; exact s_X5_type_0 X
  exact as_bad
theorem ct_X5_type : am_Ct yX5_type cX5_type 2 (some .int) rm_X5_type sp_X5_type := am_met (own := RX5) (nm := "type") (by decide) rfl rfl (Or.inr (Or.inl rfl)) (fun _ _ => h_X5_type) (fun _ _ _ X => s_X5_type X) (fun _ _ _ _ h => h)
-- X4_clearText
theorem dX4_clearText_0 : decode cX4_clearText 0 = .ok (.aload_n 0, 1) := by decide +kernel
theorem dX4_clearText_1 : decode cX4_clearText 1 = .ok (.getfield 35, 3) := by decide +kernel
theorem dX4_clearText_4 : decode cX4_clearText 4 = .ok (.getfield 173, 3) := by decide +kernel
theorem dX4_clearText_7 : decode cX4_clearText 7 = .ok (.istore_n 1, 1) := by decide +kernel
theorem dX4_clearText_8 : decode cX4_clearText 8 = .ok (.aload_n 0, 1) := by decide +kernel
theorem dX4_clearText_9 : decode cX4_clearText 9 = .ok (.getfield 35, 3) := by decide +kernel
theorem dX4_clearText_12 : decode cX4_clearText 12 = .ok (.iconst 0, 1) := by decide +kernel
theorem dX4_clearText_13 : decode cX4_clearText 13 = .ok (.putfield 173, 3) := by decide +kernel
theorem dX4_clearText_16 : decode cX4_clearText 16 = .ok (.iload_n 1, 1) := by decide +kernel
theorem dX4_clearText_17 : decode cX4_clearText 17 = .ok (.ireturn, 1) := by decide +kernel
def t_X4_clearText_0 : am_T := tb_aload 0 <|
  tb_getR 4 4 <|
  tb_getI 2 0 <|
  tb_istore 1 <|
  tb_aload 0 <|
  tb_getR 4 4 <|
  tb_const 0 <|
  tb_putI 2 0 <|
  tb_iload 1 <|
  tb_iret
def h_X4_clearText : am_Hd := fun h => if h = 0 then t_X4_clearText_0 else tb_bad
theorem h_X4_clearText_0 : h_X4_clearText 0 = t_X4_clearText_0 := rfl
def rm_X4_clearText : Room := { frames := 0, cells := 0, slots := 0, locals := 0 }
def sp_X4_clearText : am_sp := fun as M Q => as.length ≤ 2 ∧ am_OK h_X4_clearText Q 0 (am_in 2 as) M
theorem s_X4_clearText_0 {G : am_G} {bc bs : Nat} (X : am_Cx G cX4_clearText RX4 "clearText" rm_X4_clearText (some .int) 2 bc bs true) : am_S G 0 (t_X4_clearText_0) := by
  unfold t_X4_clearText_0
  refine as_aload_n (pc := 0) X dX4_clearText_0 rfl ?_
  refine as_getR (ci := 4) (j := 4) (pc := 1) X (Cn := RX4) (Tf := TX4) (N := 7) rfl rfl (by decide) iw_X4 aw_278 rfl dX4_clearText_1 ?_
  refine as_getI (ci := 2) (j := 0) (pc := 4) X (Cn := RX2) (Tf := TX2) (N := 8) rfl rfl (by decide) iw_X2 aw_245 rfl dX4_clearText_4 ?_
  refine as_istore_n (pc := 7) X dX4_clearText_7 rfl ?_ (by decide)
  refine as_aload_n (pc := 8) X dX4_clearText_8 rfl ?_
  refine as_getR (ci := 4) (j := 4) (pc := 9) X (Cn := RX4) (Tf := TX4) (N := 7) rfl rfl (by decide) iw_X4 aw_278 rfl dX4_clearText_9 ?_
  refine as_iconst (pc := 12) X dX4_clearText_12 (by decide) ?_
  refine as_putI (ci := 2) (j := 0) (pc := 13) X (Cn := RX2) (Tf := TX2) (N := 8) rfl rfl (by decide) iw_X2 aw_245 tyX2 tyX2_ok nmX2 rfl rfl (by decide +kernel) dX4_clearText_13 ?_
  refine as_iload_n (pc := 16) X dX4_clearText_16 rfl ?_
  exact as_iret (pc := 17) X ⟨rfl, rfl⟩ rfl dX4_clearText_17
theorem s_X4_clearText {G : am_G} {bc bs : Nat} (X : am_Cx G cX4_clearText RX4 "clearText" rm_X4_clearText (some .int) 2 bc bs true) (h : Nat) : am_S G h (h_X4_clearText h) := by
  unfold h_X4_clearText
  split
  · next e => rw [e]; exact s_X4_clearText_0 X
  exact as_bad
theorem ct_X4_clearText : am_Ct yX4_clearText cX4_clearText 2 (some .int) rm_X4_clearText sp_X4_clearText := am_met (own := RX4) (nm := "clearText") (by decide) rfl rfl (Or.inr (Or.inl rfl)) (fun _ _ => h_X4_clearText) (fun _ _ _ X => s_X4_clearText X) (fun _ _ _ _ h => h)
-- X5_clearText
theorem dX5_clearText_0 : decode cX5_clearText 0 = .ok (.aload_n 0, 1) := by decide +kernel
theorem dX5_clearText_1 : decode cX5_clearText 1 = .ok (.getfield 165, 3) := by decide +kernel
theorem dX5_clearText_4 : decode cX5_clearText 4 = .ok (.istore_n 1, 1) := by decide +kernel
theorem dX5_clearText_5 : decode cX5_clearText 5 = .ok (.aload_n 0, 1) := by decide +kernel
theorem dX5_clearText_6 : decode cX5_clearText 6 = .ok (.iconst 0, 1) := by decide +kernel
theorem dX5_clearText_7 : decode cX5_clearText 7 = .ok (.putfield 165, 3) := by decide +kernel
theorem dX5_clearText_10 : decode cX5_clearText 10 = .ok (.iload_n 1, 1) := by decide +kernel
theorem dX5_clearText_11 : decode cX5_clearText 11 = .ok (.ireturn, 1) := by decide +kernel
def t_X5_clearText_0 : am_T := tb_aload 0 <|
  tb_getI 5 5 <|
  tb_istore 1 <|
  tb_aload 0 <|
  tb_const 0 <|
  tb_putI 5 5 <|
  tb_iload 1 <|
  tb_iret
def h_X5_clearText : am_Hd := fun h => if h = 0 then t_X5_clearText_0 else tb_bad
theorem h_X5_clearText_0 : h_X5_clearText 0 = t_X5_clearText_0 := rfl
def rm_X5_clearText : Room := { frames := 0, cells := 0, slots := 0, locals := 0 }
def sp_X5_clearText : am_sp := fun as M Q => as.length ≤ 2 ∧ am_OK h_X5_clearText Q 0 (am_in 2 as) M
theorem s_X5_clearText_0 {G : am_G} {bc bs : Nat} (X : am_Cx G cX5_clearText RX5 "clearText" rm_X5_clearText (some .int) 2 bc bs true) : am_S G 0 (t_X5_clearText_0) := by
  unfold t_X5_clearText_0
  refine as_aload_n (pc := 0) X dX5_clearText_0 rfl ?_
  refine as_getI (ci := 5) (j := 5) (pc := 1) X (Cn := RX5) (Tf := TX5) (N := 21) rfl rfl (by decide) iw_X5 aw_743 rfl dX5_clearText_1 ?_
  refine as_istore_n (pc := 4) X dX5_clearText_4 rfl ?_ (by decide)
  refine as_aload_n (pc := 5) X dX5_clearText_5 rfl ?_
  refine as_iconst (pc := 6) X dX5_clearText_6 (by decide) ?_
  refine as_putI (ci := 5) (j := 5) (pc := 7) X (Cn := RX5) (Tf := TX5) (N := 21) rfl rfl (by decide) iw_X5 aw_743 tyX5 tyX5_ok nmX5 rfl rfl (by decide +kernel) dX5_clearText_7 ?_
  refine as_iload_n (pc := 10) X dX5_clearText_10 rfl ?_
  exact as_iret (pc := 11) X ⟨rfl, rfl⟩ rfl dX5_clearText_11
theorem s_X5_clearText {G : am_G} {bc bs : Nat} (X : am_Cx G cX5_clearText RX5 "clearText" rm_X5_clearText (some .int) 2 bc bs true) (h : Nat) : am_S G h (h_X5_clearText h) := by
  unfold h_X5_clearText
  split
  · next e => rw [e]; exact s_X5_clearText_0 X
  exact as_bad
theorem ct_X5_clearText : am_Ct yX5_clearText cX5_clearText 2 (some .int) rm_X5_clearText sp_X5_clearText := am_met (own := RX5) (nm := "clearText") (by decide) rfl rfl (Or.inr (Or.inl rfl)) (fun _ _ => h_X5_clearText) (fun _ _ _ X => s_X5_clearText X) (fun _ _ _ _ h => h)
-- X2_numbersDue
theorem dX2_numbersDue_0 : decode cX2_numbersDue 0 = .ok (.aload_n 0, 1) := by decide +kernel
theorem dX2_numbersDue_1 : decode cX2_numbersDue 1 = .ok (.getfield 28, 3) := by decide +kernel
theorem dX2_numbersDue_4 : decode cX2_numbersDue 4 = .ok (.bipush 108, 2) := by decide +kernel
theorem dX2_numbersDue_6 : decode cX2_numbersDue 6 = .ok (.if_icmp .ne 5, 3) := by decide +kernel
theorem dX2_numbersDue_9 : decode cX2_numbersDue 9 = .ok (.iconst 4, 1) := by decide +kernel
theorem dX2_numbersDue_10 : decode cX2_numbersDue 10 = .ok (.ireturn, 1) := by decide +kernel
theorem dX2_numbersDue_11 : decode cX2_numbersDue 11 = .ok (.aload_n 0, 1) := by decide +kernel
theorem dX2_numbersDue_12 : decode cX2_numbersDue 12 = .ok (.getfield 28, 3) := by decide +kernel
theorem dX2_numbersDue_15 : decode cX2_numbersDue 15 = .ok (.bipush 98, 2) := by decide +kernel
theorem dX2_numbersDue_17 : decode cX2_numbersDue 17 = .ok (.if_icmp .ne 5, 3) := by decide +kernel
theorem dX2_numbersDue_20 : decode cX2_numbersDue 20 = .ok (.iconst 1, 1) := by decide +kernel
theorem dX2_numbersDue_21 : decode cX2_numbersDue 21 = .ok (.ireturn, 1) := by decide +kernel
theorem dX2_numbersDue_22 : decode cX2_numbersDue 22 = .ok (.aload_n 0, 1) := by decide +kernel
theorem dX2_numbersDue_23 : decode cX2_numbersDue 23 = .ok (.getfield 28, 3) := by decide +kernel
theorem dX2_numbersDue_26 : decode cX2_numbersDue 26 = .ok (.bipush 97, 2) := by decide +kernel
theorem dX2_numbersDue_28 : decode cX2_numbersDue 28 = .ok (.if_icmp .eq 12, 3) := by decide +kernel
theorem dX2_numbersDue_31 : decode cX2_numbersDue 31 = .ok (.aload_n 0, 1) := by decide +kernel
theorem dX2_numbersDue_32 : decode cX2_numbersDue 32 = .ok (.getfield 28, 3) := by decide +kernel
theorem dX2_numbersDue_35 : decode cX2_numbersDue 35 = .ok (.bipush 110, 2) := by decide +kernel
theorem dX2_numbersDue_37 : decode cX2_numbersDue 37 = .ok (.if_icmp .ne 7, 3) := by decide +kernel
theorem dX2_numbersDue_40 : decode cX2_numbersDue 40 = .ok (.iconst 2, 1) := by decide +kernel
theorem dX2_numbersDue_41 : decode cX2_numbersDue 41 = .ok (.goto 4, 3) := by decide +kernel
theorem dX2_numbersDue_44 : decode cX2_numbersDue 44 = .ok (.iconst 0, 1) := by decide +kernel
theorem dX2_numbersDue_45 : decode cX2_numbersDue 45 = .ok (.ireturn, 1) := by decide +kernel
def t_X2_numbersDue_45 : am_T := tb_iret
def t_X2_numbersDue_44 : am_T := tb_const 0 <|
  t_X2_numbersDue_45
def t_X2_numbersDue_40 : am_T := tb_const 2 <|
  t_X2_numbersDue_45
def t_X2_numbersDue_22 : am_T := tb_aload 0 <|
  tb_getI 2 5 <|
  tb_const 97 <|
  tb_ic (fun x y => x = y) (t_X2_numbersDue_40) <|
  tb_aload 0 <|
  tb_getI 2 5 <|
  tb_const 110 <|
  tb_ic (fun x y => x ≠ y) (t_X2_numbersDue_44) <|
  t_X2_numbersDue_40
def t_X2_numbersDue_11 : am_T := tb_aload 0 <|
  tb_getI 2 5 <|
  tb_const 98 <|
  tb_ic (fun x y => x ≠ y) (t_X2_numbersDue_22) <|
  tb_const 1 <|
  tb_iret
def t_X2_numbersDue_0 : am_T := tb_aload 0 <|
  tb_getI 2 5 <|
  tb_const 108 <|
  tb_ic (fun x y => x ≠ y) (t_X2_numbersDue_11) <|
  tb_const 4 <|
  tb_iret
def h_X2_numbersDue : am_Hd := fun h => if h = 0 then t_X2_numbersDue_0 else tb_bad
theorem h_X2_numbersDue_0 : h_X2_numbersDue 0 = t_X2_numbersDue_0 := rfl
def rm_X2_numbersDue : Room := { frames := 0, cells := 0, slots := 0, locals := 0 }
def sp_X2_numbersDue : am_sp := fun as M Q => as.length ≤ 1 ∧ am_OK h_X2_numbersDue Q 0 (am_in 1 as) M
theorem s_X2_numbersDue_45 {G : am_G} {bc bs : Nat} (X : am_Cx G cX2_numbersDue RX2 "numbersDue" rm_X2_numbersDue (some .int) 1 bc bs true) : am_S G 45 (t_X2_numbersDue_45) := by
  unfold t_X2_numbersDue_45
  exact as_iret (pc := 45) X ⟨rfl, rfl⟩ rfl dX2_numbersDue_45
theorem s_X2_numbersDue_44 {G : am_G} {bc bs : Nat} (X : am_Cx G cX2_numbersDue RX2 "numbersDue" rm_X2_numbersDue (some .int) 1 bc bs true) : am_S G 44 (t_X2_numbersDue_44) := by
  unfold t_X2_numbersDue_44
  refine as_iconst (pc := 44) X dX2_numbersDue_44 (by decide) ?_
  exact s_X2_numbersDue_45 X
theorem s_X2_numbersDue_40 {G : am_G} {bc bs : Nat} (X : am_Cx G cX2_numbersDue RX2 "numbersDue" rm_X2_numbersDue (some .int) 1 bc bs true) : am_S G 40 (t_X2_numbersDue_40) := by
  unfold t_X2_numbersDue_40
  refine as_iconst (pc := 40) X dX2_numbersDue_40 (by decide) ?_
  exact as_goto (pc := 41) X 45 dX2_numbersDue_41 (by decide) (s_X2_numbersDue_45 X)
theorem s_X2_numbersDue_22 {G : am_G} {bc bs : Nat} (X : am_Cx G cX2_numbersDue RX2 "numbersDue" rm_X2_numbersDue (some .int) 1 bc bs true) : am_S G 22 (t_X2_numbersDue_22) := by
  unfold t_X2_numbersDue_22
  refine as_aload_n (pc := 22) X dX2_numbersDue_22 rfl ?_
  refine as_getI (ci := 2) (j := 5) (pc := 23) X (Cn := RX2) (Tf := TX2) (N := 8) rfl rfl (by decide) iw_X2 aw_253 rfl dX2_numbersDue_23 ?_
  refine as_bipush (pc := 26) X dX2_numbersDue_26 (by decide) ?_
  refine as_ic_eq (pc := 28) X 40 dX2_numbersDue_28 (by decide) (s_X2_numbersDue_40 X) ?_
  refine as_aload_n (pc := 31) X dX2_numbersDue_31 rfl ?_
  refine as_getI (ci := 2) (j := 5) (pc := 32) X (Cn := RX2) (Tf := TX2) (N := 8) rfl rfl (by decide) iw_X2 aw_253 rfl dX2_numbersDue_32 ?_
  refine as_bipush (pc := 35) X dX2_numbersDue_35 (by decide) ?_
  refine as_ic_ne (pc := 37) X 44 dX2_numbersDue_37 (by decide) (s_X2_numbersDue_44 X) ?_
  exact s_X2_numbersDue_40 X
theorem s_X2_numbersDue_11 {G : am_G} {bc bs : Nat} (X : am_Cx G cX2_numbersDue RX2 "numbersDue" rm_X2_numbersDue (some .int) 1 bc bs true) : am_S G 11 (t_X2_numbersDue_11) := by
  unfold t_X2_numbersDue_11
  refine as_aload_n (pc := 11) X dX2_numbersDue_11 rfl ?_
  refine as_getI (ci := 2) (j := 5) (pc := 12) X (Cn := RX2) (Tf := TX2) (N := 8) rfl rfl (by decide) iw_X2 aw_253 rfl dX2_numbersDue_12 ?_
  refine as_bipush (pc := 15) X dX2_numbersDue_15 (by decide) ?_
  refine as_ic_ne (pc := 17) X 22 dX2_numbersDue_17 (by decide) (s_X2_numbersDue_22 X) ?_
  refine as_iconst (pc := 20) X dX2_numbersDue_20 (by decide) ?_
  exact as_iret (pc := 21) X ⟨rfl, rfl⟩ rfl dX2_numbersDue_21
theorem s_X2_numbersDue_0 {G : am_G} {bc bs : Nat} (X : am_Cx G cX2_numbersDue RX2 "numbersDue" rm_X2_numbersDue (some .int) 1 bc bs true) : am_S G 0 (t_X2_numbersDue_0) := by
  unfold t_X2_numbersDue_0
  refine as_aload_n (pc := 0) X dX2_numbersDue_0 rfl ?_
  refine as_getI (ci := 2) (j := 5) (pc := 1) X (Cn := RX2) (Tf := TX2) (N := 8) rfl rfl (by decide) iw_X2 aw_253 rfl dX2_numbersDue_1 ?_
  refine as_bipush (pc := 4) X dX2_numbersDue_4 (by decide) ?_
  refine as_ic_ne (pc := 6) X 11 dX2_numbersDue_6 (by decide) (s_X2_numbersDue_11 X) ?_
  refine as_iconst (pc := 9) X dX2_numbersDue_9 (by decide) ?_
  exact as_iret (pc := 10) X ⟨rfl, rfl⟩ rfl dX2_numbersDue_10
theorem s_X2_numbersDue {G : am_G} {bc bs : Nat} (X : am_Cx G cX2_numbersDue RX2 "numbersDue" rm_X2_numbersDue (some .int) 1 bc bs true) (h : Nat) : am_S G h (h_X2_numbersDue h) := by
  unfold h_X2_numbersDue
  split
  · next e => rw [e]; exact s_X2_numbersDue_0 X
  exact as_bad
theorem ct_X2_numbersDue : am_Ct yX2_numbersDue cX2_numbersDue 1 (some .int) rm_X2_numbersDue sp_X2_numbersDue := am_met (own := RX2) (nm := "numbersDue") (by decide) rfl rfl (Or.inr (Or.inl rfl)) (fun _ _ => h_X2_numbersDue) (fun _ _ _ X => s_X2_numbersDue X) (fun _ _ _ _ h => h)
-- X2_readNumber
theorem dX2_readNumber_0 : decode cX2_readNumber 0 = .ok (.iconst 0, 1) := by decide +kernel
theorem dX2_readNumber_1 : decode cX2_readNumber 1 = .ok (.istore_n 1, 1) := by decide +kernel
theorem dX2_readNumber_2 : decode cX2_readNumber 2 = .ok (.iconst 0, 1) := by decide +kernel
theorem dX2_readNumber_3 : decode cX2_readNumber 3 = .ok (.istore_n 2, 1) := by decide +kernel
theorem dX2_readNumber_4 : decode cX2_readNumber 4 = .ok (.iload_n 2, 1) := by decide +kernel
theorem dX2_readNumber_5 : decode cX2_readNumber 5 = .ok (.bipush 6, 2) := by decide +kernel
theorem dX2_readNumber_7 : decode cX2_readNumber 7 = .ok (.if_icmp .ge 76, 3) := by decide +kernel
theorem dX2_readNumber_10 : decode cX2_readNumber 10 = .ok (.aload_n 0, 1) := by decide +kernel
theorem dX2_readNumber_11 : decode cX2_readNumber 11 = .ok (.getfield 32, 3) := by decide +kernel
theorem dX2_readNumber_14 : decode cX2_readNumber 14 = .ok (.aload_n 0, 1) := by decide +kernel
theorem dX2_readNumber_15 : decode cX2_readNumber 15 = .ok (.getfield 9, 3) := by decide +kernel
theorem dX2_readNumber_18 : decode cX2_readNumber 18 = .ok (.if_icmp .ge 65, 3) := by decide +kernel
theorem dX2_readNumber_21 : decode cX2_readNumber 21 = .ok (.aload_n 0, 1) := by decide +kernel
theorem dX2_readNumber_22 : decode cX2_readNumber 22 = .ok (.getfield 15, 3) := by decide +kernel
theorem dX2_readNumber_25 : decode cX2_readNumber 25 = .ok (.aload_n 0, 1) := by decide +kernel
theorem dX2_readNumber_26 : decode cX2_readNumber 26 = .ok (.getfield 32, 3) := by decide +kernel
theorem dX2_readNumber_29 : decode cX2_readNumber 29 = .ok (.caload, 1) := by decide +kernel
theorem dX2_readNumber_30 : decode cX2_readNumber 30 = .ok (.bipush 48, 2) := by decide +kernel
theorem dX2_readNumber_32 : decode cX2_readNumber 32 = .ok (.if_icmp .lt 51, 3) := by decide +kernel
theorem dX2_readNumber_35 : decode cX2_readNumber 35 = .ok (.aload_n 0, 1) := by decide +kernel
theorem dX2_readNumber_36 : decode cX2_readNumber 36 = .ok (.getfield 15, 3) := by decide +kernel
theorem dX2_readNumber_39 : decode cX2_readNumber 39 = .ok (.aload_n 0, 1) := by decide +kernel
theorem dX2_readNumber_40 : decode cX2_readNumber 40 = .ok (.getfield 32, 3) := by decide +kernel
theorem dX2_readNumber_43 : decode cX2_readNumber 43 = .ok (.caload, 1) := by decide +kernel
theorem dX2_readNumber_44 : decode cX2_readNumber 44 = .ok (.bipush 57, 2) := by decide +kernel
theorem dX2_readNumber_46 : decode cX2_readNumber 46 = .ok (.if_icmp .gt 37, 3) := by decide +kernel
theorem dX2_readNumber_49 : decode cX2_readNumber 49 = .ok (.iload_n 1, 1) := by decide +kernel
theorem dX2_readNumber_50 : decode cX2_readNumber 50 = .ok (.bipush 10, 2) := by decide +kernel
theorem dX2_readNumber_52 : decode cX2_readNumber 52 = .ok (.imul, 1) := by decide +kernel
theorem dX2_readNumber_53 : decode cX2_readNumber 53 = .ok (.aload_n 0, 1) := by decide +kernel
theorem dX2_readNumber_54 : decode cX2_readNumber 54 = .ok (.getfield 15, 3) := by decide +kernel
theorem dX2_readNumber_57 : decode cX2_readNumber 57 = .ok (.aload_n 0, 1) := by decide +kernel
theorem dX2_readNumber_58 : decode cX2_readNumber 58 = .ok (.getfield 32, 3) := by decide +kernel
theorem dX2_readNumber_61 : decode cX2_readNumber 61 = .ok (.caload, 1) := by decide +kernel
theorem dX2_readNumber_62 : decode cX2_readNumber 62 = .ok (.bipush 48, 2) := by decide +kernel
theorem dX2_readNumber_64 : decode cX2_readNumber 64 = .ok (.isub, 1) := by decide +kernel
theorem dX2_readNumber_65 : decode cX2_readNumber 65 = .ok (.iadd, 1) := by decide +kernel
theorem dX2_readNumber_66 : decode cX2_readNumber 66 = .ok (.istore_n 1, 1) := by decide +kernel
theorem dX2_readNumber_67 : decode cX2_readNumber 67 = .ok (.iinc 2 1, 3) := by decide +kernel
theorem dX2_readNumber_70 : decode cX2_readNumber 70 = .ok (.aload_n 0, 1) := by decide +kernel
theorem dX2_readNumber_71 : decode cX2_readNumber 71 = .ok (.dup, 1) := by decide +kernel
theorem dX2_readNumber_72 : decode cX2_readNumber 72 = .ok (.getfield 32, 3) := by decide +kernel
theorem dX2_readNumber_75 : decode cX2_readNumber 75 = .ok (.iconst 1, 1) := by decide +kernel
theorem dX2_readNumber_76 : decode cX2_readNumber 76 = .ok (.iadd, 1) := by decide +kernel
theorem dX2_readNumber_77 : decode cX2_readNumber 77 = .ok (.putfield 32, 3) := by decide +kernel
theorem dX2_readNumber_80 : decode cX2_readNumber 80 = .ok (.goto (-76), 3) := by decide +kernel
theorem dX2_readNumber_83 : decode cX2_readNumber 83 = .ok (.iload_n 2, 1) := by decide +kernel
theorem dX2_readNumber_84 : decode cX2_readNumber 84 = .ok (.ifCond .ne 7, 3) := by decide +kernel
theorem dX2_readNumber_87 : decode cX2_readNumber 87 = .ok (.iconst (-1), 1) := by decide +kernel
theorem dX2_readNumber_88 : decode cX2_readNumber 88 = .ok (.goto 4, 3) := by decide +kernel
theorem dX2_readNumber_91 : decode cX2_readNumber 91 = .ok (.iload_n 1, 1) := by decide +kernel
theorem dX2_readNumber_92 : decode cX2_readNumber 92 = .ok (.ireturn, 1) := by decide +kernel
def t_X2_readNumber_92 : am_T := tb_iret
def t_X2_readNumber_91 : am_T := tb_iload 1 <|
  t_X2_readNumber_92
def t_X2_readNumber_83 : am_T := tb_iload 2 <|
  tb_if (fun x => x ≠ 0) (t_X2_readNumber_91) <|
  tb_const (-1) <|
  t_X2_readNumber_92
def t_X2_readNumber_4 : am_T := tb_iload 2 <|
  tb_const 6 <|
  tb_ic (fun x y => y ≤ x) (t_X2_readNumber_83) <|
  tb_aload 0 <|
  tb_getI 2 6 <|
  tb_aload 0 <|
  tb_getI 2 0 <|
  tb_ic (fun x y => y ≤ x) (t_X2_readNumber_83) <|
  tb_aload 0 <|
  tb_getR 2 1 <|
  tb_aload 0 <|
  tb_getI 2 6 <|
  tb_cald <|
  tb_const 48 <|
  tb_ic (fun x y => x < y) (t_X2_readNumber_83) <|
  tb_aload 0 <|
  tb_getR 2 1 <|
  tb_aload 0 <|
  tb_getI 2 6 <|
  tb_cald <|
  tb_const 57 <|
  tb_ic (fun x y => y < x) (t_X2_readNumber_83) <|
  tb_iload 1 <|
  tb_const 10 <|
  tb_bin (fun x y => x * y) <|
  tb_aload 0 <|
  tb_getR 2 1 <|
  tb_aload 0 <|
  tb_getI 2 6 <|
  tb_cald <|
  tb_const 48 <|
  tb_bin (fun x y => x - y) <|
  tb_bin (fun x y => x + y) <|
  tb_istore 1 <|
  tb_iinc 2 1 <|
  tb_aload 0 <|
  tb_dup <|
  tb_getI 2 6 <|
  tb_const 1 <|
  tb_bin (fun x y => x + y) <|
  tb_putI 2 6 <|
  tb_head 4
def t_X2_readNumber_0 : am_T := tb_const 0 <|
  tb_istore 1 <|
  tb_const 0 <|
  tb_istore 2 <|
  tb_head 4
def h_X2_readNumber : am_Hd := fun h => if h = 0 then t_X2_readNumber_0 else if h = 4 then t_X2_readNumber_4 else tb_bad
theorem h_X2_readNumber_0 : h_X2_readNumber 0 = t_X2_readNumber_0 := rfl
theorem h_X2_readNumber_4 : h_X2_readNumber 4 = t_X2_readNumber_4 := rfl
def rm_X2_readNumber : Room := { frames := 0, cells := 0, slots := 0, locals := 0 }
def sp_X2_readNumber : am_sp := fun as M Q => as.length ≤ 3 ∧ am_OK h_X2_readNumber Q 0 (am_in 3 as) M
theorem s_X2_readNumber_92 {G : am_G} {bc bs : Nat} (X : am_Cx G cX2_readNumber RX2 "readNumber" rm_X2_readNumber (some .int) 3 bc bs true) : am_S G 92 (t_X2_readNumber_92) := by
  unfold t_X2_readNumber_92
  exact as_iret (pc := 92) X ⟨rfl, rfl⟩ rfl dX2_readNumber_92
theorem s_X2_readNumber_91 {G : am_G} {bc bs : Nat} (X : am_Cx G cX2_readNumber RX2 "readNumber" rm_X2_readNumber (some .int) 3 bc bs true) : am_S G 91 (t_X2_readNumber_91) := by
  unfold t_X2_readNumber_91
  refine as_iload_n (pc := 91) X dX2_readNumber_91 rfl ?_
  exact s_X2_readNumber_92 X
theorem s_X2_readNumber_83 {G : am_G} {bc bs : Nat} (X : am_Cx G cX2_readNumber RX2 "readNumber" rm_X2_readNumber (some .int) 3 bc bs true) : am_S G 83 (t_X2_readNumber_83) := by
  unfold t_X2_readNumber_83
  refine as_iload_n (pc := 83) X dX2_readNumber_83 rfl ?_
  refine as_if_ne (pc := 84) X 91 dX2_readNumber_84 (by decide) (s_X2_readNumber_91 X) ?_
  refine as_iconst (pc := 87) X dX2_readNumber_87 (by decide) ?_
  exact as_goto (pc := 88) X 92 dX2_readNumber_88 (by decide) (s_X2_readNumber_92 X)
theorem s_X2_readNumber_4 {G : am_G} {bc bs : Nat} (X : am_Cx G cX2_readNumber RX2 "readNumber" rm_X2_readNumber (some .int) 3 bc bs true) : am_S G 4 (t_X2_readNumber_4) := by
  unfold t_X2_readNumber_4
  refine as_iload_n (pc := 4) X dX2_readNumber_4 rfl ?_
  refine as_bipush (pc := 5) X dX2_readNumber_5 (by decide) ?_
  refine as_ic_ge (pc := 7) X 83 dX2_readNumber_7 (by decide) (s_X2_readNumber_83 X) ?_
  refine as_aload_n (pc := 10) X dX2_readNumber_10 rfl ?_
  refine as_getI (ci := 2) (j := 6) (pc := 11) X (Cn := RX2) (Tf := TX2) (N := 8) rfl rfl (by decide) iw_X2 aw_254 rfl dX2_readNumber_11 ?_
  refine as_aload_n (pc := 14) X dX2_readNumber_14 rfl ?_
  refine as_getI (ci := 2) (j := 0) (pc := 15) X (Cn := RX2) (Tf := TX2) (N := 8) rfl rfl (by decide) iw_X2 aw_244 rfl dX2_readNumber_15 ?_
  refine as_ic_ge (pc := 18) X 83 dX2_readNumber_18 (by decide) (s_X2_readNumber_83 X) ?_
  refine as_aload_n (pc := 21) X dX2_readNumber_21 rfl ?_
  refine as_getR (ci := 2) (j := 1) (pc := 22) X (Cn := RX2) (Tf := TX2) (N := 8) rfl rfl (by decide) iw_X2 aw_246 rfl dX2_readNumber_22 ?_
  refine as_aload_n (pc := 25) X dX2_readNumber_25 rfl ?_
  refine as_getI (ci := 2) (j := 6) (pc := 26) X (Cn := RX2) (Tf := TX2) (N := 8) rfl rfl (by decide) iw_X2 aw_254 rfl dX2_readNumber_26 ?_
  refine as_cald (pc := 29) X dX2_readNumber_29 ?_
  refine as_bipush (pc := 30) X dX2_readNumber_30 (by decide) ?_
  refine as_ic_lt (pc := 32) X 83 dX2_readNumber_32 (by decide) (s_X2_readNumber_83 X) ?_
  refine as_aload_n (pc := 35) X dX2_readNumber_35 rfl ?_
  refine as_getR (ci := 2) (j := 1) (pc := 36) X (Cn := RX2) (Tf := TX2) (N := 8) rfl rfl (by decide) iw_X2 aw_246 rfl dX2_readNumber_36 ?_
  refine as_aload_n (pc := 39) X dX2_readNumber_39 rfl ?_
  refine as_getI (ci := 2) (j := 6) (pc := 40) X (Cn := RX2) (Tf := TX2) (N := 8) rfl rfl (by decide) iw_X2 aw_254 rfl dX2_readNumber_40 ?_
  refine as_cald (pc := 43) X dX2_readNumber_43 ?_
  refine as_bipush (pc := 44) X dX2_readNumber_44 (by decide) ?_
  refine as_ic_gt (pc := 46) X 83 dX2_readNumber_46 (by decide) (s_X2_readNumber_83 X) ?_
  refine as_iload_n (pc := 49) X dX2_readNumber_49 rfl ?_
  refine as_bipush (pc := 50) X dX2_readNumber_50 (by decide) ?_
  refine as_imul (pc := 52) X dX2_readNumber_52 ?_
  refine as_aload_n (pc := 53) X dX2_readNumber_53 rfl ?_
  refine as_getR (ci := 2) (j := 1) (pc := 54) X (Cn := RX2) (Tf := TX2) (N := 8) rfl rfl (by decide) iw_X2 aw_246 rfl dX2_readNumber_54 ?_
  refine as_aload_n (pc := 57) X dX2_readNumber_57 rfl ?_
  refine as_getI (ci := 2) (j := 6) (pc := 58) X (Cn := RX2) (Tf := TX2) (N := 8) rfl rfl (by decide) iw_X2 aw_254 rfl dX2_readNumber_58 ?_
  refine as_cald (pc := 61) X dX2_readNumber_61 ?_
  refine as_bipush (pc := 62) X dX2_readNumber_62 (by decide) ?_
  refine as_isub (pc := 64) X dX2_readNumber_64 ?_
  refine as_iadd (pc := 65) X dX2_readNumber_65 ?_
  refine as_istore_n (pc := 66) X dX2_readNumber_66 rfl ?_ (by decide)
  refine as_iinc (pc := 67) X dX2_readNumber_67 (by decide) (by decide) ?_
  refine as_aload_n (pc := 70) X dX2_readNumber_70 rfl ?_
  refine as_dup (pc := 71) X dX2_readNumber_71 ?_
  refine as_getI (ci := 2) (j := 6) (pc := 72) X (Cn := RX2) (Tf := TX2) (N := 8) rfl rfl (by decide) iw_X2 aw_254 rfl dX2_readNumber_72 ?_
  refine as_iconst (pc := 75) X dX2_readNumber_75 (by decide) ?_
  refine as_iadd (pc := 76) X dX2_readNumber_76 ?_
  refine as_putI (ci := 2) (j := 6) (pc := 77) X (Cn := RX2) (Tf := TX2) (N := 8) rfl rfl (by decide) iw_X2 aw_254 tyX2 tyX2_ok nmX2 rfl rfl (by decide +kernel) dX2_readNumber_77 ?_
  exact as_goto (pc := 80) X 4 dX2_readNumber_80 (by decide) (as_head)
theorem s_X2_readNumber_0 {G : am_G} {bc bs : Nat} (X : am_Cx G cX2_readNumber RX2 "readNumber" rm_X2_readNumber (some .int) 3 bc bs true) : am_S G 0 (t_X2_readNumber_0) := by
  unfold t_X2_readNumber_0
  refine as_iconst (pc := 0) X dX2_readNumber_0 (by decide) ?_
  refine as_istore_n (pc := 1) X dX2_readNumber_1 rfl ?_ (by decide)
  refine as_iconst (pc := 2) X dX2_readNumber_2 (by decide) ?_
  refine as_istore_n (pc := 3) X dX2_readNumber_3 rfl ?_ (by decide)
  exact as_head
theorem s_X2_readNumber {G : am_G} {bc bs : Nat} (X : am_Cx G cX2_readNumber RX2 "readNumber" rm_X2_readNumber (some .int) 3 bc bs true) (h : Nat) : am_S G h (h_X2_readNumber h) := by
  unfold h_X2_readNumber
  split
  · next e => rw [e]; exact s_X2_readNumber_0 X
  split
  · next e => rw [e]; exact s_X2_readNumber_4 X
  exact as_bad
theorem ct_X2_readNumber : am_Ct yX2_readNumber cX2_readNumber 3 (some .int) rm_X2_readNumber sp_X2_readNumber := am_met (own := RX2) (nm := "readNumber") (by decide) rfl rfl (Or.inr (Or.inl rfl)) (fun _ _ => h_X2_readNumber) (fun _ _ _ X => s_X2_readNumber X) (fun _ _ _ _ h => h)
-- X2_readEntry
theorem dX2_readEntry_0 : decode cX2_readEntry 0 = .ok (.aload_n 0, 1) := by decide +kernel
theorem dX2_readEntry_1 : decode cX2_readEntry 1 = .ok (.aload_n 0, 1) := by decide +kernel
theorem dX2_readEntry_2 : decode cX2_readEntry 2 = .ok (.getfield 15, 3) := by decide +kernel
theorem dX2_readEntry_5 : decode cX2_readEntry 5 = .ok (.aload_n 0, 1) := by decide +kernel
theorem dX2_readEntry_6 : decode cX2_readEntry 6 = .ok (.getfield 32, 3) := by decide +kernel
theorem dX2_readEntry_9 : decode cX2_readEntry 9 = .ok (.caload, 1) := by decide +kernel
theorem dX2_readEntry_10 : decode cX2_readEntry 10 = .ok (.putfield 28, 3) := by decide +kernel
theorem dX2_readEntry_13 : decode cX2_readEntry 13 = .ok (.aload_n 0, 1) := by decide +kernel
theorem dX2_readEntry_14 : decode cX2_readEntry 14 = .ok (.dup, 1) := by decide +kernel
theorem dX2_readEntry_15 : decode cX2_readEntry 15 = .ok (.getfield 32, 3) := by decide +kernel
theorem dX2_readEntry_18 : decode cX2_readEntry 18 = .ok (.iconst 1, 1) := by decide +kernel
theorem dX2_readEntry_19 : decode cX2_readEntry 19 = .ok (.iadd, 1) := by decide +kernel
theorem dX2_readEntry_20 : decode cX2_readEntry 20 = .ok (.putfield 32, 3) := by decide +kernel
theorem dX2_readEntry_23 : decode cX2_readEntry 23 = .ok (.aload_n 0, 1) := by decide +kernel
theorem dX2_readEntry_24 : decode cX2_readEntry 24 = .ok (.invokevirtual 51, 3) := by decide +kernel
theorem dX2_readEntry_27 : decode cX2_readEntry 27 = .ok (.istore_n 1, 1) := by decide +kernel
theorem dX2_readEntry_28 : decode cX2_readEntry 28 = .ok (.iconst 0, 1) := by decide +kernel
theorem dX2_readEntry_29 : decode cX2_readEntry 29 = .ok (.istore_n 2, 1) := by decide +kernel
theorem dX2_readEntry_30 : decode cX2_readEntry 30 = .ok (.iload_n 2, 1) := by decide +kernel
theorem dX2_readEntry_31 : decode cX2_readEntry 31 = .ok (.iload_n 1, 1) := by decide +kernel
theorem dX2_readEntry_32 : decode cX2_readEntry 32 = .ok (.if_icmp .ge 80, 3) := by decide +kernel
theorem dX2_readEntry_35 : decode cX2_readEntry 35 = .ok (.aload_n 0, 1) := by decide +kernel
theorem dX2_readEntry_36 : decode cX2_readEntry 36 = .ok (.getfield 35, 3) := by decide +kernel
theorem dX2_readEntry_39 : decode cX2_readEntry 39 = .ok (.iload_n 2, 1) := by decide +kernel
theorem dX2_readEntry_40 : decode cX2_readEntry 40 = .ok (.aload_n 0, 1) := by decide +kernel
theorem dX2_readEntry_41 : decode cX2_readEntry 41 = .ok (.invokevirtual 55, 3) := by decide +kernel
theorem dX2_readEntry_44 : decode cX2_readEntry 44 = .ok (.iastore, 1) := by decide +kernel
theorem dX2_readEntry_45 : decode cX2_readEntry 45 = .ok (.iload_n 2, 1) := by decide +kernel
theorem dX2_readEntry_46 : decode cX2_readEntry 46 = .ok (.iload_n 1, 1) := by decide +kernel
theorem dX2_readEntry_47 : decode cX2_readEntry 47 = .ok (.iconst 1, 1) := by decide +kernel
theorem dX2_readEntry_48 : decode cX2_readEntry 48 = .ok (.isub, 1) := by decide +kernel
theorem dX2_readEntry_49 : decode cX2_readEntry 49 = .ok (.if_icmp .ne 8, 3) := by decide +kernel
theorem dX2_readEntry_52 : decode cX2_readEntry 52 = .ok (.bipush 59, 2) := by decide +kernel
theorem dX2_readEntry_54 : decode cX2_readEntry 54 = .ok (.goto 5, 3) := by decide +kernel
theorem dX2_readEntry_57 : decode cX2_readEntry 57 = .ok (.bipush 44, 2) := by decide +kernel
theorem dX2_readEntry_59 : decode cX2_readEntry 59 = .ok (.istore_n 3, 1) := by decide +kernel
theorem dX2_readEntry_60 : decode cX2_readEntry 60 = .ok (.aload_n 0, 1) := by decide +kernel
theorem dX2_readEntry_61 : decode cX2_readEntry 61 = .ok (.getfield 35, 3) := by decide +kernel
theorem dX2_readEntry_64 : decode cX2_readEntry 64 = .ok (.iload_n 2, 1) := by decide +kernel
theorem dX2_readEntry_65 : decode cX2_readEntry 65 = .ok (.iaload, 1) := by decide +kernel
theorem dX2_readEntry_66 : decode cX2_readEntry 66 = .ok (.iconst (-1), 1) := by decide +kernel
theorem dX2_readEntry_67 : decode cX2_readEntry 67 = .ok (.if_icmp .eq 27, 3) := by decide +kernel
theorem dX2_readEntry_70 : decode cX2_readEntry 70 = .ok (.aload_n 0, 1) := by decide +kernel
theorem dX2_readEntry_71 : decode cX2_readEntry 71 = .ok (.getfield 32, 3) := by decide +kernel
theorem dX2_readEntry_74 : decode cX2_readEntry 74 = .ok (.aload_n 0, 1) := by decide +kernel
theorem dX2_readEntry_75 : decode cX2_readEntry 75 = .ok (.getfield 9, 3) := by decide +kernel
theorem dX2_readEntry_78 : decode cX2_readEntry 78 = .ok (.if_icmp .ge 16, 3) := by decide +kernel
theorem dX2_readEntry_81 : decode cX2_readEntry 81 = .ok (.aload_n 0, 1) := by decide +kernel
theorem dX2_readEntry_82 : decode cX2_readEntry 82 = .ok (.getfield 15, 3) := by decide +kernel
theorem dX2_readEntry_85 : decode cX2_readEntry 85 = .ok (.aload_n 0, 1) := by decide +kernel
theorem dX2_readEntry_86 : decode cX2_readEntry 86 = .ok (.getfield 32, 3) := by decide +kernel
theorem dX2_readEntry_89 : decode cX2_readEntry 89 = .ok (.caload, 1) := by decide +kernel
theorem dX2_readEntry_90 : decode cX2_readEntry 90 = .ok (.iload_n 3, 1) := by decide +kernel
theorem dX2_readEntry_91 : decode cX2_readEntry 91 = .ok (.if_icmp .eq 5, 3) := by decide +kernel
theorem dX2_readEntry_94 : decode cX2_readEntry 94 = .ok (.iconst 0, 1) := by decide +kernel
theorem dX2_readEntry_95 : decode cX2_readEntry 95 = .ok (.ireturn, 1) := by decide +kernel
theorem dX2_readEntry_96 : decode cX2_readEntry 96 = .ok (.aload_n 0, 1) := by decide +kernel
theorem dX2_readEntry_97 : decode cX2_readEntry 97 = .ok (.dup, 1) := by decide +kernel
theorem dX2_readEntry_98 : decode cX2_readEntry 98 = .ok (.getfield 32, 3) := by decide +kernel
theorem dX2_readEntry_101 : decode cX2_readEntry 101 = .ok (.iconst 1, 1) := by decide +kernel
theorem dX2_readEntry_102 : decode cX2_readEntry 102 = .ok (.iadd, 1) := by decide +kernel
theorem dX2_readEntry_103 : decode cX2_readEntry 103 = .ok (.putfield 32, 3) := by decide +kernel
theorem dX2_readEntry_106 : decode cX2_readEntry 106 = .ok (.iinc 2 1, 3) := by decide +kernel
theorem dX2_readEntry_109 : decode cX2_readEntry 109 = .ok (.goto (-79), 3) := by decide +kernel
theorem dX2_readEntry_112 : decode cX2_readEntry 112 = .ok (.iload_n 1, 1) := by decide +kernel
theorem dX2_readEntry_113 : decode cX2_readEntry 113 = .ok (.ifCond .le 7, 3) := by decide +kernel
theorem dX2_readEntry_116 : decode cX2_readEntry 116 = .ok (.iconst 1, 1) := by decide +kernel
theorem dX2_readEntry_117 : decode cX2_readEntry 117 = .ok (.goto 4, 3) := by decide +kernel
theorem dX2_readEntry_120 : decode cX2_readEntry 120 = .ok (.iconst 0, 1) := by decide +kernel
theorem dX2_readEntry_121 : decode cX2_readEntry 121 = .ok (.ireturn, 1) := by decide +kernel
def t_X2_readEntry_121 : am_T := tb_zret
def t_X2_readEntry_120 : am_T := tb_const 0 <|
  t_X2_readEntry_121
def t_X2_readEntry_112 : am_T := tb_iload 1 <|
  tb_if (fun x => x ≤ 0) (t_X2_readEntry_120) <|
  tb_const 1 <|
  t_X2_readEntry_121
def t_X2_readEntry_96 : am_T := tb_aload 0 <|
  tb_dup <|
  tb_getI 2 6 <|
  tb_const 1 <|
  tb_bin (fun x y => x + y) <|
  tb_putI 2 6 <|
  tb_iinc 2 1 <|
  tb_head 30
def t_X2_readEntry_94 : am_T := tb_const 0 <|
  tb_zret
def t_X2_readEntry_59 : am_T := tb_istore 3 <|
  tb_aload 0 <|
  tb_getR 2 7 <|
  tb_iload 2 <|
  tb_iald <|
  tb_const (-1) <|
  tb_ic (fun x y => x = y) (t_X2_readEntry_94) <|
  tb_aload 0 <|
  tb_getI 2 6 <|
  tb_aload 0 <|
  tb_getI 2 0 <|
  tb_ic (fun x y => y ≤ x) (t_X2_readEntry_94) <|
  tb_aload 0 <|
  tb_getR 2 1 <|
  tb_aload 0 <|
  tb_getI 2 6 <|
  tb_cald <|
  tb_iload 3 <|
  tb_ic (fun x y => x = y) (t_X2_readEntry_96) <|
  t_X2_readEntry_94
def t_X2_readEntry_57 : am_T := tb_const 44 <|
  t_X2_readEntry_59
def t_X2_readEntry_30 : am_T := tb_iload 2 <|
  tb_iload 1 <|
  tb_ic (fun x y => y ≤ x) (t_X2_readEntry_112) <|
  tb_aload 0 <|
  tb_getR 2 7 <|
  tb_iload 2 <|
  tb_aload 0 <|
  tb_callV 2 sp_X2_readNumber 1 <|
  tb_iast <|
  tb_iload 2 <|
  tb_iload 1 <|
  tb_const 1 <|
  tb_bin (fun x y => x - y) <|
  tb_ic (fun x y => x ≠ y) (t_X2_readEntry_57) <|
  tb_const 59 <|
  t_X2_readEntry_59
def t_X2_readEntry_0 : am_T := tb_aload 0 <|
  tb_aload 0 <|
  tb_getR 2 1 <|
  tb_aload 0 <|
  tb_getI 2 6 <|
  tb_cald <|
  tb_putN .char 2 5 <|
  tb_aload 0 <|
  tb_dup <|
  tb_getI 2 6 <|
  tb_const 1 <|
  tb_bin (fun x y => x + y) <|
  tb_putI 2 6 <|
  tb_aload 0 <|
  tb_callV 2 sp_X2_numbersDue 1 <|
  tb_istore 1 <|
  tb_const 0 <|
  tb_istore 2 <|
  tb_head 30
def h_X2_readEntry : am_Hd := fun h => if h = 0 then t_X2_readEntry_0 else if h = 30 then t_X2_readEntry_30 else tb_bad
theorem h_X2_readEntry_0 : h_X2_readEntry 0 = t_X2_readEntry_0 := rfl
theorem h_X2_readEntry_30 : h_X2_readEntry 30 = t_X2_readEntry_30 := rfl
def rm_X2_readEntry : Room := { frames := 1, cells := 0, slots := 0, locals := 22 }
def sp_X2_readEntry : am_sp := fun as M Q => as.length ≤ 4 ∧ am_OK h_X2_readEntry Q 0 (am_in 4 as) M
theorem s_X2_readEntry_121 {G : am_G} {bc bs : Nat} (X : am_Cx G cX2_readEntry RX2 "readEntry" rm_X2_readEntry (some .boolean) 4 bc bs true) : am_S G 121 (t_X2_readEntry_121) := by
  unfold t_X2_readEntry_121
  exact as_zret (pc := 121) X ⟨rfl, rfl⟩ rfl dX2_readEntry_121
theorem s_X2_readEntry_120 {G : am_G} {bc bs : Nat} (X : am_Cx G cX2_readEntry RX2 "readEntry" rm_X2_readEntry (some .boolean) 4 bc bs true) : am_S G 120 (t_X2_readEntry_120) := by
  unfold t_X2_readEntry_120
  refine as_iconst (pc := 120) X dX2_readEntry_120 (by decide) ?_
  exact s_X2_readEntry_121 X
theorem s_X2_readEntry_112 {G : am_G} {bc bs : Nat} (X : am_Cx G cX2_readEntry RX2 "readEntry" rm_X2_readEntry (some .boolean) 4 bc bs true) : am_S G 112 (t_X2_readEntry_112) := by
  unfold t_X2_readEntry_112
  refine as_iload_n (pc := 112) X dX2_readEntry_112 rfl ?_
  refine as_if_le (pc := 113) X 120 dX2_readEntry_113 (by decide) (s_X2_readEntry_120 X) ?_
  refine as_iconst (pc := 116) X dX2_readEntry_116 (by decide) ?_
  exact as_goto (pc := 117) X 121 dX2_readEntry_117 (by decide) (s_X2_readEntry_121 X)
theorem s_X2_readEntry_96 {G : am_G} {bc bs : Nat} (X : am_Cx G cX2_readEntry RX2 "readEntry" rm_X2_readEntry (some .boolean) 4 bc bs true) : am_S G 96 (t_X2_readEntry_96) := by
  unfold t_X2_readEntry_96
  refine as_aload_n (pc := 96) X dX2_readEntry_96 rfl ?_
  refine as_dup (pc := 97) X dX2_readEntry_97 ?_
  refine as_getI (ci := 2) (j := 6) (pc := 98) X (Cn := RX2) (Tf := TX2) (N := 8) rfl rfl (by decide) iw_X2 aw_254 rfl dX2_readEntry_98 ?_
  refine as_iconst (pc := 101) X dX2_readEntry_101 (by decide) ?_
  refine as_iadd (pc := 102) X dX2_readEntry_102 ?_
  refine as_putI (ci := 2) (j := 6) (pc := 103) X (Cn := RX2) (Tf := TX2) (N := 8) rfl rfl (by decide) iw_X2 aw_254 tyX2 tyX2_ok nmX2 rfl rfl (by decide +kernel) dX2_readEntry_103 ?_
  refine as_iinc (pc := 106) X dX2_readEntry_106 (by decide) (by decide) ?_
  exact as_goto (pc := 109) X 30 dX2_readEntry_109 (by decide) (as_head)
theorem s_X2_readEntry_94 {G : am_G} {bc bs : Nat} (X : am_Cx G cX2_readEntry RX2 "readEntry" rm_X2_readEntry (some .boolean) 4 bc bs true) : am_S G 94 (t_X2_readEntry_94) := by
  unfold t_X2_readEntry_94
  refine as_iconst (pc := 94) X dX2_readEntry_94 (by decide) ?_
  exact as_zret (pc := 95) X ⟨rfl, rfl⟩ rfl dX2_readEntry_95
theorem s_X2_readEntry_59 {G : am_G} {bc bs : Nat} (X : am_Cx G cX2_readEntry RX2 "readEntry" rm_X2_readEntry (some .boolean) 4 bc bs true) : am_S G 59 (t_X2_readEntry_59) := by
  unfold t_X2_readEntry_59
  refine as_istore_n (pc := 59) X dX2_readEntry_59 rfl ?_ (by decide)
  refine as_aload_n (pc := 60) X dX2_readEntry_60 rfl ?_
  refine as_getR (ci := 2) (j := 7) (pc := 61) X (Cn := RX2) (Tf := TX2) (N := 8) rfl rfl (by decide) iw_X2 aw_255 rfl dX2_readEntry_61 ?_
  refine as_iload_n (pc := 64) X dX2_readEntry_64 rfl ?_
  refine as_iald (pc := 65) X dX2_readEntry_65 ?_
  refine as_iconst (pc := 66) X dX2_readEntry_66 (by decide) ?_
  refine as_ic_eq (pc := 67) X 94 dX2_readEntry_67 (by decide) (s_X2_readEntry_94 X) ?_
  refine as_aload_n (pc := 70) X dX2_readEntry_70 rfl ?_
  refine as_getI (ci := 2) (j := 6) (pc := 71) X (Cn := RX2) (Tf := TX2) (N := 8) rfl rfl (by decide) iw_X2 aw_254 rfl dX2_readEntry_71 ?_
  refine as_aload_n (pc := 74) X dX2_readEntry_74 rfl ?_
  refine as_getI (ci := 2) (j := 0) (pc := 75) X (Cn := RX2) (Tf := TX2) (N := 8) rfl rfl (by decide) iw_X2 aw_244 rfl dX2_readEntry_75 ?_
  refine as_ic_ge (pc := 78) X 94 dX2_readEntry_78 (by decide) (s_X2_readEntry_94 X) ?_
  refine as_aload_n (pc := 81) X dX2_readEntry_81 rfl ?_
  refine as_getR (ci := 2) (j := 1) (pc := 82) X (Cn := RX2) (Tf := TX2) (N := 8) rfl rfl (by decide) iw_X2 aw_246 rfl dX2_readEntry_82 ?_
  refine as_aload_n (pc := 85) X dX2_readEntry_85 rfl ?_
  refine as_getI (ci := 2) (j := 6) (pc := 86) X (Cn := RX2) (Tf := TX2) (N := 8) rfl rfl (by decide) iw_X2 aw_254 rfl dX2_readEntry_86 ?_
  refine as_cald (pc := 89) X dX2_readEntry_89 ?_
  refine as_iload_n (pc := 90) X dX2_readEntry_90 rfl ?_
  refine as_ic_eq (pc := 91) X 96 dX2_readEntry_91 (by decide) (s_X2_readEntry_96 X) ?_
  exact s_X2_readEntry_94 X
theorem s_X2_readEntry_57 {G : am_G} {bc bs : Nat} (X : am_Cx G cX2_readEntry RX2 "readEntry" rm_X2_readEntry (some .boolean) 4 bc bs true) : am_S G 57 (t_X2_readEntry_57) := by
  unfold t_X2_readEntry_57
  refine as_bipush (pc := 57) X dX2_readEntry_57 (by decide) ?_
  exact s_X2_readEntry_59 X
theorem s_X2_readEntry_30 {G : am_G} {bc bs : Nat} (X : am_Cx G cX2_readEntry RX2 "readEntry" rm_X2_readEntry (some .boolean) 4 bc bs true) : am_S G 30 (t_X2_readEntry_30) := by
  unfold t_X2_readEntry_30
  refine as_iload_n (pc := 30) X dX2_readEntry_30 rfl ?_
  refine as_iload_n (pc := 31) X dX2_readEntry_31 rfl ?_
  refine as_ic_ge (pc := 32) X 112 dX2_readEntry_32 (by decide) (s_X2_readEntry_112 X) ?_
  refine as_aload_n (pc := 35) X dX2_readEntry_35 rfl ?_
  refine as_getR (ci := 2) (j := 7) (pc := 36) X (Cn := RX2) (Tf := TX2) (N := 8) rfl rfl (by decide) iw_X2 aw_255 rfl dX2_readEntry_36 ?_
  refine as_iload_n (pc := 39) X dX2_readEntry_39 rfl ?_
  refine as_aload_n (pc := 40) X dX2_readEntry_40 rfl ?_
  refine as_callV (ci := 2) (np := 0) (ix := 55) (pc := 41) X ct_X2_readNumber (Cn := (RX2, TX2, 8)) rfl ⟨rfl, rfl⟩ aw_697 aw_699 aw_20 aw_700 aw_64 (by decide +kernel) (by decide) dX2_readEntry_41 ?_
  refine as_iast (pc := 44) X dX2_readEntry_44 ?_
  refine as_iload_n (pc := 45) X dX2_readEntry_45 rfl ?_
  refine as_iload_n (pc := 46) X dX2_readEntry_46 rfl ?_
  refine as_iconst (pc := 47) X dX2_readEntry_47 (by decide) ?_
  refine as_isub (pc := 48) X dX2_readEntry_48 ?_
  refine as_ic_ne (pc := 49) X 57 dX2_readEntry_49 (by decide) (s_X2_readEntry_57 X) ?_
  refine as_bipush (pc := 52) X dX2_readEntry_52 (by decide) ?_
  exact as_goto (pc := 54) X 59 dX2_readEntry_54 (by decide) (s_X2_readEntry_59 X)
theorem s_X2_readEntry_0 {G : am_G} {bc bs : Nat} (X : am_Cx G cX2_readEntry RX2 "readEntry" rm_X2_readEntry (some .boolean) 4 bc bs true) : am_S G 0 (t_X2_readEntry_0) := by
  unfold t_X2_readEntry_0
  refine as_aload_n (pc := 0) X dX2_readEntry_0 rfl ?_
  refine as_aload_n (pc := 1) X dX2_readEntry_1 rfl ?_
  refine as_getR (ci := 2) (j := 1) (pc := 2) X (Cn := RX2) (Tf := TX2) (N := 8) rfl rfl (by decide) iw_X2 aw_246 rfl dX2_readEntry_2 ?_
  refine as_aload_n (pc := 5) X dX2_readEntry_5 rfl ?_
  refine as_getI (ci := 2) (j := 6) (pc := 6) X (Cn := RX2) (Tf := TX2) (N := 8) rfl rfl (by decide) iw_X2 aw_254 rfl dX2_readEntry_6 ?_
  refine as_cald (pc := 9) X dX2_readEntry_9 ?_
  refine as_putN (ci := 2) (j := 5) (pc := 10) X (Cn := RX2) (Tf := TX2) (N := 8) rfl rfl (by decide) iw_X2 aw_253 tyX2 tyX2_ok nmX2 rfl (ty := .char) rfl (by decide +kernel) dX2_readEntry_10 ?_
  refine as_aload_n (pc := 13) X dX2_readEntry_13 rfl ?_
  refine as_dup (pc := 14) X dX2_readEntry_14 ?_
  refine as_getI (ci := 2) (j := 6) (pc := 15) X (Cn := RX2) (Tf := TX2) (N := 8) rfl rfl (by decide) iw_X2 aw_254 rfl dX2_readEntry_15 ?_
  refine as_iconst (pc := 18) X dX2_readEntry_18 (by decide) ?_
  refine as_iadd (pc := 19) X dX2_readEntry_19 ?_
  refine as_putI (ci := 2) (j := 6) (pc := 20) X (Cn := RX2) (Tf := TX2) (N := 8) rfl rfl (by decide) iw_X2 aw_254 tyX2 tyX2_ok nmX2 rfl rfl (by decide +kernel) dX2_readEntry_20 ?_
  refine as_aload_n (pc := 23) X dX2_readEntry_23 rfl ?_
  refine as_callV (ci := 2) (np := 0) (ix := 51) (pc := 24) X ct_X2_numbersDue (Cn := (RX2, TX2, 8)) rfl ⟨rfl, rfl⟩ aw_693 aw_695 aw_19 aw_696 aw_64 (by decide +kernel) (by decide) dX2_readEntry_24 ?_
  refine as_istore_n (pc := 27) X dX2_readEntry_27 rfl ?_ (by decide)
  refine as_iconst (pc := 28) X dX2_readEntry_28 (by decide) ?_
  refine as_istore_n (pc := 29) X dX2_readEntry_29 rfl ?_ (by decide)
  exact as_head
theorem s_X2_readEntry {G : am_G} {bc bs : Nat} (X : am_Cx G cX2_readEntry RX2 "readEntry" rm_X2_readEntry (some .boolean) 4 bc bs true) (h : Nat) : am_S G h (h_X2_readEntry h) := by
  unfold h_X2_readEntry
  split
  · next e => rw [e]; exact s_X2_readEntry_0 X
  split
  · next e => rw [e]; exact s_X2_readEntry_30 X
  exact as_bad
theorem ct_X2_readEntry : am_Ct yX2_readEntry cX2_readEntry 4 (some .boolean) rm_X2_readEntry sp_X2_readEntry := am_met (own := RX2) (nm := "readEntry") (by decide) rfl rfl (Or.inr (Or.inr (Or.inl rfl))) (fun _ _ => h_X2_readEntry) (fun _ _ _ X => s_X2_readEntry X) (fun _ _ _ _ h => h)
-- X2_lineFault
theorem dX2_lineFault_0 : decode cX2_lineFault 0 = .ok (.aload_n 0, 1) := by decide +kernel
theorem dX2_lineFault_1 : decode cX2_lineFault 1 = .ok (.getfield 35, 3) := by decide +kernel
theorem dX2_lineFault_4 : decode cX2_lineFault 4 = .ok (.iconst 0, 1) := by decide +kernel
theorem dX2_lineFault_5 : decode cX2_lineFault 5 = .ok (.iaload, 1) := by decide +kernel
theorem dX2_lineFault_6 : decode cX2_lineFault 6 = .ok (.invokestatic 80, 3) := by decide +kernel
theorem dX2_lineFault_9 : decode cX2_lineFault 9 = .ok (.ifCond .eq 39, 3) := by decide +kernel
theorem dX2_lineFault_12 : decode cX2_lineFault 12 = .ok (.aload_n 0, 1) := by decide +kernel
theorem dX2_lineFault_13 : decode cX2_lineFault 13 = .ok (.getfield 35, 3) := by decide +kernel
theorem dX2_lineFault_16 : decode cX2_lineFault 16 = .ok (.iconst 1, 1) := by decide +kernel
theorem dX2_lineFault_17 : decode cX2_lineFault 17 = .ok (.iaload, 1) := by decide +kernel
theorem dX2_lineFault_18 : decode cX2_lineFault 18 = .ok (.invokestatic 83, 3) := by decide +kernel
theorem dX2_lineFault_21 : decode cX2_lineFault 21 = .ok (.ifCond .eq 27, 3) := by decide +kernel
theorem dX2_lineFault_24 : decode cX2_lineFault 24 = .ok (.aload_n 0, 1) := by decide +kernel
theorem dX2_lineFault_25 : decode cX2_lineFault 25 = .ok (.getfield 35, 3) := by decide +kernel
theorem dX2_lineFault_28 : decode cX2_lineFault 28 = .ok (.iconst 2, 1) := by decide +kernel
theorem dX2_lineFault_29 : decode cX2_lineFault 29 = .ok (.iaload, 1) := by decide +kernel
theorem dX2_lineFault_30 : decode cX2_lineFault 30 = .ok (.invokestatic 86, 3) := by decide +kernel
theorem dX2_lineFault_33 : decode cX2_lineFault 33 = .ok (.ifCond .eq 15, 3) := by decide +kernel
theorem dX2_lineFault_36 : decode cX2_lineFault 36 = .ok (.aload_n 0, 1) := by decide +kernel
theorem dX2_lineFault_37 : decode cX2_lineFault 37 = .ok (.getfield 35, 3) := by decide +kernel
theorem dX2_lineFault_40 : decode cX2_lineFault 40 = .ok (.iconst 3, 1) := by decide +kernel
theorem dX2_lineFault_41 : decode cX2_lineFault 41 = .ok (.iaload, 1) := by decide +kernel
theorem dX2_lineFault_42 : decode cX2_lineFault 42 = .ok (.invokestatic 86, 3) := by decide +kernel
theorem dX2_lineFault_45 : decode cX2_lineFault 45 = .ok (.ifCond .ne 5, 3) := by decide +kernel
theorem dX2_lineFault_48 : decode cX2_lineFault 48 = .ok (.iconst 2, 1) := by decide +kernel
theorem dX2_lineFault_49 : decode cX2_lineFault 49 = .ok (.ireturn, 1) := by decide +kernel
theorem dX2_lineFault_50 : decode cX2_lineFault 50 = .ok (.aload_n 1, 1) := by decide +kernel
theorem dX2_lineFault_51 : decode cX2_lineFault 51 = .ok (.getfield 89, 3) := by decide +kernel
theorem dX2_lineFault_54 : decode cX2_lineFault 54 = .ok (.bipush 30, 2) := by decide +kernel
theorem dX2_lineFault_56 : decode cX2_lineFault 56 = .ok (.if_icmp .lt 7, 3) := by decide +kernel
theorem dX2_lineFault_59 : decode cX2_lineFault 59 = .ok (.iconst 4, 1) := by decide +kernel
theorem dX2_lineFault_60 : decode cX2_lineFault 60 = .ok (.goto 4, 3) := by decide +kernel
theorem dX2_lineFault_63 : decode cX2_lineFault 63 = .ok (.iconst 0, 1) := by decide +kernel
theorem dX2_lineFault_64 : decode cX2_lineFault 64 = .ok (.ireturn, 1) := by decide +kernel
def t_X2_lineFault_64 : am_T := tb_iret
def t_X2_lineFault_63 : am_T := tb_const 0 <|
  t_X2_lineFault_64
def t_X2_lineFault_50 : am_T := tb_aload 1 <|
  tb_getI 1 4 <|
  tb_const 30 <|
  tb_ic (fun x y => x < y) (t_X2_lineFault_63) <|
  tb_const 4 <|
  t_X2_lineFault_64
def t_X2_lineFault_48 : am_T := tb_const 2 <|
  tb_iret
def t_X2_lineFault_0 : am_T := tb_aload 0 <|
  tb_getR 2 7 <|
  tb_const 0 <|
  tb_iald <|
  tb_callS sp_X4_isTime 1 <|
  tb_if (fun x => x = 0) (t_X2_lineFault_48) <|
  tb_aload 0 <|
  tb_getR 2 7 <|
  tb_const 1 <|
  tb_iald <|
  tb_callS sp_X4_isPerson 1 <|
  tb_if (fun x => x = 0) (t_X2_lineFault_48) <|
  tb_aload 0 <|
  tb_getR 2 7 <|
  tb_const 2 <|
  tb_iald <|
  tb_callS sp_X4_isSet 1 <|
  tb_if (fun x => x = 0) (t_X2_lineFault_48) <|
  tb_aload 0 <|
  tb_getR 2 7 <|
  tb_const 3 <|
  tb_iald <|
  tb_callS sp_X4_isSet 1 <|
  tb_if (fun x => x ≠ 0) (t_X2_lineFault_50) <|
  t_X2_lineFault_48
def h_X2_lineFault : am_Hd := fun h => if h = 0 then t_X2_lineFault_0 else tb_bad
theorem h_X2_lineFault_0 : h_X2_lineFault 0 = t_X2_lineFault_0 := rfl
def rm_X2_lineFault : Room := { frames := 1, cells := 0, slots := 0, locals := 20 }
def sp_X2_lineFault : am_sp := fun as M Q => as.length ≤ 2 ∧ am_OK h_X2_lineFault Q 0 (am_in 2 as) M
theorem s_X2_lineFault_64 {G : am_G} {bc bs : Nat} (X : am_Cx G cX2_lineFault RX2 "lineFault" rm_X2_lineFault (some .int) 2 bc bs true) : am_S G 64 (t_X2_lineFault_64) := by
  unfold t_X2_lineFault_64
  exact as_iret (pc := 64) X ⟨rfl, rfl⟩ rfl dX2_lineFault_64
theorem s_X2_lineFault_63 {G : am_G} {bc bs : Nat} (X : am_Cx G cX2_lineFault RX2 "lineFault" rm_X2_lineFault (some .int) 2 bc bs true) : am_S G 63 (t_X2_lineFault_63) := by
  unfold t_X2_lineFault_63
  refine as_iconst (pc := 63) X dX2_lineFault_63 (by decide) ?_
  exact s_X2_lineFault_64 X
theorem s_X2_lineFault_50 {G : am_G} {bc bs : Nat} (X : am_Cx G cX2_lineFault RX2 "lineFault" rm_X2_lineFault (some .int) 2 bc bs true) : am_S G 50 (t_X2_lineFault_50) := by
  unfold t_X2_lineFault_50
  refine as_aload_n (pc := 50) X dX2_lineFault_50 rfl ?_
  refine as_getI (ci := 1) (j := 4) (pc := 51) X (Cn := RX1) (Tf := TX1) (N := 14) rfl rfl (by decide) iw_X1 aw_101 rfl dX2_lineFault_51 ?_
  refine as_bipush (pc := 54) X dX2_lineFault_54 (by decide) ?_
  refine as_ic_lt (pc := 56) X 63 dX2_lineFault_56 (by decide) (s_X2_lineFault_63 X) ?_
  refine as_iconst (pc := 59) X dX2_lineFault_59 (by decide) ?_
  exact as_goto (pc := 60) X 64 dX2_lineFault_60 (by decide) (s_X2_lineFault_64 X)
theorem s_X2_lineFault_48 {G : am_G} {bc bs : Nat} (X : am_Cx G cX2_lineFault RX2 "lineFault" rm_X2_lineFault (some .int) 2 bc bs true) : am_S G 48 (t_X2_lineFault_48) := by
  unfold t_X2_lineFault_48
  refine as_iconst (pc := 48) X dX2_lineFault_48 (by decide) ?_
  exact as_iret (pc := 49) X ⟨rfl, rfl⟩ rfl dX2_lineFault_49
theorem s_X2_lineFault_0 {G : am_G} {bc bs : Nat} (X : am_Cx G cX2_lineFault RX2 "lineFault" rm_X2_lineFault (some .int) 2 bc bs true) : am_S G 0 (t_X2_lineFault_0) := by
  unfold t_X2_lineFault_0
  refine as_aload_n (pc := 0) X dX2_lineFault_0 rfl ?_
  refine as_getR (ci := 2) (j := 7) (pc := 1) X (Cn := RX2) (Tf := TX2) (N := 8) rfl rfl (by decide) iw_X2 aw_255 rfl dX2_lineFault_1 ?_
  refine as_iconst (pc := 4) X dX2_lineFault_4 (by decide) ?_
  refine as_iald (pc := 5) X dX2_lineFault_5 ?_
  refine as_callSN (np := 1) (ix := 80) (pc := 6) X ct_X4_isTime ⟨rfl, rfl⟩ (host := RX4) (by simp [am_NW]) aw_307 aw_308 aw_59 (by decide +kernel) (by decide) dX2_lineFault_6 ?_
  refine as_if_eq (pc := 9) X 48 dX2_lineFault_9 (by decide) (s_X2_lineFault_48 X) ?_
  refine as_aload_n (pc := 12) X dX2_lineFault_12 rfl ?_
  refine as_getR (ci := 2) (j := 7) (pc := 13) X (Cn := RX2) (Tf := TX2) (N := 8) rfl rfl (by decide) iw_X2 aw_255 rfl dX2_lineFault_13 ?_
  refine as_iconst (pc := 16) X dX2_lineFault_16 (by decide) ?_
  refine as_iald (pc := 17) X dX2_lineFault_17 ?_
  refine as_callSN (np := 1) (ix := 83) (pc := 18) X ct_X4_isPerson ⟨rfl, rfl⟩ (host := RX4) (by simp [am_NW]) aw_301 aw_302 aw_59 (by decide +kernel) (by decide) dX2_lineFault_18 ?_
  refine as_if_eq (pc := 21) X 48 dX2_lineFault_21 (by decide) (s_X2_lineFault_48 X) ?_
  refine as_aload_n (pc := 24) X dX2_lineFault_24 rfl ?_
  refine as_getR (ci := 2) (j := 7) (pc := 25) X (Cn := RX2) (Tf := TX2) (N := 8) rfl rfl (by decide) iw_X2 aw_255 rfl dX2_lineFault_25 ?_
  refine as_iconst (pc := 28) X dX2_lineFault_28 (by decide) ?_
  refine as_iald (pc := 29) X dX2_lineFault_29 ?_
  refine as_callSN (np := 1) (ix := 86) (pc := 30) X ct_X4_isSet ⟨rfl, rfl⟩ (host := RX4) (by simp [am_NW]) aw_359 aw_360 aw_59 (by decide +kernel) (by decide) dX2_lineFault_30 ?_
  refine as_if_eq (pc := 33) X 48 dX2_lineFault_33 (by decide) (s_X2_lineFault_48 X) ?_
  refine as_aload_n (pc := 36) X dX2_lineFault_36 rfl ?_
  refine as_getR (ci := 2) (j := 7) (pc := 37) X (Cn := RX2) (Tf := TX2) (N := 8) rfl rfl (by decide) iw_X2 aw_255 rfl dX2_lineFault_37 ?_
  refine as_iconst (pc := 40) X dX2_lineFault_40 (by decide) ?_
  refine as_iald (pc := 41) X dX2_lineFault_41 ?_
  refine as_callSN (np := 1) (ix := 86) (pc := 42) X ct_X4_isSet ⟨rfl, rfl⟩ (host := RX4) (by simp [am_NW]) aw_359 aw_360 aw_59 (by decide +kernel) (by decide) dX2_lineFault_42 ?_
  refine as_if_ne (pc := 45) X 50 dX2_lineFault_45 (by decide) (s_X2_lineFault_50 X) ?_
  exact s_X2_lineFault_48 X
theorem s_X2_lineFault {G : am_G} {bc bs : Nat} (X : am_Cx G cX2_lineFault RX2 "lineFault" rm_X2_lineFault (some .int) 2 bc bs true) (h : Nat) : am_S G h (h_X2_lineFault h) := by
  unfold h_X2_lineFault
  split
  · next e => rw [e]; exact s_X2_lineFault_0 X
  exact as_bad
theorem ct_X2_lineFault : am_Ct yX2_lineFault cX2_lineFault 2 (some .int) rm_X2_lineFault sp_X2_lineFault := am_met (own := RX2) (nm := "lineFault") (by decide) rfl rfl (Or.inr (Or.inl rfl)) (fun _ _ => h_X2_lineFault) (fun _ _ _ X => s_X2_lineFault X) (fun _ _ _ _ h => h)
-- X2_kindOfFix
theorem dX2_kindOfFix_0 : decode cX2_kindOfFix 0 = .ok (.aload_n 0, 1) := by decide +kernel
theorem dX2_kindOfFix_1 : decode cX2_kindOfFix 1 = .ok (.getfield 28, 3) := by decide +kernel
theorem dX2_kindOfFix_4 : decode cX2_kindOfFix 4 = .ok (.bipush 98, 2) := by decide +kernel
theorem dX2_kindOfFix_6 : decode cX2_kindOfFix 6 = .ok (.if_icmp .ne 5, 3) := by decide +kernel
theorem dX2_kindOfFix_9 : decode cX2_kindOfFix 9 = .ok (.iconst 0, 1) := by decide +kernel
theorem dX2_kindOfFix_10 : decode cX2_kindOfFix 10 = .ok (.ireturn, 1) := by decide +kernel
theorem dX2_kindOfFix_11 : decode cX2_kindOfFix 11 = .ok (.aload_n 0, 1) := by decide +kernel
theorem dX2_kindOfFix_12 : decode cX2_kindOfFix 12 = .ok (.getfield 28, 3) := by decide +kernel
theorem dX2_kindOfFix_15 : decode cX2_kindOfFix 15 = .ok (.bipush 97, 2) := by decide +kernel
theorem dX2_kindOfFix_17 : decode cX2_kindOfFix 17 = .ok (.if_icmp .ne 7, 3) := by decide +kernel
theorem dX2_kindOfFix_20 : decode cX2_kindOfFix 20 = .ok (.iconst 1, 1) := by decide +kernel
theorem dX2_kindOfFix_21 : decode cX2_kindOfFix 21 = .ok (.goto 4, 3) := by decide +kernel
theorem dX2_kindOfFix_24 : decode cX2_kindOfFix 24 = .ok (.iconst 2, 1) := by decide +kernel
theorem dX2_kindOfFix_25 : decode cX2_kindOfFix 25 = .ok (.ireturn, 1) := by decide +kernel
def t_X2_kindOfFix_25 : am_T := tb_iret
def t_X2_kindOfFix_24 : am_T := tb_const 2 <|
  t_X2_kindOfFix_25
def t_X2_kindOfFix_11 : am_T := tb_aload 0 <|
  tb_getI 2 5 <|
  tb_const 97 <|
  tb_ic (fun x y => x ≠ y) (t_X2_kindOfFix_24) <|
  tb_const 1 <|
  t_X2_kindOfFix_25
def t_X2_kindOfFix_0 : am_T := tb_aload 0 <|
  tb_getI 2 5 <|
  tb_const 98 <|
  tb_ic (fun x y => x ≠ y) (t_X2_kindOfFix_11) <|
  tb_const 0 <|
  tb_iret
def h_X2_kindOfFix : am_Hd := fun h => if h = 0 then t_X2_kindOfFix_0 else tb_bad
theorem h_X2_kindOfFix_0 : h_X2_kindOfFix 0 = t_X2_kindOfFix_0 := rfl
def rm_X2_kindOfFix : Room := { frames := 0, cells := 0, slots := 0, locals := 0 }
def sp_X2_kindOfFix : am_sp := fun as M Q => as.length ≤ 1 ∧ am_OK h_X2_kindOfFix Q 0 (am_in 1 as) M
theorem s_X2_kindOfFix_25 {G : am_G} {bc bs : Nat} (X : am_Cx G cX2_kindOfFix RX2 "kindOfFix" rm_X2_kindOfFix (some .int) 1 bc bs true) : am_S G 25 (t_X2_kindOfFix_25) := by
  unfold t_X2_kindOfFix_25
  exact as_iret (pc := 25) X ⟨rfl, rfl⟩ rfl dX2_kindOfFix_25
theorem s_X2_kindOfFix_24 {G : am_G} {bc bs : Nat} (X : am_Cx G cX2_kindOfFix RX2 "kindOfFix" rm_X2_kindOfFix (some .int) 1 bc bs true) : am_S G 24 (t_X2_kindOfFix_24) := by
  unfold t_X2_kindOfFix_24
  refine as_iconst (pc := 24) X dX2_kindOfFix_24 (by decide) ?_
  exact s_X2_kindOfFix_25 X
theorem s_X2_kindOfFix_11 {G : am_G} {bc bs : Nat} (X : am_Cx G cX2_kindOfFix RX2 "kindOfFix" rm_X2_kindOfFix (some .int) 1 bc bs true) : am_S G 11 (t_X2_kindOfFix_11) := by
  unfold t_X2_kindOfFix_11
  refine as_aload_n (pc := 11) X dX2_kindOfFix_11 rfl ?_
  refine as_getI (ci := 2) (j := 5) (pc := 12) X (Cn := RX2) (Tf := TX2) (N := 8) rfl rfl (by decide) iw_X2 aw_253 rfl dX2_kindOfFix_12 ?_
  refine as_bipush (pc := 15) X dX2_kindOfFix_15 (by decide) ?_
  refine as_ic_ne (pc := 17) X 24 dX2_kindOfFix_17 (by decide) (s_X2_kindOfFix_24 X) ?_
  refine as_iconst (pc := 20) X dX2_kindOfFix_20 (by decide) ?_
  exact as_goto (pc := 21) X 25 dX2_kindOfFix_21 (by decide) (s_X2_kindOfFix_25 X)
theorem s_X2_kindOfFix_0 {G : am_G} {bc bs : Nat} (X : am_Cx G cX2_kindOfFix RX2 "kindOfFix" rm_X2_kindOfFix (some .int) 1 bc bs true) : am_S G 0 (t_X2_kindOfFix_0) := by
  unfold t_X2_kindOfFix_0
  refine as_aload_n (pc := 0) X dX2_kindOfFix_0 rfl ?_
  refine as_getI (ci := 2) (j := 5) (pc := 1) X (Cn := RX2) (Tf := TX2) (N := 8) rfl rfl (by decide) iw_X2 aw_253 rfl dX2_kindOfFix_1 ?_
  refine as_bipush (pc := 4) X dX2_kindOfFix_4 (by decide) ?_
  refine as_ic_ne (pc := 6) X 11 dX2_kindOfFix_6 (by decide) (s_X2_kindOfFix_11 X) ?_
  refine as_iconst (pc := 9) X dX2_kindOfFix_9 (by decide) ?_
  exact as_iret (pc := 10) X ⟨rfl, rfl⟩ rfl dX2_kindOfFix_10
theorem s_X2_kindOfFix {G : am_G} {bc bs : Nat} (X : am_Cx G cX2_kindOfFix RX2 "kindOfFix" rm_X2_kindOfFix (some .int) 1 bc bs true) (h : Nat) : am_S G h (h_X2_kindOfFix h) := by
  unfold h_X2_kindOfFix
  split
  · next e => rw [e]; exact s_X2_kindOfFix_0 X
  exact as_bad
theorem ct_X2_kindOfFix : am_Ct yX2_kindOfFix cX2_kindOfFix 1 (some .int) rm_X2_kindOfFix sp_X2_kindOfFix := am_met (own := RX2) (nm := "kindOfFix") (by decide) rfl rfl (Or.inr (Or.inl rfl)) (fun _ _ => h_X2_kindOfFix) (fun _ _ _ X => s_X2_kindOfFix X) (fun _ _ _ _ h => h)
-- X2_earlierOfFix
theorem dX2_earlierOfFix_0 : decode cX2_earlierOfFix 0 = .ok (.aload_n 0, 1) := by decide +kernel
theorem dX2_earlierOfFix_1 : decode cX2_earlierOfFix 1 = .ok (.getfield 28, 3) := by decide +kernel
theorem dX2_earlierOfFix_4 : decode cX2_earlierOfFix 4 = .ok (.bipush 98, 2) := by decide +kernel
theorem dX2_earlierOfFix_6 : decode cX2_earlierOfFix 6 = .ok (.if_icmp .ne 7, 3) := by decide +kernel
theorem dX2_earlierOfFix_9 : decode cX2_earlierOfFix 9 = .ok (.iconst (-1), 1) := by decide +kernel
theorem dX2_earlierOfFix_10 : decode cX2_earlierOfFix 10 = .ok (.goto 9, 3) := by decide +kernel
theorem dX2_earlierOfFix_13 : decode cX2_earlierOfFix 13 = .ok (.aload_n 0, 1) := by decide +kernel
theorem dX2_earlierOfFix_14 : decode cX2_earlierOfFix 14 = .ok (.getfield 35, 3) := by decide +kernel
theorem dX2_earlierOfFix_17 : decode cX2_earlierOfFix 17 = .ok (.iconst 1, 1) := by decide +kernel
theorem dX2_earlierOfFix_18 : decode cX2_earlierOfFix 18 = .ok (.iaload, 1) := by decide +kernel
theorem dX2_earlierOfFix_19 : decode cX2_earlierOfFix 19 = .ok (.ireturn, 1) := by decide +kernel
def t_X2_earlierOfFix_19 : am_T := tb_iret
def t_X2_earlierOfFix_13 : am_T := tb_aload 0 <|
  tb_getR 2 7 <|
  tb_const 1 <|
  tb_iald <|
  t_X2_earlierOfFix_19
def t_X2_earlierOfFix_0 : am_T := tb_aload 0 <|
  tb_getI 2 5 <|
  tb_const 98 <|
  tb_ic (fun x y => x ≠ y) (t_X2_earlierOfFix_13) <|
  tb_const (-1) <|
  t_X2_earlierOfFix_19
def h_X2_earlierOfFix : am_Hd := fun h => if h = 0 then t_X2_earlierOfFix_0 else tb_bad
theorem h_X2_earlierOfFix_0 : h_X2_earlierOfFix 0 = t_X2_earlierOfFix_0 := rfl
def rm_X2_earlierOfFix : Room := { frames := 0, cells := 0, slots := 0, locals := 0 }
def sp_X2_earlierOfFix : am_sp := fun as M Q => as.length ≤ 1 ∧ am_OK h_X2_earlierOfFix Q 0 (am_in 1 as) M
theorem s_X2_earlierOfFix_19 {G : am_G} {bc bs : Nat} (X : am_Cx G cX2_earlierOfFix RX2 "earlierOfFix" rm_X2_earlierOfFix (some .int) 1 bc bs true) : am_S G 19 (t_X2_earlierOfFix_19) := by
  unfold t_X2_earlierOfFix_19
  exact as_iret (pc := 19) X ⟨rfl, rfl⟩ rfl dX2_earlierOfFix_19
theorem s_X2_earlierOfFix_13 {G : am_G} {bc bs : Nat} (X : am_Cx G cX2_earlierOfFix RX2 "earlierOfFix" rm_X2_earlierOfFix (some .int) 1 bc bs true) : am_S G 13 (t_X2_earlierOfFix_13) := by
  unfold t_X2_earlierOfFix_13
  refine as_aload_n (pc := 13) X dX2_earlierOfFix_13 rfl ?_
  refine as_getR (ci := 2) (j := 7) (pc := 14) X (Cn := RX2) (Tf := TX2) (N := 8) rfl rfl (by decide) iw_X2 aw_255 rfl dX2_earlierOfFix_14 ?_
  refine as_iconst (pc := 17) X dX2_earlierOfFix_17 (by decide) ?_
  refine as_iald (pc := 18) X dX2_earlierOfFix_18 ?_
  exact s_X2_earlierOfFix_19 X
theorem s_X2_earlierOfFix_0 {G : am_G} {bc bs : Nat} (X : am_Cx G cX2_earlierOfFix RX2 "earlierOfFix" rm_X2_earlierOfFix (some .int) 1 bc bs true) : am_S G 0 (t_X2_earlierOfFix_0) := by
  unfold t_X2_earlierOfFix_0
  refine as_aload_n (pc := 0) X dX2_earlierOfFix_0 rfl ?_
  refine as_getI (ci := 2) (j := 5) (pc := 1) X (Cn := RX2) (Tf := TX2) (N := 8) rfl rfl (by decide) iw_X2 aw_253 rfl dX2_earlierOfFix_1 ?_
  refine as_bipush (pc := 4) X dX2_earlierOfFix_4 (by decide) ?_
  refine as_ic_ne (pc := 6) X 13 dX2_earlierOfFix_6 (by decide) (s_X2_earlierOfFix_13 X) ?_
  refine as_iconst (pc := 9) X dX2_earlierOfFix_9 (by decide) ?_
  exact as_goto (pc := 10) X 19 dX2_earlierOfFix_10 (by decide) (s_X2_earlierOfFix_19 X)
theorem s_X2_earlierOfFix {G : am_G} {bc bs : Nat} (X : am_Cx G cX2_earlierOfFix RX2 "earlierOfFix" rm_X2_earlierOfFix (some .int) 1 bc bs true) (h : Nat) : am_S G h (h_X2_earlierOfFix h) := by
  unfold h_X2_earlierOfFix
  split
  · next e => rw [e]; exact s_X2_earlierOfFix_0 X
  exact as_bad
theorem ct_X2_earlierOfFix : am_Ct yX2_earlierOfFix cX2_earlierOfFix 1 (some .int) rm_X2_earlierOfFix sp_X2_earlierOfFix := am_met (own := RX2) (nm := "earlierOfFix") (by decide) rfl rfl (Or.inr (Or.inl rfl)) (fun _ _ => h_X2_earlierOfFix) (fun _ _ _ X => s_X2_earlierOfFix X) (fun _ _ _ _ h => h)
-- X2_entryFault
theorem dX2_entryFault_0 : decode cX2_entryFault 0 = .ok (.aload_n 0, 1) := by decide +kernel
theorem dX2_entryFault_1 : decode cX2_entryFault 1 = .ok (.getfield 28, 3) := by decide +kernel
theorem dX2_entryFault_4 : decode cX2_entryFault 4 = .ok (.bipush 108, 2) := by decide +kernel
theorem dX2_entryFault_6 : decode cX2_entryFault 6 = .ok (.if_icmp .ne 9, 3) := by decide +kernel
theorem dX2_entryFault_9 : decode cX2_entryFault 9 = .ok (.aload_n 0, 1) := by decide +kernel
theorem dX2_entryFault_10 : decode cX2_entryFault 10 = .ok (.aload_n 1, 1) := by decide +kernel
theorem dX2_entryFault_11 : decode cX2_entryFault 11 = .ok (.invokevirtual 58, 3) := by decide +kernel
theorem dX2_entryFault_14 : decode cX2_entryFault 14 = .ok (.ireturn, 1) := by decide +kernel
theorem dX2_entryFault_15 : decode cX2_entryFault 15 = .ok (.aload_n 0, 1) := by decide +kernel
theorem dX2_entryFault_16 : decode cX2_entryFault 16 = .ok (.invokevirtual 61, 3) := by decide +kernel
theorem dX2_entryFault_19 : decode cX2_entryFault 19 = .ok (.istore_n 2, 1) := by decide +kernel
theorem dX2_entryFault_20 : decode cX2_entryFault 20 = .ok (.aload_n 0, 1) := by decide +kernel
theorem dX2_entryFault_21 : decode cX2_entryFault 21 = .ok (.invokevirtual 64, 3) := by decide +kernel
theorem dX2_entryFault_24 : decode cX2_entryFault 24 = .ok (.istore_n 3, 1) := by decide +kernel
theorem dX2_entryFault_25 : decode cX2_entryFault 25 = .ok (.aload_n 1, 1) := by decide +kernel
theorem dX2_entryFault_26 : decode cX2_entryFault 26 = .ok (.aload_n 0, 1) := by decide +kernel
theorem dX2_entryFault_27 : decode cX2_entryFault 27 = .ok (.getfield 35, 3) := by decide +kernel
theorem dX2_entryFault_30 : decode cX2_entryFault 30 = .ok (.iconst 0, 1) := by decide +kernel
theorem dX2_entryFault_31 : decode cX2_entryFault 31 = .ok (.iaload, 1) := by decide +kernel
theorem dX2_entryFault_32 : decode cX2_entryFault 32 = .ok (.invokevirtual 67, 3) := by decide +kernel
theorem dX2_entryFault_35 : decode cX2_entryFault 35 = .ok (.ifCond .eq 15, 3) := by decide +kernel
theorem dX2_entryFault_38 : decode cX2_entryFault 38 = .ok (.iload_n 2, 1) := by decide +kernel
theorem dX2_entryFault_39 : decode cX2_entryFault 39 = .ok (.ifCond .eq 13, 3) := by decide +kernel
theorem dX2_entryFault_42 : decode cX2_entryFault 42 = .ok (.aload_n 1, 1) := by decide +kernel
theorem dX2_entryFault_43 : decode cX2_entryFault 43 = .ok (.iload_n 3, 1) := by decide +kernel
theorem dX2_entryFault_44 : decode cX2_entryFault 44 = .ok (.invokevirtual 67, 3) := by decide +kernel
theorem dX2_entryFault_47 : decode cX2_entryFault 47 = .ok (.ifCond .ne 5, 3) := by decide +kernel
theorem dX2_entryFault_50 : decode cX2_entryFault 50 = .ok (.iconst 2, 1) := by decide +kernel
theorem dX2_entryFault_51 : decode cX2_entryFault 51 = .ok (.ireturn, 1) := by decide +kernel
theorem dX2_entryFault_52 : decode cX2_entryFault 52 = .ok (.aload_n 1, 1) := by decide +kernel
theorem dX2_entryFault_53 : decode cX2_entryFault 53 = .ok (.iload_n 2, 1) := by decide +kernel
theorem dX2_entryFault_54 : decode cX2_entryFault 54 = .ok (.aload_n 0, 1) := by decide +kernel
theorem dX2_entryFault_55 : decode cX2_entryFault 55 = .ok (.getfield 35, 3) := by decide +kernel
theorem dX2_entryFault_58 : decode cX2_entryFault 58 = .ok (.iconst 0, 1) := by decide +kernel
theorem dX2_entryFault_59 : decode cX2_entryFault 59 = .ok (.iaload, 1) := by decide +kernel
theorem dX2_entryFault_60 : decode cX2_entryFault 60 = .ok (.iload_n 3, 1) := by decide +kernel
theorem dX2_entryFault_61 : decode cX2_entryFault 61 = .ok (.invokevirtual 73, 3) := by decide +kernel
theorem dX2_entryFault_64 : decode cX2_entryFault 64 = .ok (.ifCond .ne 5, 3) := by decide +kernel
theorem dX2_entryFault_67 : decode cX2_entryFault 67 = .ok (.iconst 3, 1) := by decide +kernel
theorem dX2_entryFault_68 : decode cX2_entryFault 68 = .ok (.ireturn, 1) := by decide +kernel
theorem dX2_entryFault_69 : decode cX2_entryFault 69 = .ok (.aload_n 1, 1) := by decide +kernel
theorem dX2_entryFault_70 : decode cX2_entryFault 70 = .ok (.getfield 77, 3) := by decide +kernel
theorem dX2_entryFault_73 : decode cX2_entryFault 73 = .ok (.bipush 12, 2) := by decide +kernel
theorem dX2_entryFault_75 : decode cX2_entryFault 75 = .ok (.if_icmp .lt 7, 3) := by decide +kernel
theorem dX2_entryFault_78 : decode cX2_entryFault 78 = .ok (.iconst 4, 1) := by decide +kernel
theorem dX2_entryFault_79 : decode cX2_entryFault 79 = .ok (.goto 4, 3) := by decide +kernel
theorem dX2_entryFault_82 : decode cX2_entryFault 82 = .ok (.iconst 0, 1) := by decide +kernel
theorem dX2_entryFault_83 : decode cX2_entryFault 83 = .ok (.ireturn, 1) := by decide +kernel
def t_X2_entryFault_83 : am_T := tb_iret
def t_X2_entryFault_82 : am_T := tb_const 0 <|
  t_X2_entryFault_83
def t_X2_entryFault_69 : am_T := tb_aload 1 <|
  tb_getI 1 9 <|
  tb_const 12 <|
  tb_ic (fun x y => x < y) (t_X2_entryFault_82) <|
  tb_const 4 <|
  t_X2_entryFault_83
def t_X2_entryFault_52 : am_T := tb_aload 1 <|
  tb_iload 2 <|
  tb_aload 0 <|
  tb_getR 2 7 <|
  tb_const 0 <|
  tb_iald <|
  tb_iload 3 <|
  tb_callV 1 sp_X1_canBeFixed 4 <|
  tb_if (fun x => x ≠ 0) (t_X2_entryFault_69) <|
  tb_const 3 <|
  tb_iret
def t_X2_entryFault_50 : am_T := tb_const 2 <|
  tb_iret
def t_X2_entryFault_15 : am_T := tb_aload 0 <|
  tb_callV 2 sp_X2_kindOfFix 1 <|
  tb_istore 2 <|
  tb_aload 0 <|
  tb_callV 2 sp_X2_earlierOfFix 1 <|
  tb_istore 3 <|
  tb_aload 1 <|
  tb_aload 0 <|
  tb_getR 2 7 <|
  tb_const 0 <|
  tb_iald <|
  tb_callV 1 sp_X1_isLine 2 <|
  tb_if (fun x => x = 0) (t_X2_entryFault_50) <|
  tb_iload 2 <|
  tb_if (fun x => x = 0) (t_X2_entryFault_52) <|
  tb_aload 1 <|
  tb_iload 3 <|
  tb_callV 1 sp_X1_isLine 2 <|
  tb_if (fun x => x ≠ 0) (t_X2_entryFault_52) <|
  t_X2_entryFault_50
def t_X2_entryFault_0 : am_T := tb_aload 0 <|
  tb_getI 2 5 <|
  tb_const 108 <|
  tb_ic (fun x y => x ≠ y) (t_X2_entryFault_15) <|
  tb_aload 0 <|
  tb_aload 1 <|
  tb_callV 2 sp_X2_lineFault 2 <|
  tb_iret
def h_X2_entryFault : am_Hd := fun h => if h = 0 then t_X2_entryFault_0 else tb_bad
theorem h_X2_entryFault_0 : h_X2_entryFault 0 = t_X2_entryFault_0 := rfl
def rm_X2_entryFault : Room := { frames := 2, cells := 0, slots := 0, locals := 47 }
def sp_X2_entryFault : am_sp := fun as M Q => as.length ≤ 4 ∧ am_OK h_X2_entryFault Q 0 (am_in 4 as) M
theorem s_X2_entryFault_83 {G : am_G} {bc bs : Nat} (X : am_Cx G cX2_entryFault RX2 "entryFault" rm_X2_entryFault (some .int) 4 bc bs true) : am_S G 83 (t_X2_entryFault_83) := by
  unfold t_X2_entryFault_83
  exact as_iret (pc := 83) X ⟨rfl, rfl⟩ rfl dX2_entryFault_83
theorem s_X2_entryFault_82 {G : am_G} {bc bs : Nat} (X : am_Cx G cX2_entryFault RX2 "entryFault" rm_X2_entryFault (some .int) 4 bc bs true) : am_S G 82 (t_X2_entryFault_82) := by
  unfold t_X2_entryFault_82
  refine as_iconst (pc := 82) X dX2_entryFault_82 (by decide) ?_
  exact s_X2_entryFault_83 X
theorem s_X2_entryFault_69 {G : am_G} {bc bs : Nat} (X : am_Cx G cX2_entryFault RX2 "entryFault" rm_X2_entryFault (some .int) 4 bc bs true) : am_S G 69 (t_X2_entryFault_69) := by
  unfold t_X2_entryFault_69
  refine as_aload_n (pc := 69) X dX2_entryFault_69 rfl ?_
  refine as_getI (ci := 1) (j := 9) (pc := 70) X (Cn := RX1) (Tf := TX1) (N := 14) rfl rfl (by decide) iw_X1 aw_115 rfl dX2_entryFault_70 ?_
  refine as_bipush (pc := 73) X dX2_entryFault_73 (by decide) ?_
  refine as_ic_lt (pc := 75) X 82 dX2_entryFault_75 (by decide) (s_X2_entryFault_82 X) ?_
  refine as_iconst (pc := 78) X dX2_entryFault_78 (by decide) ?_
  exact as_goto (pc := 79) X 83 dX2_entryFault_79 (by decide) (s_X2_entryFault_83 X)
theorem s_X2_entryFault_52 {G : am_G} {bc bs : Nat} (X : am_Cx G cX2_entryFault RX2 "entryFault" rm_X2_entryFault (some .int) 4 bc bs true) : am_S G 52 (t_X2_entryFault_52) := by
  unfold t_X2_entryFault_52
  refine as_aload_n (pc := 52) X dX2_entryFault_52 rfl ?_
  refine as_iload_n (pc := 53) X dX2_entryFault_53 rfl ?_
  refine as_aload_n (pc := 54) X dX2_entryFault_54 rfl ?_
  refine as_getR (ci := 2) (j := 7) (pc := 55) X (Cn := RX2) (Tf := TX2) (N := 8) rfl rfl (by decide) iw_X2 aw_255 rfl dX2_entryFault_55 ?_
  refine as_iconst (pc := 58) X dX2_entryFault_58 (by decide) ?_
  refine as_iald (pc := 59) X dX2_entryFault_59 ?_
  refine as_iload_n (pc := 60) X dX2_entryFault_60 rfl ?_
  refine as_callV (ci := 1) (np := 3) (ix := 73) (pc := 61) X ct_X1_canBeFixed (Cn := (RX1, TX1, 14)) rfl ⟨rfl, rfl⟩ aw_721 aw_557 aw_558 aw_559 aw_61 (by decide +kernel) (by decide) dX2_entryFault_61 ?_
  refine as_if_ne (pc := 64) X 69 dX2_entryFault_64 (by decide) (s_X2_entryFault_69 X) ?_
  refine as_iconst (pc := 67) X dX2_entryFault_67 (by decide) ?_
  exact as_iret (pc := 68) X ⟨rfl, rfl⟩ rfl dX2_entryFault_68
theorem s_X2_entryFault_50 {G : am_G} {bc bs : Nat} (X : am_Cx G cX2_entryFault RX2 "entryFault" rm_X2_entryFault (some .int) 4 bc bs true) : am_S G 50 (t_X2_entryFault_50) := by
  unfold t_X2_entryFault_50
  refine as_iconst (pc := 50) X dX2_entryFault_50 (by decide) ?_
  exact as_iret (pc := 51) X ⟨rfl, rfl⟩ rfl dX2_entryFault_51
theorem s_X2_entryFault_15 {G : am_G} {bc bs : Nat} (X : am_Cx G cX2_entryFault RX2 "entryFault" rm_X2_entryFault (some .int) 4 bc bs true) : am_S G 15 (t_X2_entryFault_15) := by
  unfold t_X2_entryFault_15
  refine as_aload_n (pc := 15) X dX2_entryFault_15 rfl ?_
  refine as_callV (ci := 2) (np := 0) (ix := 61) (pc := 16) X ct_X2_kindOfFix (Cn := (RX2, TX2, 8)) rfl ⟨rfl, rfl⟩ aw_712 aw_714 aw_23 aw_715 aw_64 (by decide +kernel) (by decide) dX2_entryFault_16 ?_
  refine as_istore_n (pc := 19) X dX2_entryFault_19 rfl ?_ (by decide)
  refine as_aload_n (pc := 20) X dX2_entryFault_20 rfl ?_
  refine as_callV (ci := 2) (np := 0) (ix := 64) (pc := 21) X ct_X2_earlierOfFix (Cn := (RX2, TX2, 8)) rfl ⟨rfl, rfl⟩ aw_716 aw_718 aw_24 aw_719 aw_64 (by decide +kernel) (by decide) dX2_entryFault_21 ?_
  refine as_istore_n (pc := 24) X dX2_entryFault_24 rfl ?_ (by decide)
  refine as_aload_n (pc := 25) X dX2_entryFault_25 rfl ?_
  refine as_aload_n (pc := 26) X dX2_entryFault_26 rfl ?_
  refine as_getR (ci := 2) (j := 7) (pc := 27) X (Cn := RX2) (Tf := TX2) (N := 8) rfl rfl (by decide) iw_X2 aw_255 rfl dX2_entryFault_27 ?_
  refine as_iconst (pc := 30) X dX2_entryFault_30 (by decide) ?_
  refine as_iald (pc := 31) X dX2_entryFault_31 ?_
  refine as_callV (ci := 1) (np := 1) (ix := 67) (pc := 32) X ct_X1_isLine (Cn := (RX1, TX1, 14)) rfl ⟨rfl, rfl⟩ aw_720 aw_371 aw_372 aw_373 aw_61 (by decide +kernel) (by decide) dX2_entryFault_32 ?_
  refine as_if_eq (pc := 35) X 50 dX2_entryFault_35 (by decide) (s_X2_entryFault_50 X) ?_
  refine as_iload_n (pc := 38) X dX2_entryFault_38 rfl ?_
  refine as_if_eq (pc := 39) X 52 dX2_entryFault_39 (by decide) (s_X2_entryFault_52 X) ?_
  refine as_aload_n (pc := 42) X dX2_entryFault_42 rfl ?_
  refine as_iload_n (pc := 43) X dX2_entryFault_43 rfl ?_
  refine as_callV (ci := 1) (np := 1) (ix := 67) (pc := 44) X ct_X1_isLine (Cn := (RX1, TX1, 14)) rfl ⟨rfl, rfl⟩ aw_720 aw_371 aw_372 aw_373 aw_61 (by decide +kernel) (by decide) dX2_entryFault_44 ?_
  refine as_if_ne (pc := 47) X 52 dX2_entryFault_47 (by decide) (s_X2_entryFault_52 X) ?_
  exact s_X2_entryFault_50 X
theorem s_X2_entryFault_0 {G : am_G} {bc bs : Nat} (X : am_Cx G cX2_entryFault RX2 "entryFault" rm_X2_entryFault (some .int) 4 bc bs true) : am_S G 0 (t_X2_entryFault_0) := by
  unfold t_X2_entryFault_0
  refine as_aload_n (pc := 0) X dX2_entryFault_0 rfl ?_
  refine as_getI (ci := 2) (j := 5) (pc := 1) X (Cn := RX2) (Tf := TX2) (N := 8) rfl rfl (by decide) iw_X2 aw_253 rfl dX2_entryFault_1 ?_
  refine as_bipush (pc := 4) X dX2_entryFault_4 (by decide) ?_
  refine as_ic_ne (pc := 6) X 15 dX2_entryFault_6 (by decide) (s_X2_entryFault_15 X) ?_
  refine as_aload_n (pc := 9) X dX2_entryFault_9 rfl ?_
  refine as_aload_n (pc := 10) X dX2_entryFault_10 rfl ?_
  refine as_callV (ci := 2) (np := 1) (ix := 58) (pc := 11) X ct_X2_lineFault (Cn := (RX2, TX2, 8)) rfl ⟨rfl, rfl⟩ aw_705 aw_707 aw_22 aw_708 aw_64 (by decide +kernel) (by decide) dX2_entryFault_11 ?_
  exact as_iret (pc := 14) X ⟨rfl, rfl⟩ rfl dX2_entryFault_14
theorem s_X2_entryFault {G : am_G} {bc bs : Nat} (X : am_Cx G cX2_entryFault RX2 "entryFault" rm_X2_entryFault (some .int) 4 bc bs true) (h : Nat) : am_S G h (h_X2_entryFault h) := by
  unfold h_X2_entryFault
  split
  · next e => rw [e]; exact s_X2_entryFault_0 X
  exact as_bad
theorem ct_X2_entryFault : am_Ct yX2_entryFault cX2_entryFault 4 (some .int) rm_X2_entryFault sp_X2_entryFault := am_met (own := RX2) (nm := "entryFault") (by decide) rfl rfl (Or.inr (Or.inl rfl)) (fun _ _ => h_X2_entryFault) (fun _ _ _ X => s_X2_entryFault X) (fun _ _ _ _ h => h)
-- X2_doEntry
theorem dX2_doEntry_0 : decode cX2_doEntry 0 = .ok (.aload_n 0, 1) := by decide +kernel
theorem dX2_doEntry_1 : decode cX2_doEntry 1 = .ok (.getfield 28, 3) := by decide +kernel
theorem dX2_doEntry_4 : decode cX2_doEntry 4 = .ok (.bipush 108, 2) := by decide +kernel
theorem dX2_doEntry_6 : decode cX2_doEntry 6 = .ok (.if_icmp .ne 34, 3) := by decide +kernel
theorem dX2_doEntry_9 : decode cX2_doEntry 9 = .ok (.aload_n 1, 1) := by decide +kernel
theorem dX2_doEntry_10 : decode cX2_doEntry 10 = .ok (.aload_n 0, 1) := by decide +kernel
theorem dX2_doEntry_11 : decode cX2_doEntry 11 = .ok (.getfield 35, 3) := by decide +kernel
theorem dX2_doEntry_14 : decode cX2_doEntry 14 = .ok (.iconst 0, 1) := by decide +kernel
theorem dX2_doEntry_15 : decode cX2_doEntry 15 = .ok (.iaload, 1) := by decide +kernel
theorem dX2_doEntry_16 : decode cX2_doEntry 16 = .ok (.aload_n 0, 1) := by decide +kernel
theorem dX2_doEntry_17 : decode cX2_doEntry 17 = .ok (.getfield 35, 3) := by decide +kernel
theorem dX2_doEntry_20 : decode cX2_doEntry 20 = .ok (.iconst 1, 1) := by decide +kernel
theorem dX2_doEntry_21 : decode cX2_doEntry 21 = .ok (.iaload, 1) := by decide +kernel
theorem dX2_doEntry_22 : decode cX2_doEntry 22 = .ok (.aload_n 0, 1) := by decide +kernel
theorem dX2_doEntry_23 : decode cX2_doEntry 23 = .ok (.getfield 35, 3) := by decide +kernel
theorem dX2_doEntry_26 : decode cX2_doEntry 26 = .ok (.iconst 2, 1) := by decide +kernel
theorem dX2_doEntry_27 : decode cX2_doEntry 27 = .ok (.iaload, 1) := by decide +kernel
theorem dX2_doEntry_28 : decode cX2_doEntry 28 = .ok (.aload_n 0, 1) := by decide +kernel
theorem dX2_doEntry_29 : decode cX2_doEntry 29 = .ok (.getfield 35, 3) := by decide +kernel
theorem dX2_doEntry_32 : decode cX2_doEntry 32 = .ok (.iconst 3, 1) := by decide +kernel
theorem dX2_doEntry_33 : decode cX2_doEntry 33 = .ok (.iaload, 1) := by decide +kernel
theorem dX2_doEntry_34 : decode cX2_doEntry 34 = .ok (.invokevirtual 92, 3) := by decide +kernel
theorem dX2_doEntry_37 : decode cX2_doEntry 37 = .ok (.goto 21, 3) := by decide +kernel
theorem dX2_doEntry_40 : decode cX2_doEntry 40 = .ok (.aload_n 1, 1) := by decide +kernel
theorem dX2_doEntry_41 : decode cX2_doEntry 41 = .ok (.aload_n 0, 1) := by decide +kernel
theorem dX2_doEntry_42 : decode cX2_doEntry 42 = .ok (.invokevirtual 61, 3) := by decide +kernel
theorem dX2_doEntry_45 : decode cX2_doEntry 45 = .ok (.aload_n 0, 1) := by decide +kernel
theorem dX2_doEntry_46 : decode cX2_doEntry 46 = .ok (.getfield 35, 3) := by decide +kernel
theorem dX2_doEntry_49 : decode cX2_doEntry 49 = .ok (.iconst 0, 1) := by decide +kernel
theorem dX2_doEntry_50 : decode cX2_doEntry 50 = .ok (.iaload, 1) := by decide +kernel
theorem dX2_doEntry_51 : decode cX2_doEntry 51 = .ok (.aload_n 0, 1) := by decide +kernel
theorem dX2_doEntry_52 : decode cX2_doEntry 52 = .ok (.invokevirtual 64, 3) := by decide +kernel
theorem dX2_doEntry_55 : decode cX2_doEntry 55 = .ok (.invokevirtual 96, 3) := by decide +kernel
theorem dX2_doEntry_58 : decode cX2_doEntry 58 = .ok (.return_, 1) := by decide +kernel
def t_X2_doEntry_58 : am_T := tb_ret
def t_X2_doEntry_40 : am_T := tb_aload 1 <|
  tb_aload 0 <|
  tb_callV 2 sp_X2_kindOfFix 1 <|
  tb_aload 0 <|
  tb_getR 2 7 <|
  tb_const 0 <|
  tb_iald <|
  tb_aload 0 <|
  tb_callV 2 sp_X2_earlierOfFix 1 <|
  tb_callV 1 sp_X1_addFix 4 <|
  t_X2_doEntry_58
def t_X2_doEntry_0 : am_T := tb_aload 0 <|
  tb_getI 2 5 <|
  tb_const 108 <|
  tb_ic (fun x y => x ≠ y) (t_X2_doEntry_40) <|
  tb_aload 1 <|
  tb_aload 0 <|
  tb_getR 2 7 <|
  tb_const 0 <|
  tb_iald <|
  tb_aload 0 <|
  tb_getR 2 7 <|
  tb_const 1 <|
  tb_iald <|
  tb_aload 0 <|
  tb_getR 2 7 <|
  tb_const 2 <|
  tb_iald <|
  tb_aload 0 <|
  tb_getR 2 7 <|
  tb_const 3 <|
  tb_iald <|
  tb_callV 1 sp_X1_addLine 5 <|
  t_X2_doEntry_58
def h_X2_doEntry : am_Hd := fun h => if h = 0 then t_X2_doEntry_0 else tb_bad
theorem h_X2_doEntry_0 : h_X2_doEntry 0 = t_X2_doEntry_0 := rfl
def rm_X2_doEntry : Room := { frames := 1, cells := 0, slots := 0, locals := 24 }
def sp_X2_doEntry : am_sp := fun as M Q => as.length ≤ 2 ∧ am_OK h_X2_doEntry Q 0 (am_in 2 as) M
theorem s_X2_doEntry_58 {G : am_G} {bc bs : Nat} (X : am_Cx G cX2_doEntry RX2 "doEntry" rm_X2_doEntry none 2 bc bs true) : am_S G 58 (t_X2_doEntry_58) := by
  unfold t_X2_doEntry_58
  exact as_ret (pc := 58) X ⟨rfl, rfl⟩ rfl dX2_doEntry_58
theorem s_X2_doEntry_40 {G : am_G} {bc bs : Nat} (X : am_Cx G cX2_doEntry RX2 "doEntry" rm_X2_doEntry none 2 bc bs true) : am_S G 40 (t_X2_doEntry_40) := by
  unfold t_X2_doEntry_40
  refine as_aload_n (pc := 40) X dX2_doEntry_40 rfl ?_
  refine as_aload_n (pc := 41) X dX2_doEntry_41 rfl ?_
  refine as_callV (ci := 2) (np := 0) (ix := 61) (pc := 42) X ct_X2_kindOfFix (Cn := (RX2, TX2, 8)) rfl ⟨rfl, rfl⟩ aw_712 aw_714 aw_23 aw_715 aw_64 (by decide +kernel) (by decide) dX2_doEntry_42 ?_
  refine as_aload_n (pc := 45) X dX2_doEntry_45 rfl ?_
  refine as_getR (ci := 2) (j := 7) (pc := 46) X (Cn := RX2) (Tf := TX2) (N := 8) rfl rfl (by decide) iw_X2 aw_255 rfl dX2_doEntry_46 ?_
  refine as_iconst (pc := 49) X dX2_doEntry_49 (by decide) ?_
  refine as_iald (pc := 50) X dX2_doEntry_50 ?_
  refine as_aload_n (pc := 51) X dX2_doEntry_51 rfl ?_
  refine as_callV (ci := 2) (np := 0) (ix := 64) (pc := 52) X ct_X2_earlierOfFix (Cn := (RX2, TX2, 8)) rfl ⟨rfl, rfl⟩ aw_716 aw_718 aw_24 aw_719 aw_64 (by decide +kernel) (by decide) dX2_doEntry_52 ?_
  refine as_callV (ci := 1) (np := 3) (ix := 96) (pc := 55) X ct_X1_addFix (Cn := (RX1, TX1, 14)) rfl ⟨rfl, rfl⟩ aw_727 aw_563 aw_564 aw_565 aw_61 (by decide +kernel) (by decide) dX2_doEntry_55 ?_
  exact s_X2_doEntry_58 X
theorem s_X2_doEntry_0 {G : am_G} {bc bs : Nat} (X : am_Cx G cX2_doEntry RX2 "doEntry" rm_X2_doEntry none 2 bc bs true) : am_S G 0 (t_X2_doEntry_0) := by
  unfold t_X2_doEntry_0
  refine as_aload_n (pc := 0) X dX2_doEntry_0 rfl ?_
  refine as_getI (ci := 2) (j := 5) (pc := 1) X (Cn := RX2) (Tf := TX2) (N := 8) rfl rfl (by decide) iw_X2 aw_253 rfl dX2_doEntry_1 ?_
  refine as_bipush (pc := 4) X dX2_doEntry_4 (by decide) ?_
  refine as_ic_ne (pc := 6) X 40 dX2_doEntry_6 (by decide) (s_X2_doEntry_40 X) ?_
  refine as_aload_n (pc := 9) X dX2_doEntry_9 rfl ?_
  refine as_aload_n (pc := 10) X dX2_doEntry_10 rfl ?_
  refine as_getR (ci := 2) (j := 7) (pc := 11) X (Cn := RX2) (Tf := TX2) (N := 8) rfl rfl (by decide) iw_X2 aw_255 rfl dX2_doEntry_11 ?_
  refine as_iconst (pc := 14) X dX2_doEntry_14 (by decide) ?_
  refine as_iald (pc := 15) X dX2_doEntry_15 ?_
  refine as_aload_n (pc := 16) X dX2_doEntry_16 rfl ?_
  refine as_getR (ci := 2) (j := 7) (pc := 17) X (Cn := RX2) (Tf := TX2) (N := 8) rfl rfl (by decide) iw_X2 aw_255 rfl dX2_doEntry_17 ?_
  refine as_iconst (pc := 20) X dX2_doEntry_20 (by decide) ?_
  refine as_iald (pc := 21) X dX2_doEntry_21 ?_
  refine as_aload_n (pc := 22) X dX2_doEntry_22 rfl ?_
  refine as_getR (ci := 2) (j := 7) (pc := 23) X (Cn := RX2) (Tf := TX2) (N := 8) rfl rfl (by decide) iw_X2 aw_255 rfl dX2_doEntry_23 ?_
  refine as_iconst (pc := 26) X dX2_doEntry_26 (by decide) ?_
  refine as_iald (pc := 27) X dX2_doEntry_27 ?_
  refine as_aload_n (pc := 28) X dX2_doEntry_28 rfl ?_
  refine as_getR (ci := 2) (j := 7) (pc := 29) X (Cn := RX2) (Tf := TX2) (N := 8) rfl rfl (by decide) iw_X2 aw_255 rfl dX2_doEntry_29 ?_
  refine as_iconst (pc := 32) X dX2_doEntry_32 (by decide) ?_
  refine as_iald (pc := 33) X dX2_doEntry_33 ?_
  refine as_callV (ci := 1) (np := 4) (ix := 92) (pc := 34) X ct_X1_addLine (Cn := (RX1, TX1, 14)) rfl ⟨rfl, rfl⟩ aw_726 aw_363 aw_364 aw_365 aw_61 (by decide +kernel) (by decide) dX2_doEntry_34 ?_
  exact as_goto (pc := 37) X 58 dX2_doEntry_37 (by decide) (s_X2_doEntry_58 X)
theorem s_X2_doEntry {G : am_G} {bc bs : Nat} (X : am_Cx G cX2_doEntry RX2 "doEntry" rm_X2_doEntry none 2 bc bs true) (h : Nat) : am_S G h (h_X2_doEntry h) := by
  unfold h_X2_doEntry
  split
  · next e => rw [e]; exact s_X2_doEntry_0 X
  exact as_bad
theorem ct_X2_doEntry : am_Ct yX2_doEntry cX2_doEntry 2 none rm_X2_doEntry sp_X2_doEntry := am_met (own := RX2) (nm := "doEntry") (by decide) rfl rfl (Or.inl rfl) (fun _ _ => h_X2_doEntry) (fun _ _ _ X => s_X2_doEntry X) (fun _ _ _ _ h => h)
-- X2_doneOn
theorem dX2_doneOn_0 : decode cX2_doneOn 0 = .ok (.aload_n 0, 1) := by decide +kernel
theorem dX2_doneOn_1 : decode cX2_doneOn 1 = .ok (.iconst 0, 1) := by decide +kernel
theorem dX2_doneOn_2 : decode cX2_doneOn 2 = .ok (.putfield 32, 3) := by decide +kernel
theorem dX2_doneOn_5 : decode cX2_doneOn 5 = .ok (.aload_n 0, 1) := by decide +kernel
theorem dX2_doneOn_6 : decode cX2_doneOn 6 = .ok (.iconst 0, 1) := by decide +kernel
theorem dX2_doneOn_7 : decode cX2_doneOn 7 = .ok (.putfield 19, 3) := by decide +kernel
theorem dX2_doneOn_10 : decode cX2_doneOn 10 = .ok (.iconst 0, 1) := by decide +kernel
theorem dX2_doneOn_11 : decode cX2_doneOn 11 = .ok (.istore_n 2, 1) := by decide +kernel
theorem dX2_doneOn_12 : decode cX2_doneOn 12 = .ok (.iload_n 2, 1) := by decide +kernel
theorem dX2_doneOn_13 : decode cX2_doneOn 13 = .ok (.bipush 80, 2) := by decide +kernel
theorem dX2_doneOn_15 : decode cX2_doneOn 15 = .ok (.if_icmp .ge 72, 3) := by decide +kernel
theorem dX2_doneOn_18 : decode cX2_doneOn 18 = .ok (.aload_n 0, 1) := by decide +kernel
theorem dX2_doneOn_19 : decode cX2_doneOn 19 = .ok (.getfield 32, 3) := by decide +kernel
theorem dX2_doneOn_22 : decode cX2_doneOn 22 = .ok (.aload_n 0, 1) := by decide +kernel
theorem dX2_doneOn_23 : decode cX2_doneOn 23 = .ok (.getfield 9, 3) := by decide +kernel
theorem dX2_doneOn_26 : decode cX2_doneOn 26 = .ok (.if_icmp .ge 61, 3) := by decide +kernel
theorem dX2_doneOn_29 : decode cX2_doneOn 29 = .ok (.aload_n 0, 1) := by decide +kernel
theorem dX2_doneOn_30 : decode cX2_doneOn 30 = .ok (.aload_n 0, 1) := by decide +kernel
theorem dX2_doneOn_31 : decode cX2_doneOn 31 = .ok (.getfield 32, 3) := by decide +kernel
theorem dX2_doneOn_34 : decode cX2_doneOn 34 = .ok (.putfield 22, 3) := by decide +kernel
theorem dX2_doneOn_37 : decode cX2_doneOn 37 = .ok (.aload_n 0, 1) := by decide +kernel
theorem dX2_doneOn_38 : decode cX2_doneOn 38 = .ok (.aload_n 0, 1) := by decide +kernel
theorem dX2_doneOn_39 : decode cX2_doneOn 39 = .ok (.invokevirtual 39, 3) := by decide +kernel
theorem dX2_doneOn_42 : decode cX2_doneOn 42 = .ok (.ifCond .eq 11, 3) := by decide +kernel
theorem dX2_doneOn_45 : decode cX2_doneOn 45 = .ok (.aload_n 0, 1) := by decide +kernel
theorem dX2_doneOn_46 : decode cX2_doneOn 46 = .ok (.aload_n 1, 1) := by decide +kernel
theorem dX2_doneOn_47 : decode cX2_doneOn 47 = .ok (.invokevirtual 43, 3) := by decide +kernel
theorem dX2_doneOn_50 : decode cX2_doneOn 50 = .ok (.goto 4, 3) := by decide +kernel
theorem dX2_doneOn_53 : decode cX2_doneOn 53 = .ok (.iconst 1, 1) := by decide +kernel
theorem dX2_doneOn_54 : decode cX2_doneOn 54 = .ok (.putfield 25, 3) := by decide +kernel
theorem dX2_doneOn_57 : decode cX2_doneOn 57 = .ok (.aload_n 0, 1) := by decide +kernel
theorem dX2_doneOn_58 : decode cX2_doneOn 58 = .ok (.getfield 25, 3) := by decide +kernel
theorem dX2_doneOn_61 : decode cX2_doneOn 61 = .ok (.ifCond .eq 5, 3) := by decide +kernel
theorem dX2_doneOn_64 : decode cX2_doneOn 64 = .ok (.iconst 0, 1) := by decide +kernel
theorem dX2_doneOn_65 : decode cX2_doneOn 65 = .ok (.ireturn, 1) := by decide +kernel
theorem dX2_doneOn_66 : decode cX2_doneOn 66 = .ok (.aload_n 0, 1) := by decide +kernel
theorem dX2_doneOn_67 : decode cX2_doneOn 67 = .ok (.aload_n 1, 1) := by decide +kernel
theorem dX2_doneOn_68 : decode cX2_doneOn 68 = .ok (.invokevirtual 47, 3) := by decide +kernel
theorem dX2_doneOn_71 : decode cX2_doneOn 71 = .ok (.aload_n 0, 1) := by decide +kernel
theorem dX2_doneOn_72 : decode cX2_doneOn 72 = .ok (.dup, 1) := by decide +kernel
theorem dX2_doneOn_73 : decode cX2_doneOn 73 = .ok (.getfield 19, 3) := by decide +kernel
theorem dX2_doneOn_76 : decode cX2_doneOn 76 = .ok (.iconst 1, 1) := by decide +kernel
theorem dX2_doneOn_77 : decode cX2_doneOn 77 = .ok (.iadd, 1) := by decide +kernel
theorem dX2_doneOn_78 : decode cX2_doneOn 78 = .ok (.putfield 19, 3) := by decide +kernel
theorem dX2_doneOn_81 : decode cX2_doneOn 81 = .ok (.iinc 2 1, 3) := by decide +kernel
theorem dX2_doneOn_84 : decode cX2_doneOn 84 = .ok (.goto (-72), 3) := by decide +kernel
theorem dX2_doneOn_87 : decode cX2_doneOn 87 = .ok (.iconst 1, 1) := by decide +kernel
theorem dX2_doneOn_88 : decode cX2_doneOn 88 = .ok (.ireturn, 1) := by decide +kernel
def t_X2_doneOn_87 : am_T := tb_const 1 <|
  tb_zret
def t_X2_doneOn_66 : am_T := tb_aload 0 <|
  tb_aload 1 <|
  tb_callV 2 sp_X2_doEntry 2 <|
  tb_aload 0 <|
  tb_dup <|
  tb_getI 2 2 <|
  tb_const 1 <|
  tb_bin (fun x y => x + y) <|
  tb_putI 2 2 <|
  tb_iinc 2 1 <|
  tb_head 12
def t_X2_doneOn_54 : am_T := tb_putI 2 4 <|
  tb_aload 0 <|
  tb_getI 2 4 <|
  tb_if (fun x => x = 0) (t_X2_doneOn_66) <|
  tb_const 0 <|
  tb_zret
def t_X2_doneOn_53 : am_T := tb_const 1 <|
  t_X2_doneOn_54
def t_X2_doneOn_12 : am_T := tb_iload 2 <|
  tb_const 80 <|
  tb_ic (fun x y => y ≤ x) (t_X2_doneOn_87) <|
  tb_aload 0 <|
  tb_getI 2 6 <|
  tb_aload 0 <|
  tb_getI 2 0 <|
  tb_ic (fun x y => y ≤ x) (t_X2_doneOn_87) <|
  tb_aload 0 <|
  tb_aload 0 <|
  tb_getI 2 6 <|
  tb_putI 2 3 <|
  tb_aload 0 <|
  tb_aload 0 <|
  tb_callV 2 sp_X2_readEntry 1 <|
  tb_if (fun x => x = 0) (t_X2_doneOn_53) <|
  tb_aload 0 <|
  tb_aload 1 <|
  tb_callV 2 sp_X2_entryFault 2 <|
  t_X2_doneOn_54
def t_X2_doneOn_0 : am_T := tb_aload 0 <|
  tb_const 0 <|
  tb_putI 2 6 <|
  tb_aload 0 <|
  tb_const 0 <|
  tb_putI 2 2 <|
  tb_const 0 <|
  tb_istore 2 <|
  tb_head 12
def h_X2_doneOn : am_Hd := fun h => if h = 0 then t_X2_doneOn_0 else if h = 12 then t_X2_doneOn_12 else tb_bad
theorem h_X2_doneOn_0 : h_X2_doneOn 0 = t_X2_doneOn_0 := rfl
theorem h_X2_doneOn_12 : h_X2_doneOn 12 = t_X2_doneOn_12 := rfl
def rm_X2_doneOn : Room := { frames := 3, cells := 0, slots := 0, locals := 70 }
def sp_X2_doneOn : am_sp := fun as M Q => as.length ≤ 3 ∧ am_OK h_X2_doneOn Q 0 (am_in 3 as) M
theorem s_X2_doneOn_87 {G : am_G} {bc bs : Nat} (X : am_Cx G cX2_doneOn RX2 "doneOn" rm_X2_doneOn (some .boolean) 3 bc bs true) : am_S G 87 (t_X2_doneOn_87) := by
  unfold t_X2_doneOn_87
  refine as_iconst (pc := 87) X dX2_doneOn_87 (by decide) ?_
  exact as_zret (pc := 88) X ⟨rfl, rfl⟩ rfl dX2_doneOn_88
theorem s_X2_doneOn_66 {G : am_G} {bc bs : Nat} (X : am_Cx G cX2_doneOn RX2 "doneOn" rm_X2_doneOn (some .boolean) 3 bc bs true) : am_S G 66 (t_X2_doneOn_66) := by
  unfold t_X2_doneOn_66
  refine as_aload_n (pc := 66) X dX2_doneOn_66 rfl ?_
  refine as_aload_n (pc := 67) X dX2_doneOn_67 rfl ?_
  refine as_callV (ci := 2) (np := 1) (ix := 47) (pc := 68) X ct_X2_doEntry (Cn := (RX2, TX2, 8)) rfl ⟨rfl, rfl⟩ aw_722 aw_724 aw_25 aw_725 aw_64 (by decide +kernel) (by decide) dX2_doneOn_68 ?_
  refine as_aload_n (pc := 71) X dX2_doneOn_71 rfl ?_
  refine as_dup (pc := 72) X dX2_doneOn_72 ?_
  refine as_getI (ci := 2) (j := 2) (pc := 73) X (Cn := RX2) (Tf := TX2) (N := 8) rfl rfl (by decide) iw_X2 aw_247 rfl dX2_doneOn_73 ?_
  refine as_iconst (pc := 76) X dX2_doneOn_76 (by decide) ?_
  refine as_iadd (pc := 77) X dX2_doneOn_77 ?_
  refine as_putI (ci := 2) (j := 2) (pc := 78) X (Cn := RX2) (Tf := TX2) (N := 8) rfl rfl (by decide) iw_X2 aw_247 tyX2 tyX2_ok nmX2 rfl rfl (by decide +kernel) dX2_doneOn_78 ?_
  refine as_iinc (pc := 81) X dX2_doneOn_81 (by decide) (by decide) ?_
  exact as_goto (pc := 84) X 12 dX2_doneOn_84 (by decide) (as_head)
theorem s_X2_doneOn_54 {G : am_G} {bc bs : Nat} (X : am_Cx G cX2_doneOn RX2 "doneOn" rm_X2_doneOn (some .boolean) 3 bc bs true) : am_S G 54 (t_X2_doneOn_54) := by
  unfold t_X2_doneOn_54
  refine as_putI (ci := 2) (j := 4) (pc := 54) X (Cn := RX2) (Tf := TX2) (N := 8) rfl rfl (by decide) iw_X2 aw_251 tyX2 tyX2_ok nmX2 rfl rfl (by decide +kernel) dX2_doneOn_54 ?_
  refine as_aload_n (pc := 57) X dX2_doneOn_57 rfl ?_
  refine as_getI (ci := 2) (j := 4) (pc := 58) X (Cn := RX2) (Tf := TX2) (N := 8) rfl rfl (by decide) iw_X2 aw_251 rfl dX2_doneOn_58 ?_
  refine as_if_eq (pc := 61) X 66 dX2_doneOn_61 (by decide) (s_X2_doneOn_66 X) ?_
  refine as_iconst (pc := 64) X dX2_doneOn_64 (by decide) ?_
  exact as_zret (pc := 65) X ⟨rfl, rfl⟩ rfl dX2_doneOn_65
theorem s_X2_doneOn_53 {G : am_G} {bc bs : Nat} (X : am_Cx G cX2_doneOn RX2 "doneOn" rm_X2_doneOn (some .boolean) 3 bc bs true) : am_S G 53 (t_X2_doneOn_53) := by
  unfold t_X2_doneOn_53
  refine as_iconst (pc := 53) X dX2_doneOn_53 (by decide) ?_
  exact s_X2_doneOn_54 X
theorem s_X2_doneOn_12 {G : am_G} {bc bs : Nat} (X : am_Cx G cX2_doneOn RX2 "doneOn" rm_X2_doneOn (some .boolean) 3 bc bs true) : am_S G 12 (t_X2_doneOn_12) := by
  unfold t_X2_doneOn_12
  refine as_iload_n (pc := 12) X dX2_doneOn_12 rfl ?_
  refine as_bipush (pc := 13) X dX2_doneOn_13 (by decide) ?_
  refine as_ic_ge (pc := 15) X 87 dX2_doneOn_15 (by decide) (s_X2_doneOn_87 X) ?_
  refine as_aload_n (pc := 18) X dX2_doneOn_18 rfl ?_
  refine as_getI (ci := 2) (j := 6) (pc := 19) X (Cn := RX2) (Tf := TX2) (N := 8) rfl rfl (by decide) iw_X2 aw_254 rfl dX2_doneOn_19 ?_
  refine as_aload_n (pc := 22) X dX2_doneOn_22 rfl ?_
  refine as_getI (ci := 2) (j := 0) (pc := 23) X (Cn := RX2) (Tf := TX2) (N := 8) rfl rfl (by decide) iw_X2 aw_244 rfl dX2_doneOn_23 ?_
  refine as_ic_ge (pc := 26) X 87 dX2_doneOn_26 (by decide) (s_X2_doneOn_87 X) ?_
  refine as_aload_n (pc := 29) X dX2_doneOn_29 rfl ?_
  refine as_aload_n (pc := 30) X dX2_doneOn_30 rfl ?_
  refine as_getI (ci := 2) (j := 6) (pc := 31) X (Cn := RX2) (Tf := TX2) (N := 8) rfl rfl (by decide) iw_X2 aw_254 rfl dX2_doneOn_31 ?_
  refine as_putI (ci := 2) (j := 3) (pc := 34) X (Cn := RX2) (Tf := TX2) (N := 8) rfl rfl (by decide) iw_X2 aw_249 tyX2 tyX2_ok nmX2 rfl rfl (by decide +kernel) dX2_doneOn_34 ?_
  refine as_aload_n (pc := 37) X dX2_doneOn_37 rfl ?_
  refine as_aload_n (pc := 38) X dX2_doneOn_38 rfl ?_
  refine as_callV (ci := 2) (np := 0) (ix := 39) (pc := 39) X ct_X2_readEntry (Cn := (RX2, TX2, 8)) rfl ⟨rfl, rfl⟩ aw_689 aw_691 aw_18 aw_692 aw_64 (by decide +kernel) (by decide) dX2_doneOn_39 ?_
  refine as_if_eq (pc := 42) X 53 dX2_doneOn_42 (by decide) (s_X2_doneOn_53 X) ?_
  refine as_aload_n (pc := 45) X dX2_doneOn_45 rfl ?_
  refine as_aload_n (pc := 46) X dX2_doneOn_46 rfl ?_
  refine as_callV (ci := 2) (np := 1) (ix := 43) (pc := 47) X ct_X2_entryFault (Cn := (RX2, TX2, 8)) rfl ⟨rfl, rfl⟩ aw_701 aw_703 aw_21 aw_704 aw_64 (by decide +kernel) (by decide) dX2_doneOn_47 ?_
  exact as_goto (pc := 50) X 54 dX2_doneOn_50 (by decide) (s_X2_doneOn_54 X)
theorem s_X2_doneOn_0 {G : am_G} {bc bs : Nat} (X : am_Cx G cX2_doneOn RX2 "doneOn" rm_X2_doneOn (some .boolean) 3 bc bs true) : am_S G 0 (t_X2_doneOn_0) := by
  unfold t_X2_doneOn_0
  refine as_aload_n (pc := 0) X dX2_doneOn_0 rfl ?_
  refine as_iconst (pc := 1) X dX2_doneOn_1 (by decide) ?_
  refine as_putI (ci := 2) (j := 6) (pc := 2) X (Cn := RX2) (Tf := TX2) (N := 8) rfl rfl (by decide) iw_X2 aw_254 tyX2 tyX2_ok nmX2 rfl rfl (by decide +kernel) dX2_doneOn_2 ?_
  refine as_aload_n (pc := 5) X dX2_doneOn_5 rfl ?_
  refine as_iconst (pc := 6) X dX2_doneOn_6 (by decide) ?_
  refine as_putI (ci := 2) (j := 2) (pc := 7) X (Cn := RX2) (Tf := TX2) (N := 8) rfl rfl (by decide) iw_X2 aw_247 tyX2 tyX2_ok nmX2 rfl rfl (by decide +kernel) dX2_doneOn_7 ?_
  refine as_iconst (pc := 10) X dX2_doneOn_10 (by decide) ?_
  refine as_istore_n (pc := 11) X dX2_doneOn_11 rfl ?_ (by decide)
  exact as_head
theorem s_X2_doneOn {G : am_G} {bc bs : Nat} (X : am_Cx G cX2_doneOn RX2 "doneOn" rm_X2_doneOn (some .boolean) 3 bc bs true) (h : Nat) : am_S G h (h_X2_doneOn h) := by
  unfold h_X2_doneOn
  split
  · next e => rw [e]; exact s_X2_doneOn_0 X
  split
  · next e => rw [e]; exact s_X2_doneOn_12 X
  exact as_bad
theorem ct_X2_doneOn : am_Ct yX2_doneOn cX2_doneOn 3 (some .boolean) rm_X2_doneOn sp_X2_doneOn := am_met (own := RX2) (nm := "doneOn") (by decide) rfl rfl (Or.inr (Or.inr (Or.inl rfl))) (fun _ _ => h_X2_doneOn) (fun _ _ _ X => s_X2_doneOn X) (fun _ _ _ _ h => h)
-- X4_fault
theorem dX4_fault_0 : decode cX4_fault 0 = .ok (.iload_n 1, 1) := by decide +kernel
theorem dX4_fault_1 : decode cX4_fault 1 = .ok (.ifCond .lt 8, 3) := by decide +kernel
theorem dX4_fault_4 : decode cX4_fault 4 = .ok (.iload_n 1, 1) := by decide +kernel
theorem dX4_fault_5 : decode cX4_fault 5 = .ok (.iconst 1, 1) := by decide +kernel
theorem dX4_fault_6 : decode cX4_fault 6 = .ok (.if_icmp .le 5, 3) := by decide +kernel
theorem dX4_fault_9 : decode cX4_fault 9 = .ok (.iconst (-1), 1) := by decide +kernel
theorem dX4_fault_10 : decode cX4_fault 10 = .ok (.ireturn, 1) := by decide +kernel
theorem dX4_fault_11 : decode cX4_fault 11 = .ok (.aload_n 0, 1) := by decide +kernel
theorem dX4_fault_12 : decode cX4_fault 12 = .ok (.getfield 42, 3) := by decide +kernel
theorem dX4_fault_15 : decode cX4_fault 15 = .ok (.aload_n 0, 1) := by decide +kernel
theorem dX4_fault_16 : decode cX4_fault 16 = .ok (.getfield 20, 3) := by decide +kernel
theorem dX4_fault_19 : decode cX4_fault 19 = .ok (.invokevirtual 238, 3) := by decide +kernel
theorem dX4_fault_22 : decode cX4_fault 22 = .ok (.aload_n 0, 1) := by decide +kernel
theorem dX4_fault_23 : decode cX4_fault 23 = .ok (.getfield 35, 3) := by decide +kernel
theorem dX4_fault_26 : decode cX4_fault 26 = .ok (.aload_n 0, 1) := by decide +kernel
theorem dX4_fault_27 : decode cX4_fault 27 = .ok (.getfield 42, 3) := by decide +kernel
theorem dX4_fault_30 : decode cX4_fault 30 = .ok (.invokevirtual 260, 3) := by decide +kernel
theorem dX4_fault_33 : decode cX4_fault 33 = .ok (.ifCond .eq 6, 3) := by decide +kernel
theorem dX4_fault_36 : decode cX4_fault 36 = .ok (.bipush (-4), 2) := by decide +kernel
theorem dX4_fault_38 : decode cX4_fault 38 = .ok (.ireturn, 1) := by decide +kernel
theorem dX4_fault_39 : decode cX4_fault 39 = .ok (.iload_n 1, 1) := by decide +kernel
theorem dX4_fault_40 : decode cX4_fault 40 = .ok (.ifCond .ne 13, 3) := by decide +kernel
theorem dX4_fault_43 : decode cX4_fault 43 = .ok (.aload_n 0, 1) := by decide +kernel
theorem dX4_fault_44 : decode cX4_fault 44 = .ok (.getfield 35, 3) := by decide +kernel
theorem dX4_fault_47 : decode cX4_fault 47 = .ok (.getfield 264, 3) := by decide +kernel
theorem dX4_fault_50 : decode cX4_fault 50 = .ok (.goto 10, 3) := by decide +kernel
theorem dX4_fault_53 : decode cX4_fault 53 = .ok (.aload_n 0, 1) := by decide +kernel
theorem dX4_fault_54 : decode cX4_fault 54 = .ok (.getfield 35, 3) := by decide +kernel
theorem dX4_fault_57 : decode cX4_fault 57 = .ok (.getfield 267, 3) := by decide +kernel
theorem dX4_fault_60 : decode cX4_fault 60 = .ok (.ireturn, 1) := by decide +kernel
def t_X4_fault_60 : am_T := tb_iret
def t_X4_fault_53 : am_T := tb_aload 0 <|
  tb_getR 4 4 <|
  tb_getI 2 4 <|
  t_X4_fault_60
def t_X4_fault_39 : am_T := tb_iload 1 <|
  tb_if (fun x => x ≠ 0) (t_X4_fault_53) <|
  tb_aload 0 <|
  tb_getR 4 4 <|
  tb_getI 2 3 <|
  t_X4_fault_60
def t_X4_fault_11 : am_T := tb_aload 0 <|
  tb_getR 4 6 <|
  tb_aload 0 <|
  tb_getR 4 1 <|
  tb_callV 1 sp_X1_copyFrom 2 <|
  tb_aload 0 <|
  tb_getR 4 4 <|
  tb_aload 0 <|
  tb_getR 4 6 <|
  tb_callV 2 sp_X2_doneOn 2 <|
  tb_if (fun x => x = 0) (t_X4_fault_39) <|
  tb_const (-4) <|
  tb_iret
def t_X4_fault_9 : am_T := tb_const (-1) <|
  tb_iret
def t_X4_fault_0 : am_T := tb_iload 1 <|
  tb_if (fun x => x < 0) (t_X4_fault_9) <|
  tb_iload 1 <|
  tb_const 1 <|
  tb_ic (fun x y => x ≤ y) (t_X4_fault_11) <|
  t_X4_fault_9
def h_X4_fault : am_Hd := fun h => if h = 0 then t_X4_fault_0 else tb_bad
theorem h_X4_fault_0 : h_X4_fault 0 = t_X4_fault_0 := rfl
def rm_X4_fault : Room := { frames := 4, cells := 0, slots := 0, locals := 92 }
def sp_X4_fault : am_sp := fun as M Q => as.length ≤ 2 ∧ am_OK h_X4_fault Q 0 (am_in 2 as) M
theorem s_X4_fault_60 {G : am_G} {bc bs : Nat} (X : am_Cx G cX4_fault RX4 "fault" rm_X4_fault (some .int) 2 bc bs true) : am_S G 60 (t_X4_fault_60) := by
  unfold t_X4_fault_60
  exact as_iret (pc := 60) X ⟨rfl, rfl⟩ rfl dX4_fault_60
theorem s_X4_fault_53 {G : am_G} {bc bs : Nat} (X : am_Cx G cX4_fault RX4 "fault" rm_X4_fault (some .int) 2 bc bs true) : am_S G 53 (t_X4_fault_53) := by
  unfold t_X4_fault_53
  refine as_aload_n (pc := 53) X dX4_fault_53 rfl ?_
  refine as_getR (ci := 4) (j := 4) (pc := 54) X (Cn := RX4) (Tf := TX4) (N := 7) rfl rfl (by decide) iw_X4 aw_278 rfl dX4_fault_54 ?_
  refine as_getI (ci := 2) (j := 4) (pc := 57) X (Cn := RX2) (Tf := TX2) (N := 8) rfl rfl (by decide) iw_X2 aw_252 rfl dX4_fault_57 ?_
  exact s_X4_fault_60 X
theorem s_X4_fault_39 {G : am_G} {bc bs : Nat} (X : am_Cx G cX4_fault RX4 "fault" rm_X4_fault (some .int) 2 bc bs true) : am_S G 39 (t_X4_fault_39) := by
  unfold t_X4_fault_39
  refine as_iload_n (pc := 39) X dX4_fault_39 rfl ?_
  refine as_if_ne (pc := 40) X 53 dX4_fault_40 (by decide) (s_X4_fault_53 X) ?_
  refine as_aload_n (pc := 43) X dX4_fault_43 rfl ?_
  refine as_getR (ci := 4) (j := 4) (pc := 44) X (Cn := RX4) (Tf := TX4) (N := 7) rfl rfl (by decide) iw_X4 aw_278 rfl dX4_fault_44 ?_
  refine as_getI (ci := 2) (j := 3) (pc := 47) X (Cn := RX2) (Tf := TX2) (N := 8) rfl rfl (by decide) iw_X2 aw_250 rfl dX4_fault_47 ?_
  exact as_goto (pc := 50) X 60 dX4_fault_50 (by decide) (s_X4_fault_60 X)
theorem s_X4_fault_11 {G : am_G} {bc bs : Nat} (X : am_Cx G cX4_fault RX4 "fault" rm_X4_fault (some .int) 2 bc bs true) : am_S G 11 (t_X4_fault_11) := by
  unfold t_X4_fault_11
  refine as_aload_n (pc := 11) X dX4_fault_11 rfl ?_
  refine as_getR (ci := 4) (j := 6) (pc := 12) X (Cn := RX4) (Tf := TX4) (N := 7) rfl rfl (by decide) iw_X4 aw_280 rfl dX4_fault_12 ?_
  refine as_aload_n (pc := 15) X dX4_fault_15 rfl ?_
  refine as_getR (ci := 4) (j := 1) (pc := 16) X (Cn := RX4) (Tf := TX4) (N := 7) rfl rfl (by decide) iw_X4 aw_275 rfl dX4_fault_16 ?_
  refine as_callV (ci := 1) (np := 1) (ix := 238) (pc := 19) X ct_X1_copyFrom (Cn := (RX1, TX1, 14)) rfl ⟨rfl, rfl⟩ aw_652 aw_335 aw_336 aw_337 aw_61 (by decide +kernel) (by decide) dX4_fault_19 ?_
  refine as_aload_n (pc := 22) X dX4_fault_22 rfl ?_
  refine as_getR (ci := 4) (j := 4) (pc := 23) X (Cn := RX4) (Tf := TX4) (N := 7) rfl rfl (by decide) iw_X4 aw_278 rfl dX4_fault_23 ?_
  refine as_aload_n (pc := 26) X dX4_fault_26 rfl ?_
  refine as_getR (ci := 4) (j := 6) (pc := 27) X (Cn := RX4) (Tf := TX4) (N := 7) rfl rfl (by decide) iw_X4 aw_280 rfl dX4_fault_27 ?_
  refine as_callV (ci := 2) (np := 1) (ix := 260) (pc := 30) X ct_X2_doneOn (Cn := (RX2, TX2, 8)) rfl ⟨rfl, rfl⟩ aw_685 aw_686 aw_687 aw_688 aw_64 (by decide +kernel) (by decide) dX4_fault_30 ?_
  refine as_if_eq (pc := 33) X 39 dX4_fault_33 (by decide) (s_X4_fault_39 X) ?_
  refine as_bipush (pc := 36) X dX4_fault_36 (by decide) ?_
  exact as_iret (pc := 38) X ⟨rfl, rfl⟩ rfl dX4_fault_38
theorem s_X4_fault_9 {G : am_G} {bc bs : Nat} (X : am_Cx G cX4_fault RX4 "fault" rm_X4_fault (some .int) 2 bc bs true) : am_S G 9 (t_X4_fault_9) := by
  unfold t_X4_fault_9
  refine as_iconst (pc := 9) X dX4_fault_9 (by decide) ?_
  exact as_iret (pc := 10) X ⟨rfl, rfl⟩ rfl dX4_fault_10
theorem s_X4_fault_0 {G : am_G} {bc bs : Nat} (X : am_Cx G cX4_fault RX4 "fault" rm_X4_fault (some .int) 2 bc bs true) : am_S G 0 (t_X4_fault_0) := by
  unfold t_X4_fault_0
  refine as_iload_n (pc := 0) X dX4_fault_0 rfl ?_
  refine as_if_lt (pc := 1) X 9 dX4_fault_1 (by decide) (s_X4_fault_9 X) ?_
  refine as_iload_n (pc := 4) X dX4_fault_4 rfl ?_
  refine as_iconst (pc := 5) X dX4_fault_5 (by decide) ?_
  refine as_ic_le (pc := 6) X 11 dX4_fault_6 (by decide) (s_X4_fault_11 X) ?_
  exact s_X4_fault_9 X
theorem s_X4_fault {G : am_G} {bc bs : Nat} (X : am_Cx G cX4_fault RX4 "fault" rm_X4_fault (some .int) 2 bc bs true) (h : Nat) : am_S G h (h_X4_fault h) := by
  unfold h_X4_fault
  split
  · next e => rw [e]; exact s_X4_fault_0 X
  exact as_bad
theorem ct_X4_fault : am_Ct yX4_fault cX4_fault 2 (some .int) rm_X4_fault sp_X4_fault := am_met (own := RX4) (nm := "fault") (by decide) rfl rfl (Or.inr (Or.inl rfl)) (fun _ _ => h_X4_fault) (fun _ _ _ X => s_X4_fault X) (fun _ _ _ _ h => h)
-- X5_isNumber
theorem dX5_isNumber_0 : decode cX5_isNumber 0 = .ok (.aload_n 0, 1) := by decide +kernel
theorem dX5_isNumber_1 : decode cX5_isNumber 1 = .ok (.getfield 202, 3) := by decide +kernel
theorem dX5_isNumber_4 : decode cX5_isNumber 4 = .ok (.istore_n 3, 1) := by decide +kernel
theorem dX5_isNumber_5 : decode cX5_isNumber 5 = .ok (.aload_n 0, 1) := by decide +kernel
theorem dX5_isNumber_6 : decode cX5_isNumber 6 = .ok (.getfield 49, 3) := by decide +kernel
theorem dX5_isNumber_9 : decode cX5_isNumber 9 = .ok (.iload_n 1, 1) := by decide +kernel
theorem dX5_isNumber_10 : decode cX5_isNumber 10 = .ok (.iconst 0, 1) := by decide +kernel
theorem dX5_isNumber_11 : decode cX5_isNumber 11 = .ok (.iastore, 1) := by decide +kernel
theorem dX5_isNumber_12 : decode cX5_isNumber 12 = .ok (.aload_n 0, 1) := by decide +kernel
theorem dX5_isNumber_13 : decode cX5_isNumber 13 = .ok (.getfield 202, 3) := by decide +kernel
theorem dX5_isNumber_16 : decode cX5_isNumber 16 = .ok (.iload_n 3, 1) := by decide +kernel
theorem dX5_isNumber_17 : decode cX5_isNumber 17 = .ok (.isub, 1) := by decide +kernel
theorem dX5_isNumber_18 : decode cX5_isNumber 18 = .ok (.bipush 6, 2) := by decide +kernel
theorem dX5_isNumber_20 : decode cX5_isNumber 20 = .ok (.if_icmp .ge 74, 3) := by decide +kernel
theorem dX5_isNumber_23 : decode cX5_isNumber 23 = .ok (.aload_n 0, 1) := by decide +kernel
theorem dX5_isNumber_24 : decode cX5_isNumber 24 = .ok (.getfield 202, 3) := by decide +kernel
theorem dX5_isNumber_27 : decode cX5_isNumber 27 = .ok (.aload_n 0, 1) := by decide +kernel
theorem dX5_isNumber_28 : decode cX5_isNumber 28 = .ok (.getfield 165, 3) := by decide +kernel
theorem dX5_isNumber_31 : decode cX5_isNumber 31 = .ok (.if_icmp .ge 63, 3) := by decide +kernel
theorem dX5_isNumber_34 : decode cX5_isNumber 34 = .ok (.aload_n 0, 1) := by decide +kernel
theorem dX5_isNumber_35 : decode cX5_isNumber 35 = .ok (.getfield 19, 3) := by decide +kernel
theorem dX5_isNumber_38 : decode cX5_isNumber 38 = .ok (.aload_n 0, 1) := by decide +kernel
theorem dX5_isNumber_39 : decode cX5_isNumber 39 = .ok (.getfield 202, 3) := by decide +kernel
theorem dX5_isNumber_42 : decode cX5_isNumber 42 = .ok (.iaload, 1) := by decide +kernel
theorem dX5_isNumber_43 : decode cX5_isNumber 43 = .ok (.bipush 48, 2) := by decide +kernel
theorem dX5_isNumber_45 : decode cX5_isNumber 45 = .ok (.bipush 57, 2) := by decide +kernel
theorem dX5_isNumber_47 : decode cX5_isNumber 47 = .ok (.invokestatic 60, 3) := by decide +kernel
theorem dX5_isNumber_50 : decode cX5_isNumber 50 = .ok (.ifCond .eq 44, 3) := by decide +kernel
theorem dX5_isNumber_53 : decode cX5_isNumber 53 = .ok (.aload_n 0, 1) := by decide +kernel
theorem dX5_isNumber_54 : decode cX5_isNumber 54 = .ok (.getfield 49, 3) := by decide +kernel
theorem dX5_isNumber_57 : decode cX5_isNumber 57 = .ok (.iload_n 1, 1) := by decide +kernel
theorem dX5_isNumber_58 : decode cX5_isNumber 58 = .ok (.bipush 10, 2) := by decide +kernel
theorem dX5_isNumber_60 : decode cX5_isNumber 60 = .ok (.aload_n 0, 1) := by decide +kernel
theorem dX5_isNumber_61 : decode cX5_isNumber 61 = .ok (.getfield 49, 3) := by decide +kernel
theorem dX5_isNumber_64 : decode cX5_isNumber 64 = .ok (.iload_n 1, 1) := by decide +kernel
theorem dX5_isNumber_65 : decode cX5_isNumber 65 = .ok (.iaload, 1) := by decide +kernel
theorem dX5_isNumber_66 : decode cX5_isNumber 66 = .ok (.imul, 1) := by decide +kernel
theorem dX5_isNumber_67 : decode cX5_isNumber 67 = .ok (.aload_n 0, 1) := by decide +kernel
theorem dX5_isNumber_68 : decode cX5_isNumber 68 = .ok (.getfield 19, 3) := by decide +kernel
theorem dX5_isNumber_71 : decode cX5_isNumber 71 = .ok (.aload_n 0, 1) := by decide +kernel
theorem dX5_isNumber_72 : decode cX5_isNumber 72 = .ok (.getfield 202, 3) := by decide +kernel
theorem dX5_isNumber_75 : decode cX5_isNumber 75 = .ok (.iaload, 1) := by decide +kernel
theorem dX5_isNumber_76 : decode cX5_isNumber 76 = .ok (.iadd, 1) := by decide +kernel
theorem dX5_isNumber_77 : decode cX5_isNumber 77 = .ok (.bipush 48, 2) := by decide +kernel
theorem dX5_isNumber_79 : decode cX5_isNumber 79 = .ok (.isub, 1) := by decide +kernel
theorem dX5_isNumber_80 : decode cX5_isNumber 80 = .ok (.iastore, 1) := by decide +kernel
theorem dX5_isNumber_81 : decode cX5_isNumber 81 = .ok (.aload_n 0, 1) := by decide +kernel
theorem dX5_isNumber_82 : decode cX5_isNumber 82 = .ok (.dup, 1) := by decide +kernel
theorem dX5_isNumber_83 : decode cX5_isNumber 83 = .ok (.getfield 202, 3) := by decide +kernel
theorem dX5_isNumber_86 : decode cX5_isNumber 86 = .ok (.iconst 1, 1) := by decide +kernel
theorem dX5_isNumber_87 : decode cX5_isNumber 87 = .ok (.iadd, 1) := by decide +kernel
theorem dX5_isNumber_88 : decode cX5_isNumber 88 = .ok (.putfield 202, 3) := by decide +kernel
theorem dX5_isNumber_91 : decode cX5_isNumber 91 = .ok (.goto (-79), 3) := by decide +kernel
theorem dX5_isNumber_94 : decode cX5_isNumber 94 = .ok (.aload_n 0, 1) := by decide +kernel
theorem dX5_isNumber_95 : decode cX5_isNumber 95 = .ok (.getfield 202, 3) := by decide +kernel
theorem dX5_isNumber_98 : decode cX5_isNumber 98 = .ok (.iload_n 3, 1) := by decide +kernel
theorem dX5_isNumber_99 : decode cX5_isNumber 99 = .ok (.if_icmp .le 31, 3) := by decide +kernel
theorem dX5_isNumber_102 : decode cX5_isNumber 102 = .ok (.aload_n 0, 1) := by decide +kernel
theorem dX5_isNumber_103 : decode cX5_isNumber 103 = .ok (.getfield 202, 3) := by decide +kernel
theorem dX5_isNumber_106 : decode cX5_isNumber 106 = .ok (.aload_n 0, 1) := by decide +kernel
theorem dX5_isNumber_107 : decode cX5_isNumber 107 = .ok (.getfield 165, 3) := by decide +kernel
theorem dX5_isNumber_110 : decode cX5_isNumber 110 = .ok (.if_icmp .ge 20, 3) := by decide +kernel
theorem dX5_isNumber_113 : decode cX5_isNumber 113 = .ok (.aload_n 0, 1) := by decide +kernel
theorem dX5_isNumber_114 : decode cX5_isNumber 114 = .ok (.getfield 19, 3) := by decide +kernel
theorem dX5_isNumber_117 : decode cX5_isNumber 117 = .ok (.aload_n 0, 1) := by decide +kernel
theorem dX5_isNumber_118 : decode cX5_isNumber 118 = .ok (.getfield 202, 3) := by decide +kernel
theorem dX5_isNumber_121 : decode cX5_isNumber 121 = .ok (.iaload, 1) := by decide +kernel
theorem dX5_isNumber_122 : decode cX5_isNumber 122 = .ok (.iload_n 2, 1) := by decide +kernel
theorem dX5_isNumber_123 : decode cX5_isNumber 123 = .ok (.if_icmp .ne 7, 3) := by decide +kernel
theorem dX5_isNumber_126 : decode cX5_isNumber 126 = .ok (.iconst 1, 1) := by decide +kernel
theorem dX5_isNumber_127 : decode cX5_isNumber 127 = .ok (.goto 4, 3) := by decide +kernel
theorem dX5_isNumber_130 : decode cX5_isNumber 130 = .ok (.iconst 0, 1) := by decide +kernel
theorem dX5_isNumber_131 : decode cX5_isNumber 131 = .ok (.istore 4, 2) := by decide +kernel
theorem dX5_isNumber_133 : decode cX5_isNumber 133 = .ok (.aload_n 0, 1) := by decide +kernel
theorem dX5_isNumber_134 : decode cX5_isNumber 134 = .ok (.dup, 1) := by decide +kernel
theorem dX5_isNumber_135 : decode cX5_isNumber 135 = .ok (.getfield 202, 3) := by decide +kernel
theorem dX5_isNumber_138 : decode cX5_isNumber 138 = .ok (.iconst 1, 1) := by decide +kernel
theorem dX5_isNumber_139 : decode cX5_isNumber 139 = .ok (.iadd, 1) := by decide +kernel
theorem dX5_isNumber_140 : decode cX5_isNumber 140 = .ok (.putfield 202, 3) := by decide +kernel
theorem dX5_isNumber_143 : decode cX5_isNumber 143 = .ok (.iload 4, 2) := by decide +kernel
theorem dX5_isNumber_145 : decode cX5_isNumber 145 = .ok (.ireturn, 1) := by decide +kernel
def t_X5_isNumber_131 : am_T := tb_istore 4 <|
  tb_aload 0 <|
  tb_dup <|
  tb_getI 5 16 <|
  tb_const 1 <|
  tb_bin (fun x y => x + y) <|
  tb_putI 5 16 <|
  tb_iload 4 <|
  tb_zret
def t_X5_isNumber_130 : am_T := tb_const 0 <|
  t_X5_isNumber_131
def t_X5_isNumber_94 : am_T := tb_aload 0 <|
  tb_getI 5 16 <|
  tb_iload 3 <|
  tb_ic (fun x y => x ≤ y) (t_X5_isNumber_130) <|
  tb_aload 0 <|
  tb_getI 5 16 <|
  tb_aload 0 <|
  tb_getI 5 5 <|
  tb_ic (fun x y => y ≤ x) (t_X5_isNumber_130) <|
  tb_aload 0 <|
  tb_getR 5 4 <|
  tb_aload 0 <|
  tb_getI 5 16 <|
  tb_iald <|
  tb_iload 2 <|
  tb_ic (fun x y => x ≠ y) (t_X5_isNumber_130) <|
  tb_const 1 <|
  t_X5_isNumber_131
def t_X5_isNumber_12 : am_T := tb_aload 0 <|
  tb_getI 5 16 <|
  tb_iload 3 <|
  tb_bin (fun x y => x - y) <|
  tb_const 6 <|
  tb_ic (fun x y => y ≤ x) (t_X5_isNumber_94) <|
  tb_aload 0 <|
  tb_getI 5 16 <|
  tb_aload 0 <|
  tb_getI 5 5 <|
  tb_ic (fun x y => y ≤ x) (t_X5_isNumber_94) <|
  tb_aload 0 <|
  tb_getR 5 4 <|
  tb_aload 0 <|
  tb_getI 5 16 <|
  tb_iald <|
  tb_const 48 <|
  tb_const 57 <|
  tb_callS sp_X5_in 3 <|
  tb_if (fun x => x = 0) (t_X5_isNumber_94) <|
  tb_aload 0 <|
  tb_getR 5 18 <|
  tb_iload 1 <|
  tb_const 10 <|
  tb_aload 0 <|
  tb_getR 5 18 <|
  tb_iload 1 <|
  tb_iald <|
  tb_bin (fun x y => x * y) <|
  tb_aload 0 <|
  tb_getR 5 4 <|
  tb_aload 0 <|
  tb_getI 5 16 <|
  tb_iald <|
  tb_bin (fun x y => x + y) <|
  tb_const 48 <|
  tb_bin (fun x y => x - y) <|
  tb_iast <|
  tb_aload 0 <|
  tb_dup <|
  tb_getI 5 16 <|
  tb_const 1 <|
  tb_bin (fun x y => x + y) <|
  tb_putI 5 16 <|
  tb_head 12
def t_X5_isNumber_0 : am_T := tb_aload 0 <|
  tb_getI 5 16 <|
  tb_istore 3 <|
  tb_aload 0 <|
  tb_getR 5 18 <|
  tb_iload 1 <|
  tb_const 0 <|
  tb_iast <|
  tb_head 12
def h_X5_isNumber : am_Hd := fun h => if h = 0 then t_X5_isNumber_0 else if h = 12 then t_X5_isNumber_12 else tb_bad
theorem h_X5_isNumber_0 : h_X5_isNumber 0 = t_X5_isNumber_0 := rfl
theorem h_X5_isNumber_12 : h_X5_isNumber 12 = t_X5_isNumber_12 := rfl
def rm_X5_isNumber : Room := { frames := 1, cells := 0, slots := 0, locals := 22 }
def sp_X5_isNumber : am_sp := fun as M Q => as.length ≤ 5 ∧ am_OK h_X5_isNumber Q 0 (am_in 5 as) M
theorem s_X5_isNumber_131 {G : am_G} {bc bs : Nat} (X : am_Cx G cX5_isNumber RX5 "isNumber" rm_X5_isNumber (some .boolean) 5 bc bs true) : am_S G 131 (t_X5_isNumber_131) := by
  unfold t_X5_isNumber_131
  refine as_istore (pc := 131) X dX5_isNumber_131 ?_ (by decide)
  refine as_aload_n (pc := 133) X dX5_isNumber_133 rfl ?_
  refine as_dup (pc := 134) X dX5_isNumber_134 ?_
  refine as_getI (ci := 5) (j := 16) (pc := 135) X (Cn := RX5) (Tf := TX5) (N := 21) rfl rfl (by decide) iw_X5 aw_754 rfl dX5_isNumber_135 ?_
  refine as_iconst (pc := 138) X dX5_isNumber_138 (by decide) ?_
  refine as_iadd (pc := 139) X dX5_isNumber_139 ?_
  refine as_putI (ci := 5) (j := 16) (pc := 140) X (Cn := RX5) (Tf := TX5) (N := 21) rfl rfl (by decide) iw_X5 aw_754 tyX5 tyX5_ok nmX5 rfl rfl (by decide +kernel) dX5_isNumber_140 ?_
  refine as_iload (pc := 143) X dX5_isNumber_143 ?_
  exact as_zret (pc := 145) X ⟨rfl, rfl⟩ rfl dX5_isNumber_145
theorem s_X5_isNumber_130 {G : am_G} {bc bs : Nat} (X : am_Cx G cX5_isNumber RX5 "isNumber" rm_X5_isNumber (some .boolean) 5 bc bs true) : am_S G 130 (t_X5_isNumber_130) := by
  unfold t_X5_isNumber_130
  refine as_iconst (pc := 130) X dX5_isNumber_130 (by decide) ?_
  exact s_X5_isNumber_131 X
theorem s_X5_isNumber_94 {G : am_G} {bc bs : Nat} (X : am_Cx G cX5_isNumber RX5 "isNumber" rm_X5_isNumber (some .boolean) 5 bc bs true) : am_S G 94 (t_X5_isNumber_94) := by
  unfold t_X5_isNumber_94
  refine as_aload_n (pc := 94) X dX5_isNumber_94 rfl ?_
  refine as_getI (ci := 5) (j := 16) (pc := 95) X (Cn := RX5) (Tf := TX5) (N := 21) rfl rfl (by decide) iw_X5 aw_754 rfl dX5_isNumber_95 ?_
  refine as_iload_n (pc := 98) X dX5_isNumber_98 rfl ?_
  refine as_ic_le (pc := 99) X 130 dX5_isNumber_99 (by decide) (s_X5_isNumber_130 X) ?_
  refine as_aload_n (pc := 102) X dX5_isNumber_102 rfl ?_
  refine as_getI (ci := 5) (j := 16) (pc := 103) X (Cn := RX5) (Tf := TX5) (N := 21) rfl rfl (by decide) iw_X5 aw_754 rfl dX5_isNumber_103 ?_
  refine as_aload_n (pc := 106) X dX5_isNumber_106 rfl ?_
  refine as_getI (ci := 5) (j := 5) (pc := 107) X (Cn := RX5) (Tf := TX5) (N := 21) rfl rfl (by decide) iw_X5 aw_743 rfl dX5_isNumber_107 ?_
  refine as_ic_ge (pc := 110) X 130 dX5_isNumber_110 (by decide) (s_X5_isNumber_130 X) ?_
  refine as_aload_n (pc := 113) X dX5_isNumber_113 rfl ?_
  refine as_getR (ci := 5) (j := 4) (pc := 114) X (Cn := RX5) (Tf := TX5) (N := 21) rfl rfl (by decide) iw_X5 aw_742 rfl dX5_isNumber_114 ?_
  refine as_aload_n (pc := 117) X dX5_isNumber_117 rfl ?_
  refine as_getI (ci := 5) (j := 16) (pc := 118) X (Cn := RX5) (Tf := TX5) (N := 21) rfl rfl (by decide) iw_X5 aw_754 rfl dX5_isNumber_118 ?_
  refine as_iald (pc := 121) X dX5_isNumber_121 ?_
  refine as_iload_n (pc := 122) X dX5_isNumber_122 rfl ?_
  refine as_ic_ne (pc := 123) X 130 dX5_isNumber_123 (by decide) (s_X5_isNumber_130 X) ?_
  refine as_iconst (pc := 126) X dX5_isNumber_126 (by decide) ?_
  exact as_goto (pc := 127) X 131 dX5_isNumber_127 (by decide) (s_X5_isNumber_131 X)
theorem s_X5_isNumber_12 {G : am_G} {bc bs : Nat} (X : am_Cx G cX5_isNumber RX5 "isNumber" rm_X5_isNumber (some .boolean) 5 bc bs true) : am_S G 12 (t_X5_isNumber_12) := by
  unfold t_X5_isNumber_12
  refine as_aload_n (pc := 12) X dX5_isNumber_12 rfl ?_
  refine as_getI (ci := 5) (j := 16) (pc := 13) X (Cn := RX5) (Tf := TX5) (N := 21) rfl rfl (by decide) iw_X5 aw_754 rfl dX5_isNumber_13 ?_
  refine as_iload_n (pc := 16) X dX5_isNumber_16 rfl ?_
  refine as_isub (pc := 17) X dX5_isNumber_17 ?_
  refine as_bipush (pc := 18) X dX5_isNumber_18 (by decide) ?_
  refine as_ic_ge (pc := 20) X 94 dX5_isNumber_20 (by decide) (s_X5_isNumber_94 X) ?_
  refine as_aload_n (pc := 23) X dX5_isNumber_23 rfl ?_
  refine as_getI (ci := 5) (j := 16) (pc := 24) X (Cn := RX5) (Tf := TX5) (N := 21) rfl rfl (by decide) iw_X5 aw_754 rfl dX5_isNumber_24 ?_
  refine as_aload_n (pc := 27) X dX5_isNumber_27 rfl ?_
  refine as_getI (ci := 5) (j := 5) (pc := 28) X (Cn := RX5) (Tf := TX5) (N := 21) rfl rfl (by decide) iw_X5 aw_743 rfl dX5_isNumber_28 ?_
  refine as_ic_ge (pc := 31) X 94 dX5_isNumber_31 (by decide) (s_X5_isNumber_94 X) ?_
  refine as_aload_n (pc := 34) X dX5_isNumber_34 rfl ?_
  refine as_getR (ci := 5) (j := 4) (pc := 35) X (Cn := RX5) (Tf := TX5) (N := 21) rfl rfl (by decide) iw_X5 aw_742 rfl dX5_isNumber_35 ?_
  refine as_aload_n (pc := 38) X dX5_isNumber_38 rfl ?_
  refine as_getI (ci := 5) (j := 16) (pc := 39) X (Cn := RX5) (Tf := TX5) (N := 21) rfl rfl (by decide) iw_X5 aw_754 rfl dX5_isNumber_39 ?_
  refine as_iald (pc := 42) X dX5_isNumber_42 ?_
  refine as_bipush (pc := 43) X dX5_isNumber_43 (by decide) ?_
  refine as_bipush (pc := 45) X dX5_isNumber_45 (by decide) ?_
  refine as_callS (np := 3) (ix := 60) (pc := 47) X ct_X5_in ⟨rfl, rfl⟩ aw_806 aw_807 aw_808 aw_65 (by decide +kernel) (by decide) dX5_isNumber_47 ?_
  refine as_if_eq (pc := 50) X 94 dX5_isNumber_50 (by decide) (s_X5_isNumber_94 X) ?_
  refine as_aload_n (pc := 53) X dX5_isNumber_53 rfl ?_
  refine as_getR (ci := 5) (j := 18) (pc := 54) X (Cn := RX5) (Tf := TX5) (N := 21) rfl rfl (by decide) iw_X5 aw_756 rfl dX5_isNumber_54 ?_
  refine as_iload_n (pc := 57) X dX5_isNumber_57 rfl ?_
  refine as_bipush (pc := 58) X dX5_isNumber_58 (by decide) ?_
  refine as_aload_n (pc := 60) X dX5_isNumber_60 rfl ?_
  refine as_getR (ci := 5) (j := 18) (pc := 61) X (Cn := RX5) (Tf := TX5) (N := 21) rfl rfl (by decide) iw_X5 aw_756 rfl dX5_isNumber_61 ?_
  refine as_iload_n (pc := 64) X dX5_isNumber_64 rfl ?_
  refine as_iald (pc := 65) X dX5_isNumber_65 ?_
  refine as_imul (pc := 66) X dX5_isNumber_66 ?_
  refine as_aload_n (pc := 67) X dX5_isNumber_67 rfl ?_
  refine as_getR (ci := 5) (j := 4) (pc := 68) X (Cn := RX5) (Tf := TX5) (N := 21) rfl rfl (by decide) iw_X5 aw_742 rfl dX5_isNumber_68 ?_
  refine as_aload_n (pc := 71) X dX5_isNumber_71 rfl ?_
  refine as_getI (ci := 5) (j := 16) (pc := 72) X (Cn := RX5) (Tf := TX5) (N := 21) rfl rfl (by decide) iw_X5 aw_754 rfl dX5_isNumber_72 ?_
  refine as_iald (pc := 75) X dX5_isNumber_75 ?_
  refine as_iadd (pc := 76) X dX5_isNumber_76 ?_
  refine as_bipush (pc := 77) X dX5_isNumber_77 (by decide) ?_
  refine as_isub (pc := 79) X dX5_isNumber_79 ?_
  refine as_iast (pc := 80) X dX5_isNumber_80 ?_
  refine as_aload_n (pc := 81) X dX5_isNumber_81 rfl ?_
  refine as_dup (pc := 82) X dX5_isNumber_82 ?_
  refine as_getI (ci := 5) (j := 16) (pc := 83) X (Cn := RX5) (Tf := TX5) (N := 21) rfl rfl (by decide) iw_X5 aw_754 rfl dX5_isNumber_83 ?_
  refine as_iconst (pc := 86) X dX5_isNumber_86 (by decide) ?_
  refine as_iadd (pc := 87) X dX5_isNumber_87 ?_
  refine as_putI (ci := 5) (j := 16) (pc := 88) X (Cn := RX5) (Tf := TX5) (N := 21) rfl rfl (by decide) iw_X5 aw_754 tyX5 tyX5_ok nmX5 rfl rfl (by decide +kernel) dX5_isNumber_88 ?_
  exact as_goto (pc := 91) X 12 dX5_isNumber_91 (by decide) (as_head)
theorem s_X5_isNumber_0 {G : am_G} {bc bs : Nat} (X : am_Cx G cX5_isNumber RX5 "isNumber" rm_X5_isNumber (some .boolean) 5 bc bs true) : am_S G 0 (t_X5_isNumber_0) := by
  unfold t_X5_isNumber_0
  refine as_aload_n (pc := 0) X dX5_isNumber_0 rfl ?_
  refine as_getI (ci := 5) (j := 16) (pc := 1) X (Cn := RX5) (Tf := TX5) (N := 21) rfl rfl (by decide) iw_X5 aw_754 rfl dX5_isNumber_1 ?_
  refine as_istore_n (pc := 4) X dX5_isNumber_4 rfl ?_ (by decide)
  refine as_aload_n (pc := 5) X dX5_isNumber_5 rfl ?_
  refine as_getR (ci := 5) (j := 18) (pc := 6) X (Cn := RX5) (Tf := TX5) (N := 21) rfl rfl (by decide) iw_X5 aw_756 rfl dX5_isNumber_6 ?_
  refine as_iload_n (pc := 9) X dX5_isNumber_9 rfl ?_
  refine as_iconst (pc := 10) X dX5_isNumber_10 (by decide) ?_
  refine as_iast (pc := 11) X dX5_isNumber_11 ?_
  exact as_head
theorem s_X5_isNumber {G : am_G} {bc bs : Nat} (X : am_Cx G cX5_isNumber RX5 "isNumber" rm_X5_isNumber (some .boolean) 5 bc bs true) (h : Nat) : am_S G h (h_X5_isNumber h) := by
  unfold h_X5_isNumber
  split
  · next e => rw [e]; exact s_X5_isNumber_0 X
  split
  · next e => rw [e]; exact s_X5_isNumber_12 X
  exact as_bad
theorem ct_X5_isNumber : am_Ct yX5_isNumber cX5_isNumber 5 (some .boolean) rm_X5_isNumber sp_X5_isNumber := am_met (own := RX5) (nm := "isNumber") (by decide) rfl rfl (Or.inr (Or.inr (Or.inl rfl))) (fun _ _ => h_X5_isNumber) (fun _ _ _ X => s_X5_isNumber X) (fun _ _ _ _ h => h)
-- X5_isEntry
theorem dX5_isEntry_0 : decode cX5_isEntry 0 = .ok (.aload_n 0, 1) := by decide +kernel
theorem dX5_isEntry_1 : decode cX5_isEntry 1 = .ok (.aload_n 0, 1) := by decide +kernel
theorem dX5_isEntry_2 : decode cX5_isEntry 2 = .ok (.getfield 19, 3) := by decide +kernel
theorem dX5_isEntry_5 : decode cX5_isEntry 5 = .ok (.aload_n 0, 1) := by decide +kernel
theorem dX5_isEntry_6 : decode cX5_isEntry 6 = .ok (.getfield 202, 3) := by decide +kernel
theorem dX5_isEntry_9 : decode cX5_isEntry 9 = .ok (.iaload, 1) := by decide +kernel
theorem dX5_isEntry_10 : decode cX5_isEntry 10 = .ok (.putfield 205, 3) := by decide +kernel
theorem dX5_isEntry_13 : decode cX5_isEntry 13 = .ok (.aload_n 0, 1) := by decide +kernel
theorem dX5_isEntry_14 : decode cX5_isEntry 14 = .ok (.dup, 1) := by decide +kernel
theorem dX5_isEntry_15 : decode cX5_isEntry 15 = .ok (.getfield 202, 3) := by decide +kernel
theorem dX5_isEntry_18 : decode cX5_isEntry 18 = .ok (.iconst 1, 1) := by decide +kernel
theorem dX5_isEntry_19 : decode cX5_isEntry 19 = .ok (.iadd, 1) := by decide +kernel
theorem dX5_isEntry_20 : decode cX5_isEntry 20 = .ok (.putfield 202, 3) := by decide +kernel
theorem dX5_isEntry_23 : decode cX5_isEntry 23 = .ok (.aload_n 0, 1) := by decide +kernel
theorem dX5_isEntry_24 : decode cX5_isEntry 24 = .ok (.getfield 205, 3) := by decide +kernel
theorem dX5_isEntry_27 : decode cX5_isEntry 27 = .ok (.bipush 108, 2) := by decide +kernel
theorem dX5_isEntry_29 : decode cX5_isEntry 29 = .ok (.if_icmp .ne 7, 3) := by decide +kernel
theorem dX5_isEntry_32 : decode cX5_isEntry 32 = .ok (.iconst 4, 1) := by decide +kernel
theorem dX5_isEntry_33 : decode cX5_isEntry 33 = .ok (.goto 39, 3) := by decide +kernel
theorem dX5_isEntry_36 : decode cX5_isEntry 36 = .ok (.aload_n 0, 1) := by decide +kernel
theorem dX5_isEntry_37 : decode cX5_isEntry 37 = .ok (.getfield 205, 3) := by decide +kernel
theorem dX5_isEntry_40 : decode cX5_isEntry 40 = .ok (.bipush 98, 2) := by decide +kernel
theorem dX5_isEntry_42 : decode cX5_isEntry 42 = .ok (.if_icmp .ne 7, 3) := by decide +kernel
theorem dX5_isEntry_45 : decode cX5_isEntry 45 = .ok (.iconst 1, 1) := by decide +kernel
theorem dX5_isEntry_46 : decode cX5_isEntry 46 = .ok (.goto 26, 3) := by decide +kernel
theorem dX5_isEntry_49 : decode cX5_isEntry 49 = .ok (.aload_n 0, 1) := by decide +kernel
theorem dX5_isEntry_50 : decode cX5_isEntry 50 = .ok (.getfield 205, 3) := by decide +kernel
theorem dX5_isEntry_53 : decode cX5_isEntry 53 = .ok (.bipush 97, 2) := by decide +kernel
theorem dX5_isEntry_55 : decode cX5_isEntry 55 = .ok (.if_icmp .eq 12, 3) := by decide +kernel
theorem dX5_isEntry_58 : decode cX5_isEntry 58 = .ok (.aload_n 0, 1) := by decide +kernel
theorem dX5_isEntry_59 : decode cX5_isEntry 59 = .ok (.getfield 205, 3) := by decide +kernel
theorem dX5_isEntry_62 : decode cX5_isEntry 62 = .ok (.bipush 110, 2) := by decide +kernel
theorem dX5_isEntry_64 : decode cX5_isEntry 64 = .ok (.if_icmp .ne 7, 3) := by decide +kernel
theorem dX5_isEntry_67 : decode cX5_isEntry 67 = .ok (.iconst 2, 1) := by decide +kernel
theorem dX5_isEntry_68 : decode cX5_isEntry 68 = .ok (.goto 4, 3) := by decide +kernel
theorem dX5_isEntry_71 : decode cX5_isEntry 71 = .ok (.iconst 0, 1) := by decide +kernel
theorem dX5_isEntry_72 : decode cX5_isEntry 72 = .ok (.istore_n 1, 1) := by decide +kernel
theorem dX5_isEntry_73 : decode cX5_isEntry 73 = .ok (.iload_n 1, 1) := by decide +kernel
theorem dX5_isEntry_74 : decode cX5_isEntry 74 = .ok (.ifCond .le 7, 3) := by decide +kernel
theorem dX5_isEntry_77 : decode cX5_isEntry 77 = .ok (.iconst 1, 1) := by decide +kernel
theorem dX5_isEntry_78 : decode cX5_isEntry 78 = .ok (.goto 4, 3) := by decide +kernel
theorem dX5_isEntry_81 : decode cX5_isEntry 81 = .ok (.iconst 0, 1) := by decide +kernel
theorem dX5_isEntry_82 : decode cX5_isEntry 82 = .ok (.istore_n 2, 1) := by decide +kernel
theorem dX5_isEntry_83 : decode cX5_isEntry 83 = .ok (.iconst 0, 1) := by decide +kernel
theorem dX5_isEntry_84 : decode cX5_isEntry 84 = .ok (.istore_n 3, 1) := by decide +kernel
theorem dX5_isEntry_85 : decode cX5_isEntry 85 = .ok (.iload_n 3, 1) := by decide +kernel
theorem dX5_isEntry_86 : decode cX5_isEntry 86 = .ok (.iload_n 1, 1) := by decide +kernel
theorem dX5_isEntry_87 : decode cX5_isEntry 87 = .ok (.if_icmp .ge 33, 3) := by decide +kernel
theorem dX5_isEntry_90 : decode cX5_isEntry 90 = .ok (.iload_n 2, 1) := by decide +kernel
theorem dX5_isEntry_91 : decode cX5_isEntry 91 = .ok (.ifCond .eq 29, 3) := by decide +kernel
theorem dX5_isEntry_94 : decode cX5_isEntry 94 = .ok (.aload_n 0, 1) := by decide +kernel
theorem dX5_isEntry_95 : decode cX5_isEntry 95 = .ok (.iload_n 3, 1) := by decide +kernel
theorem dX5_isEntry_96 : decode cX5_isEntry 96 = .ok (.iload_n 3, 1) := by decide +kernel
theorem dX5_isEntry_97 : decode cX5_isEntry 97 = .ok (.iload_n 1, 1) := by decide +kernel
theorem dX5_isEntry_98 : decode cX5_isEntry 98 = .ok (.iconst 1, 1) := by decide +kernel
theorem dX5_isEntry_99 : decode cX5_isEntry 99 = .ok (.isub, 1) := by decide +kernel
theorem dX5_isEntry_100 : decode cX5_isEntry 100 = .ok (.if_icmp .ne 8, 3) := by decide +kernel
theorem dX5_isEntry_103 : decode cX5_isEntry 103 = .ok (.bipush 59, 2) := by decide +kernel
theorem dX5_isEntry_105 : decode cX5_isEntry 105 = .ok (.goto 5, 3) := by decide +kernel
theorem dX5_isEntry_108 : decode cX5_isEntry 108 = .ok (.bipush 44, 2) := by decide +kernel
theorem dX5_isEntry_110 : decode cX5_isEntry 110 = .ok (.invokevirtual 208, 3) := by decide +kernel
theorem dX5_isEntry_113 : decode cX5_isEntry 113 = .ok (.istore_n 2, 1) := by decide +kernel
theorem dX5_isEntry_114 : decode cX5_isEntry 114 = .ok (.iinc 3 1, 3) := by decide +kernel
theorem dX5_isEntry_117 : decode cX5_isEntry 117 = .ok (.goto (-32), 3) := by decide +kernel
theorem dX5_isEntry_120 : decode cX5_isEntry 120 = .ok (.iload_n 2, 1) := by decide +kernel
theorem dX5_isEntry_121 : decode cX5_isEntry 121 = .ok (.ireturn, 1) := by decide +kernel
def t_X5_isEntry_120 : am_T := tb_iload 2 <|
  tb_zret
def t_X5_isEntry_110 : am_T := tb_callV 5 sp_X5_isNumber 3 <|
  tb_istore 2 <|
  tb_iinc 3 1 <|
  tb_head 85
def t_X5_isEntry_108 : am_T := tb_const 44 <|
  t_X5_isEntry_110
def t_X5_isEntry_85 : am_T := tb_iload 3 <|
  tb_iload 1 <|
  tb_ic (fun x y => y ≤ x) (t_X5_isEntry_120) <|
  tb_iload 2 <|
  tb_if (fun x => x = 0) (t_X5_isEntry_120) <|
  tb_aload 0 <|
  tb_iload 3 <|
  tb_iload 3 <|
  tb_iload 1 <|
  tb_const 1 <|
  tb_bin (fun x y => x - y) <|
  tb_ic (fun x y => x ≠ y) (t_X5_isEntry_108) <|
  tb_const 59 <|
  t_X5_isEntry_110
def t_X5_isEntry_82 : am_T := tb_istore 2 <|
  tb_const 0 <|
  tb_istore 3 <|
  tb_head 85
def t_X5_isEntry_81 : am_T := tb_const 0 <|
  t_X5_isEntry_82
def t_X5_isEntry_72 : am_T := tb_istore 1 <|
  tb_iload 1 <|
  tb_if (fun x => x ≤ 0) (t_X5_isEntry_81) <|
  tb_const 1 <|
  t_X5_isEntry_82
def t_X5_isEntry_71 : am_T := tb_const 0 <|
  t_X5_isEntry_72
def t_X5_isEntry_67 : am_T := tb_const 2 <|
  t_X5_isEntry_72
def t_X5_isEntry_49 : am_T := tb_aload 0 <|
  tb_getI 5 17 <|
  tb_const 97 <|
  tb_ic (fun x y => x = y) (t_X5_isEntry_67) <|
  tb_aload 0 <|
  tb_getI 5 17 <|
  tb_const 110 <|
  tb_ic (fun x y => x ≠ y) (t_X5_isEntry_71) <|
  t_X5_isEntry_67
def t_X5_isEntry_36 : am_T := tb_aload 0 <|
  tb_getI 5 17 <|
  tb_const 98 <|
  tb_ic (fun x y => x ≠ y) (t_X5_isEntry_49) <|
  tb_const 1 <|
  t_X5_isEntry_72
def t_X5_isEntry_0 : am_T := tb_aload 0 <|
  tb_aload 0 <|
  tb_getR 5 4 <|
  tb_aload 0 <|
  tb_getI 5 16 <|
  tb_iald <|
  tb_putI 5 17 <|
  tb_aload 0 <|
  tb_dup <|
  tb_getI 5 16 <|
  tb_const 1 <|
  tb_bin (fun x y => x + y) <|
  tb_putI 5 16 <|
  tb_aload 0 <|
  tb_getI 5 17 <|
  tb_const 108 <|
  tb_ic (fun x y => x ≠ y) (t_X5_isEntry_36) <|
  tb_const 4 <|
  t_X5_isEntry_72
def h_X5_isEntry : am_Hd := fun h => if h = 0 then t_X5_isEntry_0 else if h = 85 then t_X5_isEntry_85 else tb_bad
theorem h_X5_isEntry_0 : h_X5_isEntry 0 = t_X5_isEntry_0 := rfl
theorem h_X5_isEntry_85 : h_X5_isEntry 85 = t_X5_isEntry_85 := rfl
def rm_X5_isEntry : Room := { frames := 2, cells := 0, slots := 0, locals := 46 }
def sp_X5_isEntry : am_sp := fun as M Q => as.length ≤ 4 ∧ am_OK h_X5_isEntry Q 0 (am_in 4 as) M
theorem s_X5_isEntry_120 {G : am_G} {bc bs : Nat} (X : am_Cx G cX5_isEntry RX5 "isEntry" rm_X5_isEntry (some .boolean) 4 bc bs true) : am_S G 120 (t_X5_isEntry_120) := by
  unfold t_X5_isEntry_120
  refine as_iload_n (pc := 120) X dX5_isEntry_120 rfl ?_
  exact as_zret (pc := 121) X ⟨rfl, rfl⟩ rfl dX5_isEntry_121
theorem s_X5_isEntry_110 {G : am_G} {bc bs : Nat} (X : am_Cx G cX5_isEntry RX5 "isEntry" rm_X5_isEntry (some .boolean) 4 bc bs true) : am_S G 110 (t_X5_isEntry_110) := by
  unfold t_X5_isEntry_110
  refine as_callV (ci := 5) (np := 2) (ix := 208) (pc := 110) X ct_X5_isNumber (Cn := (RX5, TX5, 21)) rfl ⟨rfl, rfl⟩ aw_1074 aw_1076 aw_56 aw_1077 aw_65 (by decide +kernel) (by decide) dX5_isEntry_110 ?_
  refine as_istore_n (pc := 113) X dX5_isEntry_113 rfl ?_ (by decide)
  refine as_iinc (pc := 114) X dX5_isEntry_114 (by decide) (by decide) ?_
  exact as_goto (pc := 117) X 85 dX5_isEntry_117 (by decide) (as_head)
theorem s_X5_isEntry_108 {G : am_G} {bc bs : Nat} (X : am_Cx G cX5_isEntry RX5 "isEntry" rm_X5_isEntry (some .boolean) 4 bc bs true) : am_S G 108 (t_X5_isEntry_108) := by
  unfold t_X5_isEntry_108
  refine as_bipush (pc := 108) X dX5_isEntry_108 (by decide) ?_
  exact s_X5_isEntry_110 X
theorem s_X5_isEntry_85 {G : am_G} {bc bs : Nat} (X : am_Cx G cX5_isEntry RX5 "isEntry" rm_X5_isEntry (some .boolean) 4 bc bs true) : am_S G 85 (t_X5_isEntry_85) := by
  unfold t_X5_isEntry_85
  refine as_iload_n (pc := 85) X dX5_isEntry_85 rfl ?_
  refine as_iload_n (pc := 86) X dX5_isEntry_86 rfl ?_
  refine as_ic_ge (pc := 87) X 120 dX5_isEntry_87 (by decide) (s_X5_isEntry_120 X) ?_
  refine as_iload_n (pc := 90) X dX5_isEntry_90 rfl ?_
  refine as_if_eq (pc := 91) X 120 dX5_isEntry_91 (by decide) (s_X5_isEntry_120 X) ?_
  refine as_aload_n (pc := 94) X dX5_isEntry_94 rfl ?_
  refine as_iload_n (pc := 95) X dX5_isEntry_95 rfl ?_
  refine as_iload_n (pc := 96) X dX5_isEntry_96 rfl ?_
  refine as_iload_n (pc := 97) X dX5_isEntry_97 rfl ?_
  refine as_iconst (pc := 98) X dX5_isEntry_98 (by decide) ?_
  refine as_isub (pc := 99) X dX5_isEntry_99 ?_
  refine as_ic_ne (pc := 100) X 108 dX5_isEntry_100 (by decide) (s_X5_isEntry_108 X) ?_
  refine as_bipush (pc := 103) X dX5_isEntry_103 (by decide) ?_
  exact as_goto (pc := 105) X 110 dX5_isEntry_105 (by decide) (s_X5_isEntry_110 X)
theorem s_X5_isEntry_82 {G : am_G} {bc bs : Nat} (X : am_Cx G cX5_isEntry RX5 "isEntry" rm_X5_isEntry (some .boolean) 4 bc bs true) : am_S G 82 (t_X5_isEntry_82) := by
  unfold t_X5_isEntry_82
  refine as_istore_n (pc := 82) X dX5_isEntry_82 rfl ?_ (by decide)
  refine as_iconst (pc := 83) X dX5_isEntry_83 (by decide) ?_
  refine as_istore_n (pc := 84) X dX5_isEntry_84 rfl ?_ (by decide)
  exact as_head
theorem s_X5_isEntry_81 {G : am_G} {bc bs : Nat} (X : am_Cx G cX5_isEntry RX5 "isEntry" rm_X5_isEntry (some .boolean) 4 bc bs true) : am_S G 81 (t_X5_isEntry_81) := by
  unfold t_X5_isEntry_81
  refine as_iconst (pc := 81) X dX5_isEntry_81 (by decide) ?_
  exact s_X5_isEntry_82 X
theorem s_X5_isEntry_72 {G : am_G} {bc bs : Nat} (X : am_Cx G cX5_isEntry RX5 "isEntry" rm_X5_isEntry (some .boolean) 4 bc bs true) : am_S G 72 (t_X5_isEntry_72) := by
  unfold t_X5_isEntry_72
  refine as_istore_n (pc := 72) X dX5_isEntry_72 rfl ?_ (by decide)
  refine as_iload_n (pc := 73) X dX5_isEntry_73 rfl ?_
  refine as_if_le (pc := 74) X 81 dX5_isEntry_74 (by decide) (s_X5_isEntry_81 X) ?_
  refine as_iconst (pc := 77) X dX5_isEntry_77 (by decide) ?_
  exact as_goto (pc := 78) X 82 dX5_isEntry_78 (by decide) (s_X5_isEntry_82 X)
theorem s_X5_isEntry_71 {G : am_G} {bc bs : Nat} (X : am_Cx G cX5_isEntry RX5 "isEntry" rm_X5_isEntry (some .boolean) 4 bc bs true) : am_S G 71 (t_X5_isEntry_71) := by
  unfold t_X5_isEntry_71
  refine as_iconst (pc := 71) X dX5_isEntry_71 (by decide) ?_
  exact s_X5_isEntry_72 X
theorem s_X5_isEntry_67 {G : am_G} {bc bs : Nat} (X : am_Cx G cX5_isEntry RX5 "isEntry" rm_X5_isEntry (some .boolean) 4 bc bs true) : am_S G 67 (t_X5_isEntry_67) := by
  unfold t_X5_isEntry_67
  refine as_iconst (pc := 67) X dX5_isEntry_67 (by decide) ?_
  exact as_goto (pc := 68) X 72 dX5_isEntry_68 (by decide) (s_X5_isEntry_72 X)
theorem s_X5_isEntry_49 {G : am_G} {bc bs : Nat} (X : am_Cx G cX5_isEntry RX5 "isEntry" rm_X5_isEntry (some .boolean) 4 bc bs true) : am_S G 49 (t_X5_isEntry_49) := by
  unfold t_X5_isEntry_49
  refine as_aload_n (pc := 49) X dX5_isEntry_49 rfl ?_
  refine as_getI (ci := 5) (j := 17) (pc := 50) X (Cn := RX5) (Tf := TX5) (N := 21) rfl rfl (by decide) iw_X5 aw_755 rfl dX5_isEntry_50 ?_
  refine as_bipush (pc := 53) X dX5_isEntry_53 (by decide) ?_
  refine as_ic_eq (pc := 55) X 67 dX5_isEntry_55 (by decide) (s_X5_isEntry_67 X) ?_
  refine as_aload_n (pc := 58) X dX5_isEntry_58 rfl ?_
  refine as_getI (ci := 5) (j := 17) (pc := 59) X (Cn := RX5) (Tf := TX5) (N := 21) rfl rfl (by decide) iw_X5 aw_755 rfl dX5_isEntry_59 ?_
  refine as_bipush (pc := 62) X dX5_isEntry_62 (by decide) ?_
  refine as_ic_ne (pc := 64) X 71 dX5_isEntry_64 (by decide) (s_X5_isEntry_71 X) ?_
  exact s_X5_isEntry_67 X
theorem s_X5_isEntry_36 {G : am_G} {bc bs : Nat} (X : am_Cx G cX5_isEntry RX5 "isEntry" rm_X5_isEntry (some .boolean) 4 bc bs true) : am_S G 36 (t_X5_isEntry_36) := by
  unfold t_X5_isEntry_36
  refine as_aload_n (pc := 36) X dX5_isEntry_36 rfl ?_
  refine as_getI (ci := 5) (j := 17) (pc := 37) X (Cn := RX5) (Tf := TX5) (N := 21) rfl rfl (by decide) iw_X5 aw_755 rfl dX5_isEntry_37 ?_
  refine as_bipush (pc := 40) X dX5_isEntry_40 (by decide) ?_
  refine as_ic_ne (pc := 42) X 49 dX5_isEntry_42 (by decide) (s_X5_isEntry_49 X) ?_
  refine as_iconst (pc := 45) X dX5_isEntry_45 (by decide) ?_
  exact as_goto (pc := 46) X 72 dX5_isEntry_46 (by decide) (s_X5_isEntry_72 X)
theorem s_X5_isEntry_0 {G : am_G} {bc bs : Nat} (X : am_Cx G cX5_isEntry RX5 "isEntry" rm_X5_isEntry (some .boolean) 4 bc bs true) : am_S G 0 (t_X5_isEntry_0) := by
  unfold t_X5_isEntry_0
  refine as_aload_n (pc := 0) X dX5_isEntry_0 rfl ?_
  refine as_aload_n (pc := 1) X dX5_isEntry_1 rfl ?_
  refine as_getR (ci := 5) (j := 4) (pc := 2) X (Cn := RX5) (Tf := TX5) (N := 21) rfl rfl (by decide) iw_X5 aw_742 rfl dX5_isEntry_2 ?_
  refine as_aload_n (pc := 5) X dX5_isEntry_5 rfl ?_
  refine as_getI (ci := 5) (j := 16) (pc := 6) X (Cn := RX5) (Tf := TX5) (N := 21) rfl rfl (by decide) iw_X5 aw_754 rfl dX5_isEntry_6 ?_
  refine as_iald (pc := 9) X dX5_isEntry_9 ?_
  refine as_putI (ci := 5) (j := 17) (pc := 10) X (Cn := RX5) (Tf := TX5) (N := 21) rfl rfl (by decide) iw_X5 aw_755 tyX5 tyX5_ok nmX5 rfl rfl (by decide +kernel) dX5_isEntry_10 ?_
  refine as_aload_n (pc := 13) X dX5_isEntry_13 rfl ?_
  refine as_dup (pc := 14) X dX5_isEntry_14 ?_
  refine as_getI (ci := 5) (j := 16) (pc := 15) X (Cn := RX5) (Tf := TX5) (N := 21) rfl rfl (by decide) iw_X5 aw_754 rfl dX5_isEntry_15 ?_
  refine as_iconst (pc := 18) X dX5_isEntry_18 (by decide) ?_
  refine as_iadd (pc := 19) X dX5_isEntry_19 ?_
  refine as_putI (ci := 5) (j := 16) (pc := 20) X (Cn := RX5) (Tf := TX5) (N := 21) rfl rfl (by decide) iw_X5 aw_754 tyX5 tyX5_ok nmX5 rfl rfl (by decide +kernel) dX5_isEntry_20 ?_
  refine as_aload_n (pc := 23) X dX5_isEntry_23 rfl ?_
  refine as_getI (ci := 5) (j := 17) (pc := 24) X (Cn := RX5) (Tf := TX5) (N := 21) rfl rfl (by decide) iw_X5 aw_755 rfl dX5_isEntry_24 ?_
  refine as_bipush (pc := 27) X dX5_isEntry_27 (by decide) ?_
  refine as_ic_ne (pc := 29) X 36 dX5_isEntry_29 (by decide) (s_X5_isEntry_36 X) ?_
  refine as_iconst (pc := 32) X dX5_isEntry_32 (by decide) ?_
  exact as_goto (pc := 33) X 72 dX5_isEntry_33 (by decide) (s_X5_isEntry_72 X)
theorem s_X5_isEntry {G : am_G} {bc bs : Nat} (X : am_Cx G cX5_isEntry RX5 "isEntry" rm_X5_isEntry (some .boolean) 4 bc bs true) (h : Nat) : am_S G h (h_X5_isEntry h) := by
  unfold h_X5_isEntry
  split
  · next e => rw [e]; exact s_X5_isEntry_0 X
  split
  · next e => rw [e]; exact s_X5_isEntry_85 X
  exact as_bad
theorem ct_X5_isEntry : am_Ct yX5_isEntry cX5_isEntry 4 (some .boolean) rm_X5_isEntry sp_X5_isEntry := am_met (own := RX5) (nm := "isEntry") (by decide) rfl rfl (Or.inr (Or.inr (Or.inl rfl))) (fun _ _ => h_X5_isEntry) (fun _ _ _ X => s_X5_isEntry X) (fun _ _ _ _ h => h)
