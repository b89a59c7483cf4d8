-- X1_addTake
theorem dX1_addTake_0 : decode cX1_addTake 0 = .ok (.aload_n 0, 1) := by decide +kernel
theorem dX1_addTake_1 : decode cX1_addTake 1 = .ok (.getfield 9, 3) := by decide +kernel
theorem dX1_addTake_4 : decode cX1_addTake 4 = .ok (.bipush 20, 2) := by decide +kernel
theorem dX1_addTake_6 : decode cX1_addTake 6 = .ok (.if_icmp .ge 43, 3) := by decide +kernel
theorem dX1_addTake_9 : decode cX1_addTake 9 = .ok (.aload_n 0, 1) := by decide +kernel
theorem dX1_addTake_10 : decode cX1_addTake 10 = .ok (.getfield 15, 3) := by decide +kernel
theorem dX1_addTake_13 : decode cX1_addTake 13 = .ok (.aload_n 0, 1) := by decide +kernel
theorem dX1_addTake_14 : decode cX1_addTake 14 = .ok (.getfield 9, 3) := by decide +kernel
theorem dX1_addTake_17 : decode cX1_addTake 17 = .ok (.iload_n 1, 1) := by decide +kernel
theorem dX1_addTake_18 : decode cX1_addTake 18 = .ok (.iastore, 1) := by decide +kernel
theorem dX1_addTake_19 : decode cX1_addTake 19 = .ok (.aload_n 0, 1) := by decide +kernel
theorem dX1_addTake_20 : decode cX1_addTake 20 = .ok (.getfield 19, 3) := by decide +kernel
theorem dX1_addTake_23 : decode cX1_addTake 23 = .ok (.aload_n 0, 1) := by decide +kernel
theorem dX1_addTake_24 : decode cX1_addTake 24 = .ok (.getfield 9, 3) := by decide +kernel
theorem dX1_addTake_27 : decode cX1_addTake 27 = .ok (.iload_n 2, 1) := by decide +kernel
theorem dX1_addTake_28 : decode cX1_addTake 28 = .ok (.iastore, 1) := by decide +kernel
theorem dX1_addTake_29 : decode cX1_addTake 29 = .ok (.aload_n 0, 1) := by decide +kernel
theorem dX1_addTake_30 : decode cX1_addTake 30 = .ok (.getfield 22, 3) := by decide +kernel
theorem dX1_addTake_33 : decode cX1_addTake 33 = .ok (.aload_n 0, 1) := by decide +kernel
theorem dX1_addTake_34 : decode cX1_addTake 34 = .ok (.getfield 9, 3) := by decide +kernel
theorem dX1_addTake_37 : decode cX1_addTake 37 = .ok (.iload_n 3, 1) := by decide +kernel
theorem dX1_addTake_38 : decode cX1_addTake 38 = .ok (.iastore, 1) := by decide +kernel
theorem dX1_addTake_39 : decode cX1_addTake 39 = .ok (.aload_n 0, 1) := by decide +kernel
theorem dX1_addTake_40 : decode cX1_addTake 40 = .ok (.dup, 1) := by decide +kernel
theorem dX1_addTake_41 : decode cX1_addTake 41 = .ok (.getfield 9, 3) := by decide +kernel
theorem dX1_addTake_44 : decode cX1_addTake 44 = .ok (.iconst 1, 1) := by decide +kernel
theorem dX1_addTake_45 : decode cX1_addTake 45 = .ok (.iadd, 1) := by decide +kernel
theorem dX1_addTake_46 : decode cX1_addTake 46 = .ok (.putfield 9, 3) := by decide +kernel
theorem dX1_addTake_49 : decode cX1_addTake 49 = .ok (.return_, 1) := by decide +kernel
def t_X1_addTake_49 : am_T := tb_ret
def t_X1_addTake_0 : am_T := tb_aload 0 <|
  tb_getI 1 0 <|
  tb_const 20 <|
  tb_ic (fun x y => y ≤ x) (t_X1_addTake_49) <|
  tb_aload 0 <|
  tb_getR 1 1 <|
  tb_aload 0 <|
  tb_getI 1 0 <|
  tb_iload 1 <|
  tb_iast <|
  tb_aload 0 <|
  tb_getR 1 2 <|
  tb_aload 0 <|
  tb_getI 1 0 <|
  tb_iload 2 <|
  tb_iast <|
  tb_aload 0 <|
  tb_getR 1 3 <|
  tb_aload 0 <|
  tb_getI 1 0 <|
  tb_iload 3 <|
  tb_iast <|
  tb_aload 0 <|
  tb_dup <|
  tb_getI 1 0 <|
  tb_const 1 <|
  tb_bin (fun x y => x + y) <|
  tb_putI 1 0 <|
  t_X1_addTake_49
def h_X1_addTake : am_Hd := fun h => if h = 0 then t_X1_addTake_0 else tb_bad
theorem h_X1_addTake_0 : h_X1_addTake 0 = t_X1_addTake_0 := rfl
def rm_X1_addTake : Room := { frames := 0, cells := 0, slots := 0, locals := 0 }
def sp_X1_addTake : am_sp := fun as M Q => as.length ≤ 4 ∧ am_OK h_X1_addTake Q 0 (am_in 4 as) M
theorem s_X1_addTake_49 {G : am_G} {bc bs : Nat} (X : am_Cx G cX1_addTake RX1 "addTake" rm_X1_addTake none 4 bc bs true) : am_S G 49 (t_X1_addTake_49) := by
  unfold t_X1_addTake_49
  exact as_ret (pc := 49) X ⟨rfl, rfl⟩ rfl dX1_addTake_49
theorem s_X1_addTake_0 {G : am_G} {bc bs : Nat} (X : am_Cx G cX1_addTake RX1 "addTake" rm_X1_addTake none 4 bc bs true) : am_S G 0 (t_X1_addTake_0) := by
  unfold t_X1_addTake_0
  refine as_aload_n (pc := 0) X dX1_addTake_0 rfl ?_
  refine as_getI (ci := 1) (j := 0) (pc := 1) X (Cn := RX1) (Tf := TX1) (N := 14) rfl rfl (by decide) iw_X1 aw_93 rfl dX1_addTake_1 ?_
  refine as_bipush (pc := 4) X dX1_addTake_4 (by decide) ?_
  refine as_ic_ge (pc := 6) X 49 dX1_addTake_6 (by decide) (s_X1_addTake_49 X) ?_
  refine as_aload_n (pc := 9) X dX1_addTake_9 rfl ?_
  refine as_getR (ci := 1) (j := 1) (pc := 10) X (Cn := RX1) (Tf := TX1) (N := 14) rfl rfl (by decide) iw_X1 aw_95 rfl dX1_addTake_10 ?_
  refine as_aload_n (pc := 13) X dX1_addTake_13 rfl ?_
  refine as_getI (ci := 1) (j := 0) (pc := 14) X (Cn := RX1) (Tf := TX1) (N := 14) rfl rfl (by decide) iw_X1 aw_93 rfl dX1_addTake_14 ?_
  refine as_iload_n (pc := 17) X dX1_addTake_17 rfl ?_
  refine as_iast (pc := 18) X dX1_addTake_18 ?_
  refine as_aload_n (pc := 19) X dX1_addTake_19 rfl ?_
  refine as_getR (ci := 1) (j := 2) (pc := 20) X (Cn := RX1) (Tf := TX1) (N := 14) rfl rfl (by decide) iw_X1 aw_96 rfl dX1_addTake_20 ?_
  refine as_aload_n (pc := 23) X dX1_addTake_23 rfl ?_
  refine as_getI (ci := 1) (j := 0) (pc := 24) X (Cn := RX1) (Tf := TX1) (N := 14) rfl rfl (by decide) iw_X1 aw_93 rfl dX1_addTake_24 ?_
  refine as_iload_n (pc := 27) X dX1_addTake_27 rfl ?_
  refine as_iast (pc := 28) X dX1_addTake_28 ?_
  refine as_aload_n (pc := 29) X dX1_addTake_29 rfl ?_
  refine as_getR (ci := 1) (j := 3) (pc := 30) X (Cn := RX1) (Tf := TX1) (N := 14) rfl rfl (by decide) iw_X1 aw_97 rfl dX1_addTake_30 ?_
  refine as_aload_n (pc := 33) X dX1_addTake_33 rfl ?_
  refine as_getI (ci := 1) (j := 0) (pc := 34) X (Cn := RX1) (Tf := TX1) (N := 14) rfl rfl (by decide) iw_X1 aw_93 rfl dX1_addTake_34 ?_
  refine as_iload_n (pc := 37) X dX1_addTake_37 rfl ?_
  refine as_iast (pc := 38) X dX1_addTake_38 ?_
  refine as_aload_n (pc := 39) X dX1_addTake_39 rfl ?_
  refine as_dup (pc := 40) X dX1_addTake_40 ?_
  refine as_getI (ci := 1) (j := 0) (pc := 41) X (Cn := RX1) (Tf := TX1) (N := 14) rfl rfl (by decide) iw_X1 aw_93 rfl dX1_addTake_41 ?_
  refine as_iconst (pc := 44) X dX1_addTake_44 (by decide) ?_
  refine as_iadd (pc := 45) X dX1_addTake_45 ?_
  refine as_putI (ci := 1) (j := 0) (pc := 46) X (Cn := RX1) (Tf := TX1) (N := 14) rfl rfl (by decide) iw_X1 aw_93 tyX1 tyX1_ok nmX1 rfl rfl (by decide +kernel) dX1_addTake_46 ?_
  exact s_X1_addTake_49 X
theorem s_X1_addTake {G : am_G} {bc bs : Nat} (X : am_Cx G cX1_addTake RX1 "addTake" rm_X1_addTake none 4 bc bs true) (h : Nat) : am_S G h (h_X1_addTake h) := by
  unfold h_X1_addTake
  split
  · next e => rw [e]; exact s_X1_addTake_0 X
  exact as_bad
theorem ct_X1_addTake : am_Ct yX1_addTake cX1_addTake 4 none rm_X1_addTake sp_X1_addTake := am_met (own := RX1) (nm := "addTake") (by decide) rfl rfl (Or.inl rfl) (fun _ _ => h_X1_addTake) (fun _ _ _ X => s_X1_addTake X) (fun _ _ _ _ h => h)
-- X4_takes
theorem dX4_takes_0 : decode cX4_takes 0 = .ok (.iload_n 1, 1) := by decide +kernel
theorem dX4_takes_1 : decode cX4_takes 1 = .ok (.invokestatic 45, 3) := by decide +kernel
theorem dX4_takes_4 : decode cX4_takes 4 = .ok (.ifCond .eq 17, 3) := by decide +kernel
theorem dX4_takes_7 : decode cX4_takes 7 = .ok (.iload_n 2, 1) := by decide +kernel
theorem dX4_takes_8 : decode cX4_takes 8 = .ok (.invokestatic 49, 3) := by decide +kernel
theorem dX4_takes_11 : decode cX4_takes 11 = .ok (.ifCond .eq 10, 3) := by decide +kernel
theorem dX4_takes_14 : decode cX4_takes 14 = .ok (.iload_n 3, 1) := by decide +kernel
theorem dX4_takes_15 : decode cX4_takes 15 = .ok (.invokestatic 52, 3) := by decide +kernel
theorem dX4_takes_18 : decode cX4_takes 18 = .ok (.ifCond .ne 5, 3) := by decide +kernel
theorem dX4_takes_21 : decode cX4_takes 21 = .ok (.iconst (-1), 1) := by decide +kernel
theorem dX4_takes_22 : decode cX4_takes 22 = .ok (.ireturn, 1) := by decide +kernel
theorem dX4_takes_23 : decode cX4_takes 23 = .ok (.aload_n 0, 1) := by decide +kernel
theorem dX4_takes_24 : decode cX4_takes 24 = .ok (.getfield 20, 3) := by decide +kernel
theorem dX4_takes_27 : decode cX4_takes 27 = .ok (.iload_n 2, 1) := by decide +kernel
theorem dX4_takes_28 : decode cX4_takes 28 = .ok (.iload_n 3, 1) := by decide +kernel
theorem dX4_takes_29 : decode cX4_takes 29 = .ok (.invokevirtual 55, 3) := by decide +kernel
theorem dX4_takes_32 : decode cX4_takes 32 = .ok (.istore 4, 2) := by decide +kernel
theorem dX4_takes_34 : decode cX4_takes 34 = .ok (.iload_n 3, 1) := by decide +kernel
theorem dX4_takes_35 : decode cX4_takes 35 = .ok (.aload_n 0, 1) := by decide +kernel
theorem dX4_takes_36 : decode cX4_takes 36 = .ok (.getfield 20, 3) := by decide +kernel
theorem dX4_takes_39 : decode cX4_takes 39 = .ok (.invokevirtual 61, 3) := by decide +kernel
theorem dX4_takes_42 : decode cX4_takes 42 = .ok (.if_icmp .lt 15, 3) := by decide +kernel
theorem dX4_takes_45 : decode cX4_takes 45 = .ok (.iload 4, 2) := by decide +kernel
theorem dX4_takes_47 : decode cX4_takes 47 = .ok (.iconst (-1), 1) := by decide +kernel
theorem dX4_takes_48 : decode cX4_takes 48 = .ok (.if_icmp .eq 12, 3) := by decide +kernel
theorem dX4_takes_51 : decode cX4_takes 51 = .ok (.iload 4, 2) := by decide +kernel
theorem dX4_takes_53 : decode cX4_takes 53 = .ok (.iload_n 1, 1) := by decide +kernel
theorem dX4_takes_54 : decode cX4_takes 54 = .ok (.if_icmp .eq 6, 3) := by decide +kernel
theorem dX4_takes_57 : decode cX4_takes 57 = .ok (.bipush (-2), 2) := by decide +kernel
theorem dX4_takes_59 : decode cX4_takes 59 = .ok (.ireturn, 1) := by decide +kernel
theorem dX4_takes_60 : decode cX4_takes 60 = .ok (.aload_n 0, 1) := by decide +kernel
theorem dX4_takes_61 : decode cX4_takes 61 = .ok (.getfield 20, 3) := by decide +kernel
theorem dX4_takes_64 : decode cX4_takes 64 = .ok (.getfield 65, 3) := by decide +kernel
theorem dX4_takes_67 : decode cX4_takes 67 = .ok (.bipush 20, 2) := by decide +kernel
theorem dX4_takes_69 : decode cX4_takes 69 = .ok (.if_icmp .lt 6, 3) := by decide +kernel
theorem dX4_takes_72 : decode cX4_takes 72 = .ok (.bipush (-3), 2) := by decide +kernel
theorem dX4_takes_74 : decode cX4_takes 74 = .ok (.ireturn, 1) := by decide +kernel
theorem dX4_takes_75 : decode cX4_takes 75 = .ok (.aload_n 0, 1) := by decide +kernel
theorem dX4_takes_76 : decode cX4_takes 76 = .ok (.invokevirtual 69, 3) := by decide +kernel
theorem dX4_takes_79 : decode cX4_takes 79 = .ok (.aload_n 0, 1) := by decide +kernel
theorem dX4_takes_80 : decode cX4_takes 80 = .ok (.getfield 20, 3) := by decide +kernel
theorem dX4_takes_83 : decode cX4_takes 83 = .ok (.iload_n 1, 1) := by decide +kernel
theorem dX4_takes_84 : decode cX4_takes 84 = .ok (.iload_n 2, 1) := by decide +kernel
theorem dX4_takes_85 : decode cX4_takes 85 = .ok (.iload_n 3, 1) := by decide +kernel
theorem dX4_takes_86 : decode cX4_takes 86 = .ok (.invokevirtual 72, 3) := by decide +kernel
theorem dX4_takes_89 : decode cX4_takes 89 = .ok (.aload_n 0, 1) := by decide +kernel
theorem dX4_takes_90 : decode cX4_takes 90 = .ok (.getfield 20, 3) := by decide +kernel
theorem dX4_takes_93 : decode cX4_takes 93 = .ok (.getfield 65, 3) := by decide +kernel
theorem dX4_takes_96 : decode cX4_takes 96 = .ok (.ireturn, 1) := by decide +kernel
def t_X4_takes_75 : am_T := tb_aload 0 <|
  tb_callV 4 sp_X4_beginChange 1 <|
  tb_aload 0 <|
  tb_getR 4 1 <|
  tb_iload 1 <|
  tb_iload 2 <|
  tb_iload 3 <|
  tb_callV 1 sp_X1_addTake 4 <|
  tb_aload 0 <|
  tb_getR 4 1 <|
  tb_getI 1 0 <|
  tb_iret
def t_X4_takes_60 : am_T := tb_aload 0 <|
  tb_getR 4 1 <|
  tb_getI 1 0 <|
  tb_const 20 <|
  tb_ic (fun x y => x < y) (t_X4_takes_75) <|
  tb_const (-3) <|
  tb_iret
def t_X4_takes_57 : am_T := tb_const (-2) <|
  tb_iret
def t_X4_takes_23 : am_T := tb_aload 0 <|
  tb_getR 4 1 <|
  tb_iload 2 <|
  tb_iload 3 <|
  tb_callV 1 sp_X1_holderAt 3 <|
  tb_istore 4 <|
  tb_iload 3 <|
  tb_aload 0 <|
  tb_getR 4 1 <|
  tb_callV 1 sp_X1_lastTakeTime 1 <|
  tb_ic (fun x y => x < y) (t_X4_takes_57) <|
  tb_iload 4 <|
  tb_const (-1) <|
  tb_ic (fun x y => x = y) (t_X4_takes_60) <|
  tb_iload 4 <|
  tb_iload 1 <|
  tb_ic (fun x y => x = y) (t_X4_takes_60) <|
  t_X4_takes_57
def t_X4_takes_21 : am_T := tb_const (-1) <|
  tb_iret
def t_X4_takes_0 : am_T := tb_iload 1 <|
  tb_callS sp_X4_isPerson 1 <|
  tb_if (fun x => x = 0) (t_X4_takes_21) <|
  tb_iload 2 <|
  tb_callS sp_X4_isName 1 <|
  tb_if (fun x => x = 0) (t_X4_takes_21) <|
  tb_iload 3 <|
  tb_callS sp_X4_isTime 1 <|
  tb_if (fun x => x ≠ 0) (t_X4_takes_23) <|
  t_X4_takes_21
def h_X4_takes : am_Hd := fun h => if h = 0 then t_X4_takes_0 else tb_bad
theorem h_X4_takes_0 : h_X4_takes 0 = t_X4_takes_0 := rfl
def rm_X4_takes : Room := { frames := 4, cells := 0, slots := 0, locals := 89 }
def sp_X4_takes : am_sp := fun as M Q => as.length ≤ 5 ∧ am_OK h_X4_takes Q 0 (am_in 5 as) M
theorem s_X4_takes_75 {G : am_G} {bc bs : Nat} (X : am_Cx G cX4_takes RX4 "takes" rm_X4_takes (some .int) 5 bc bs true) : am_S G 75 (t_X4_takes_75) := by
  unfold t_X4_takes_75
  refine as_aload_n (pc := 75) X dX4_takes_75 rfl ?_
  refine as_callV (ci := 4) (np := 0) (ix := 69) (pc := 76) X ct_X4_beginChange (Cn := (RX4, TX4, 7)) rfl ⟨rfl, rfl⟩ aw_322 aw_324 aw_0 aw_325 aw_59 (by decide +kernel) (by decide) dX4_takes_76 ?_
  refine as_aload_n (pc := 79) X dX4_takes_79 rfl ?_
  refine as_getR (ci := 4) (j := 1) (pc := 80) X (Cn := RX4) (Tf := TX4) (N := 7) rfl rfl (by decide) iw_X4 aw_275 rfl dX4_takes_80 ?_
  refine as_iload_n (pc := 83) X dX4_takes_83 rfl ?_
  refine as_iload_n (pc := 84) X dX4_takes_84 rfl ?_
  refine as_iload_n (pc := 85) X dX4_takes_85 rfl ?_
  refine as_callV (ci := 1) (np := 3) (ix := 72) (pc := 86) X ct_X1_addTake (Cn := (RX1, TX1, 14)) rfl ⟨rfl, rfl⟩ aw_338 aw_339 aw_340 aw_341 aw_61 (by decide +kernel) (by decide) dX4_takes_86 ?_
  refine as_aload_n (pc := 89) X dX4_takes_89 rfl ?_
  refine as_getR (ci := 4) (j := 1) (pc := 90) X (Cn := RX4) (Tf := TX4) (N := 7) rfl rfl (by decide) iw_X4 aw_275 rfl dX4_takes_90 ?_
  refine as_getI (ci := 1) (j := 0) (pc := 93) X (Cn := RX1) (Tf := TX1) (N := 14) rfl rfl (by decide) iw_X1 aw_94 rfl dX4_takes_93 ?_
  exact as_iret (pc := 96) X ⟨rfl, rfl⟩ rfl dX4_takes_96
theorem s_X4_takes_60 {G : am_G} {bc bs : Nat} (X : am_Cx G cX4_takes RX4 "takes" rm_X4_takes (some .int) 5 bc bs true) : am_S G 60 (t_X4_takes_60) := by
  unfold t_X4_takes_60
  refine as_aload_n (pc := 60) X dX4_takes_60 rfl ?_
  refine as_getR (ci := 4) (j := 1) (pc := 61) X (Cn := RX4) (Tf := TX4) (N := 7) rfl rfl (by decide) iw_X4 aw_275 rfl dX4_takes_61 ?_
  refine as_getI (ci := 1) (j := 0) (pc := 64) X (Cn := RX1) (Tf := TX1) (N := 14) rfl rfl (by decide) iw_X1 aw_94 rfl dX4_takes_64 ?_
  refine as_bipush (pc := 67) X dX4_takes_67 (by decide) ?_
  refine as_ic_lt (pc := 69) X 75 dX4_takes_69 (by decide) (s_X4_takes_75 X) ?_
  refine as_bipush (pc := 72) X dX4_takes_72 (by decide) ?_
  exact as_iret (pc := 74) X ⟨rfl, rfl⟩ rfl dX4_takes_74
theorem s_X4_takes_57 {G : am_G} {bc bs : Nat} (X : am_Cx G cX4_takes RX4 "takes" rm_X4_takes (some .int) 5 bc bs true) : am_S G 57 (t_X4_takes_57) := by
  unfold t_X4_takes_57
  refine as_bipush (pc := 57) X dX4_takes_57 (by decide) ?_
  exact as_iret (pc := 59) X ⟨rfl, rfl⟩ rfl dX4_takes_59
theorem s_X4_takes_23 {G : am_G} {bc bs : Nat} (X : am_Cx G cX4_takes RX4 "takes" rm_X4_takes (some .int) 5 bc bs true) : am_S G 23 (t_X4_takes_23) := by
  unfold t_X4_takes_23
  refine as_aload_n (pc := 23) X dX4_takes_23 rfl ?_
  refine as_getR (ci := 4) (j := 1) (pc := 24) X (Cn := RX4) (Tf := TX4) (N := 7) rfl rfl (by decide) iw_X4 aw_275 rfl dX4_takes_24 ?_
  refine as_iload_n (pc := 27) X dX4_takes_27 rfl ?_
  refine as_iload_n (pc := 28) X dX4_takes_28 rfl ?_
  refine as_callV (ci := 1) (np := 2) (ix := 55) (pc := 29) X ct_X1_holderAt (Cn := (RX1, TX1, 14)) rfl ⟨rfl, rfl⟩ aw_310 aw_311 aw_312 aw_313 aw_61 (by decide +kernel) (by decide) dX4_takes_29 ?_
  refine as_istore (pc := 32) X dX4_takes_32 ?_ (by decide)
  refine as_iload_n (pc := 34) X dX4_takes_34 rfl ?_
  refine as_aload_n (pc := 35) X dX4_takes_35 rfl ?_
  refine as_getR (ci := 4) (j := 1) (pc := 36) X (Cn := RX4) (Tf := TX4) (N := 7) rfl rfl (by decide) iw_X4 aw_275 rfl dX4_takes_36 ?_
  refine as_callV (ci := 1) (np := 0) (ix := 61) (pc := 39) X ct_X1_lastTakeTime (Cn := (RX1, TX1, 14)) rfl ⟨rfl, rfl⟩ aw_318 aw_319 aw_320 aw_321 aw_61 (by decide +kernel) (by decide) dX4_takes_39 ?_
  refine as_ic_lt (pc := 42) X 57 dX4_takes_42 (by decide) (s_X4_takes_57 X) ?_
  refine as_iload (pc := 45) X dX4_takes_45 ?_
  refine as_iconst (pc := 47) X dX4_takes_47 (by decide) ?_
  refine as_ic_eq (pc := 48) X 60 dX4_takes_48 (by decide) (s_X4_takes_60 X) ?_
  refine as_iload (pc := 51) X dX4_takes_51 ?_
  refine as_iload_n (pc := 53) X dX4_takes_53 rfl ?_
  refine as_ic_eq (pc := 54) X 60 dX4_takes_54 (by decide) (s_X4_takes_60 X) ?_
  exact s_X4_takes_57 X
theorem s_X4_takes_21 {G : am_G} {bc bs : Nat} (X : am_Cx G cX4_takes RX4 "takes" rm_X4_takes (some .int) 5 bc bs true) : am_S G 21 (t_X4_takes_21) := by
  unfold t_X4_takes_21
  refine as_iconst (pc := 21) X dX4_takes_21 (by decide) ?_
  exact as_iret (pc := 22) X ⟨rfl, rfl⟩ rfl dX4_takes_22
theorem s_X4_takes_0 {G : am_G} {bc bs : Nat} (X : am_Cx G cX4_takes RX4 "takes" rm_X4_takes (some .int) 5 bc bs true) : am_S G 0 (t_X4_takes_0) := by
  unfold t_X4_takes_0
  refine as_iload_n (pc := 0) X dX4_takes_0 rfl ?_
  refine as_callS (np := 1) (ix := 45) (pc := 1) X ct_X4_isPerson ⟨rfl, rfl⟩ aw_300 aw_301 aw_302 aw_59 (by decide +kernel) (by decide) dX4_takes_1 ?_
  refine as_if_eq (pc := 4) X 21 dX4_takes_4 (by decide) (s_X4_takes_21 X) ?_
  refine as_iload_n (pc := 7) X dX4_takes_7 rfl ?_
  refine as_callS (np := 1) (ix := 49) (pc := 8) X ct_X4_isName ⟨rfl, rfl⟩ aw_303 aw_304 aw_305 aw_59 (by decide +kernel) (by decide) dX4_takes_8 ?_
  refine as_if_eq (pc := 11) X 21 dX4_takes_11 (by decide) (s_X4_takes_21 X) ?_
  refine as_iload_n (pc := 14) X dX4_takes_14 rfl ?_
  refine as_callS (np := 1) (ix := 52) (pc := 15) X ct_X4_isTime ⟨rfl, rfl⟩ aw_306 aw_307 aw_308 aw_59 (by decide +kernel) (by decide) dX4_takes_15 ?_
  refine as_if_ne (pc := 18) X 23 dX4_takes_18 (by decide) (s_X4_takes_23 X) ?_
  exact s_X4_takes_21 X
theorem s_X4_takes {G : am_G} {bc bs : Nat} (X : am_Cx G cX4_takes RX4 "takes" rm_X4_takes (some .int) 5 bc bs true) (h : Nat) : am_S G h (h_X4_takes h) := by
  unfold h_X4_takes
  split
  · next e => rw [e]; exact s_X4_takes_0 X
  exact as_bad
theorem ct_X4_takes : am_Ct yX4_takes cX4_takes 5 (some .int) rm_X4_takes sp_X4_takes := am_met (own := RX4) (nm := "takes") (by decide) rfl rfl (Or.inr (Or.inl rfl)) (fun _ _ => h_X4_takes) (fun _ _ _ X => s_X4_takes X) (fun _ _ _ _ h => h)
-- X5_in
theorem dX5_in_0 : decode cX5_in 0 = .ok (.iload_n 0, 1) := by decide +kernel
theorem dX5_in_1 : decode cX5_in 1 = .ok (.iload_n 1, 1) := by decide +kernel
theorem dX5_in_2 : decode cX5_in 2 = .ok (.if_icmp .lt 12, 3) := by decide +kernel
theorem dX5_in_5 : decode cX5_in 5 = .ok (.iload_n 0, 1) := by decide +kernel
theorem dX5_in_6 : decode cX5_in 6 = .ok (.iload_n 2, 1) := by decide +kernel
theorem dX5_in_7 : decode cX5_in 7 = .ok (.if_icmp .gt 7, 3) := by decide +kernel
theorem dX5_in_10 : decode cX5_in 10 = .ok (.iconst 1, 1) := by decide +kernel
theorem dX5_in_11 : decode cX5_in 11 = .ok (.goto 4, 3) := by decide +kernel
theorem dX5_in_14 : decode cX5_in 14 = .ok (.iconst 0, 1) := by decide +kernel
theorem dX5_in_15 : decode cX5_in 15 = .ok (.ireturn, 1) := by decide +kernel
def t_X5_in_15 : am_T := tb_zret
def t_X5_in_14 : am_T := tb_const 0 <|
  t_X5_in_15
def t_X5_in_0 : am_T := tb_iload 0 <|
  tb_iload 1 <|
  tb_ic (fun x y => x < y) (t_X5_in_14) <|
  tb_iload 0 <|
  tb_iload 2 <|
  tb_ic (fun x y => y < x) (t_X5_in_14) <|
  tb_const 1 <|
  t_X5_in_15
def h_X5_in : am_Hd := fun h => if h = 0 then t_X5_in_0 else tb_bad
theorem h_X5_in_0 : h_X5_in 0 = t_X5_in_0 := rfl
def rm_X5_in : Room := { frames := 0, cells := 0, slots := 0, locals := 0 }
def sp_X5_in : am_sp := fun as M Q => as.length ≤ 3 ∧ am_OK h_X5_in Q 0 (am_in 3 as) M
theorem s_X5_in_15 {G : am_G} {bc bs : Nat} (X : am_Cx G cX5_in RX5 "in" rm_X5_in (some .boolean) 3 bc bs true) : am_S G 15 (t_X5_in_15) := by
  unfold t_X5_in_15
  exact as_zret (pc := 15) X ⟨rfl, rfl⟩ rfl dX5_in_15
theorem s_X5_in_14 {G : am_G} {bc bs : Nat} (X : am_Cx G cX5_in RX5 "in" rm_X5_in (some .boolean) 3 bc bs true) : am_S G 14 (t_X5_in_14) := by
  unfold t_X5_in_14
  refine as_iconst (pc := 14) X dX5_in_14 (by decide) ?_
  exact s_X5_in_15 X
theorem s_X5_in_0 {G : am_G} {bc bs : Nat} (X : am_Cx G cX5_in RX5 "in" rm_X5_in (some .boolean) 3 bc bs true) : am_S G 0 (t_X5_in_0) := by
  unfold t_X5_in_0
  refine as_iload_n (pc := 0) X dX5_in_0 rfl ?_
  refine as_iload_n (pc := 1) X dX5_in_1 rfl ?_
  refine as_ic_lt (pc := 2) X 14 dX5_in_2 (by decide) (s_X5_in_14 X) ?_
  refine as_iload_n (pc := 5) X dX5_in_5 rfl ?_
  refine as_iload_n (pc := 6) X dX5_in_6 rfl ?_
  refine as_ic_gt (pc := 7) X 14 dX5_in_7 (by decide) (s_X5_in_14 X) ?_
  refine as_iconst (pc := 10) X dX5_in_10 (by decide) ?_
  exact as_goto (pc := 11) X 15 dX5_in_11 (by decide) (s_X5_in_15 X)
theorem s_X5_in {G : am_G} {bc bs : Nat} (X : am_Cx G cX5_in RX5 "in" rm_X5_in (some .boolean) 3 bc bs true) (h : Nat) : am_S G h (h_X5_in h) := by
  unfold h_X5_in
  split
  · next e => rw [e]; exact s_X5_in_0 X
  exact as_bad
theorem ct_X5_in : am_Ct yX5_in cX5_in 3 (some .boolean) rm_X5_in sp_X5_in := am_met (own := RX5) (nm := "in") (by decide) rfl rfl (Or.inr (Or.inr (Or.inl rfl))) (fun _ _ => h_X5_in) (fun _ _ _ X => s_X5_in X) (fun _ _ _ _ h => h)
-- X5_nameAt
theorem dX5_nameAt_0 : decode cX5_nameAt 0 = .ok (.bipush (-4), 2) := by decide +kernel
theorem dX5_nameAt_2 : decode cX5_nameAt 2 = .ok (.istore_n 3, 1) := by decide +kernel
theorem dX5_nameAt_3 : decode cX5_nameAt 3 = .ok (.iconst 0, 1) := by decide +kernel
theorem dX5_nameAt_4 : decode cX5_nameAt 4 = .ok (.istore 4, 2) := by decide +kernel
theorem dX5_nameAt_6 : decode cX5_nameAt 6 = .ok (.iload 4, 2) := by decide +kernel
theorem dX5_nameAt_8 : decode cX5_nameAt 8 = .ok (.aload_n 0, 1) := by decide +kernel
theorem dX5_nameAt_9 : decode cX5_nameAt 9 = .ok (.bipush 8, 2) := by decide +kernel
theorem dX5_nameAt_11 : decode cX5_nameAt 11 = .ok (.iaload, 1) := by decide +kernel
theorem dX5_nameAt_12 : decode cX5_nameAt 12 = .ok (.if_icmp .ge 65, 3) := by decide +kernel
theorem dX5_nameAt_15 : decode cX5_nameAt 15 = .ok (.aload_n 0, 1) := by decide +kernel
theorem dX5_nameAt_16 : decode cX5_nameAt 16 = .ok (.bipush 11, 2) := by decide +kernel
theorem dX5_nameAt_18 : decode cX5_nameAt 18 = .ok (.iconst 3, 1) := by decide +kernel
theorem dX5_nameAt_19 : decode cX5_nameAt 19 = .ok (.iload 4, 2) := by decide +kernel
theorem dX5_nameAt_21 : decode cX5_nameAt 21 = .ok (.imul, 1) := by decide +kernel
theorem dX5_nameAt_22 : decode cX5_nameAt 22 = .ok (.iadd, 1) := by decide +kernel
theorem dX5_nameAt_23 : decode cX5_nameAt 23 = .ok (.iaload, 1) := by decide +kernel
theorem dX5_nameAt_24 : decode cX5_nameAt 24 = .ok (.iload_n 1, 1) := by decide +kernel
theorem dX5_nameAt_25 : decode cX5_nameAt 25 = .ok (.if_icmp .ne 22, 3) := by decide +kernel
theorem dX5_nameAt_28 : decode cX5_nameAt 28 = .ok (.aload_n 0, 1) := by decide +kernel
theorem dX5_nameAt_29 : decode cX5_nameAt 29 = .ok (.bipush 11, 2) := by decide +kernel
theorem dX5_nameAt_31 : decode cX5_nameAt 31 = .ok (.iconst 3, 1) := by decide +kernel
theorem dX5_nameAt_32 : decode cX5_nameAt 32 = .ok (.iload 4, 2) := by decide +kernel
theorem dX5_nameAt_34 : decode cX5_nameAt 34 = .ok (.imul, 1) := by decide +kernel
theorem dX5_nameAt_35 : decode cX5_nameAt 35 = .ok (.iadd, 1) := by decide +kernel
theorem dX5_nameAt_36 : decode cX5_nameAt 36 = .ok (.iconst 2, 1) := by decide +kernel
theorem dX5_nameAt_37 : decode cX5_nameAt 37 = .ok (.iadd, 1) := by decide +kernel
theorem dX5_nameAt_38 : decode cX5_nameAt 38 = .ok (.iaload, 1) := by decide +kernel
theorem dX5_nameAt_39 : decode cX5_nameAt 39 = .ok (.iload_n 2, 1) := by decide +kernel
theorem dX5_nameAt_40 : decode cX5_nameAt 40 = .ok (.if_icmp .gt 7, 3) := by decide +kernel
theorem dX5_nameAt_43 : decode cX5_nameAt 43 = .ok (.iconst 1, 1) := by decide +kernel
theorem dX5_nameAt_44 : decode cX5_nameAt 44 = .ok (.goto 4, 3) := by decide +kernel
theorem dX5_nameAt_47 : decode cX5_nameAt 47 = .ok (.iconst 0, 1) := by decide +kernel
theorem dX5_nameAt_48 : decode cX5_nameAt 48 = .ok (.istore 5, 2) := by decide +kernel
theorem dX5_nameAt_50 : decode cX5_nameAt 50 = .ok (.iload 5, 2) := by decide +kernel
theorem dX5_nameAt_52 : decode cX5_nameAt 52 = .ok (.ifCond .eq 17, 3) := by decide +kernel
theorem dX5_nameAt_55 : decode cX5_nameAt 55 = .ok (.aload_n 0, 1) := by decide +kernel
theorem dX5_nameAt_56 : decode cX5_nameAt 56 = .ok (.bipush 11, 2) := by decide +kernel
theorem dX5_nameAt_58 : decode cX5_nameAt 58 = .ok (.iconst 3, 1) := by decide +kernel
theorem dX5_nameAt_59 : decode cX5_nameAt 59 = .ok (.iload 4, 2) := by decide +kernel
theorem dX5_nameAt_61 : decode cX5_nameAt 61 = .ok (.imul, 1) := by decide +kernel
theorem dX5_nameAt_62 : decode cX5_nameAt 62 = .ok (.iadd, 1) := by decide +kernel
theorem dX5_nameAt_63 : decode cX5_nameAt 63 = .ok (.iconst 1, 1) := by decide +kernel
theorem dX5_nameAt_64 : decode cX5_nameAt 64 = .ok (.iadd, 1) := by decide +kernel
theorem dX5_nameAt_65 : decode cX5_nameAt 65 = .ok (.iaload, 1) := by decide +kernel
theorem dX5_nameAt_66 : decode cX5_nameAt 66 = .ok (.goto 4, 3) := by decide +kernel
theorem dX5_nameAt_69 : decode cX5_nameAt 69 = .ok (.iload_n 3, 1) := by decide +kernel
theorem dX5_nameAt_70 : decode cX5_nameAt 70 = .ok (.istore_n 3, 1) := by decide +kernel
theorem dX5_nameAt_71 : decode cX5_nameAt 71 = .ok (.iinc 4 1, 3) := by decide +kernel
theorem dX5_nameAt_74 : decode cX5_nameAt 74 = .ok (.goto (-68), 3) := by decide +kernel
theorem dX5_nameAt_77 : decode cX5_nameAt 77 = .ok (.iload_n 3, 1) := by decide +kernel
theorem dX5_nameAt_78 : decode cX5_nameAt 78 = .ok (.ireturn, 1) := by decide +kernel
def t_X5_nameAt_77 : am_T := tb_iload 3 <|
  tb_iret
def t_X5_nameAt_70 : am_T := tb_istore 3 <|
  tb_iinc 4 1 <|
  tb_head 6
def t_X5_nameAt_69 : am_T := tb_iload 3 <|
  t_X5_nameAt_70
def t_X5_nameAt_48 : am_T := tb_istore 5 <|
  tb_iload 5 <|
  tb_if (fun x => x = 0) (t_X5_nameAt_69) <|
  tb_aload 0 <|
  tb_const 11 <|
  tb_const 3 <|
  tb_iload 4 <|
  tb_bin (fun x y => x * y) <|
  tb_bin (fun x y => x + y) <|
  tb_const 1 <|
  tb_bin (fun x y => x + y) <|
  tb_iald <|
  t_X5_nameAt_70
def t_X5_nameAt_47 : am_T := tb_const 0 <|
  t_X5_nameAt_48
def t_X5_nameAt_6 : am_T := tb_iload 4 <|
  tb_aload 0 <|
  tb_const 8 <|
  tb_iald <|
  tb_ic (fun x y => y ≤ x) (t_X5_nameAt_77) <|
  tb_aload 0 <|
  tb_const 11 <|
  tb_const 3 <|
  tb_iload 4 <|
  tb_bin (fun x y => x * y) <|
  tb_bin (fun x y => x + y) <|
  tb_iald <|
  tb_iload 1 <|
  tb_ic (fun x y => x ≠ y) (t_X5_nameAt_47) <|
  tb_aload 0 <|
  tb_const 11 <|
  tb_const 3 <|
  tb_iload 4 <|
  tb_bin (fun x y => x * y) <|
  tb_bin (fun x y => x + y) <|
  tb_const 2 <|
  tb_bin (fun x y => x + y) <|
  tb_iald <|
  tb_iload 2 <|
  tb_ic (fun x y => y < x) (t_X5_nameAt_47) <|
  tb_const 1 <|
  t_X5_nameAt_48
def t_X5_nameAt_0 : am_T := tb_const (-4) <|
  tb_istore 3 <|
  tb_const 0 <|
  tb_istore 4 <|
  tb_head 6
def h_X5_nameAt : am_Hd := fun h => if h = 0 then t_X5_nameAt_0 else if h = 6 then t_X5_nameAt_6 else tb_bad
theorem h_X5_nameAt_0 : h_X5_nameAt 0 = t_X5_nameAt_0 := rfl
theorem h_X5_nameAt_6 : h_X5_nameAt 6 = t_X5_nameAt_6 := rfl
def rm_X5_nameAt : Room := { frames := 0, cells := 0, slots := 0, locals := 0 }
def sp_X5_nameAt : am_sp := fun as M Q => as.length ≤ 6 ∧ am_OK h_X5_nameAt Q 0 (am_in 6 as) M
theorem s_X5_nameAt_77 {G : am_G} {bc bs : Nat} (X : am_Cx G cX5_nameAt RX5 "nameAt" rm_X5_nameAt (some .int) 6 bc bs true) : am_S G 77 (t_X5_nameAt_77) := by
  unfold t_X5_nameAt_77
  refine as_iload_n (pc := 77) X dX5_nameAt_77 rfl ?_
  exact as_iret (pc := 78) X ⟨rfl, rfl⟩ rfl dX5_nameAt_78
theorem s_X5_nameAt_70 {G : am_G} {bc bs : Nat} (X : am_Cx G cX5_nameAt RX5 "nameAt" rm_X5_nameAt (some .int) 6 bc bs true) : am_S G 70 (t_X5_nameAt_70) := by
  unfold t_X5_nameAt_70
  refine as_istore_n (pc := 70) X dX5_nameAt_70 rfl ?_ (by decide)
  refine as_iinc (pc := 71) X dX5_nameAt_71 (by decide) (by decide) ?_
  exact as_goto (pc := 74) X 6 dX5_nameAt_74 (by decide) (as_head)
theorem s_X5_nameAt_69 {G : am_G} {bc bs : Nat} (X : am_Cx G cX5_nameAt RX5 "nameAt" rm_X5_nameAt (some .int) 6 bc bs true) : am_S G 69 (t_X5_nameAt_69) := by
  unfold t_X5_nameAt_69
  refine as_iload_n (pc := 69) X dX5_nameAt_69 rfl ?_
  exact s_X5_nameAt_70 X
theorem s_X5_nameAt_48 {G : am_G} {bc bs : Nat} (X : am_Cx G cX5_nameAt RX5 "nameAt" rm_X5_nameAt (some .int) 6 bc bs true) : am_S G 48 (t_X5_nameAt_48) := by
  unfold t_X5_nameAt_48
  refine as_istore (pc := 48) X dX5_nameAt_48 ?_ (by decide)
  refine as_iload (pc := 50) X dX5_nameAt_50 ?_
  refine as_if_eq (pc := 52) X 69 dX5_nameAt_52 (by decide) (s_X5_nameAt_69 X) ?_
  refine as_aload_n (pc := 55) X dX5_nameAt_55 rfl ?_
  refine as_bipush (pc := 56) X dX5_nameAt_56 (by decide) ?_
  refine as_iconst (pc := 58) X dX5_nameAt_58 (by decide) ?_
  refine as_iload (pc := 59) X dX5_nameAt_59 ?_
  refine as_imul (pc := 61) X dX5_nameAt_61 ?_
  refine as_iadd (pc := 62) X dX5_nameAt_62 ?_
  refine as_iconst (pc := 63) X dX5_nameAt_63 (by decide) ?_
  refine as_iadd (pc := 64) X dX5_nameAt_64 ?_
  refine as_iald (pc := 65) X dX5_nameAt_65 ?_
  exact as_goto (pc := 66) X 70 dX5_nameAt_66 (by decide) (s_X5_nameAt_70 X)
theorem s_X5_nameAt_47 {G : am_G} {bc bs : Nat} (X : am_Cx G cX5_nameAt RX5 "nameAt" rm_X5_nameAt (some .int) 6 bc bs true) : am_S G 47 (t_X5_nameAt_47) := by
  unfold t_X5_nameAt_47
  refine as_iconst (pc := 47) X dX5_nameAt_47 (by decide) ?_
  exact s_X5_nameAt_48 X
theorem s_X5_nameAt_6 {G : am_G} {bc bs : Nat} (X : am_Cx G cX5_nameAt RX5 "nameAt" rm_X5_nameAt (some .int) 6 bc bs true) : am_S G 6 (t_X5_nameAt_6) := by
  unfold t_X5_nameAt_6
  refine as_iload (pc := 6) X dX5_nameAt_6 ?_
  refine as_aload_n (pc := 8) X dX5_nameAt_8 rfl ?_
  refine as_bipush (pc := 9) X dX5_nameAt_9 (by decide) ?_
  refine as_iald (pc := 11) X dX5_nameAt_11 ?_
  refine as_ic_ge (pc := 12) X 77 dX5_nameAt_12 (by decide) (s_X5_nameAt_77 X) ?_
  refine as_aload_n (pc := 15) X dX5_nameAt_15 rfl ?_
  refine as_bipush (pc := 16) X dX5_nameAt_16 (by decide) ?_
  refine as_iconst (pc := 18) X dX5_nameAt_18 (by decide) ?_
  refine as_iload (pc := 19) X dX5_nameAt_19 ?_
  refine as_imul (pc := 21) X dX5_nameAt_21 ?_
  refine as_iadd (pc := 22) X dX5_nameAt_22 ?_
  refine as_iald (pc := 23) X dX5_nameAt_23 ?_
  refine as_iload_n (pc := 24) X dX5_nameAt_24 rfl ?_
  refine as_ic_ne (pc := 25) X 47 dX5_nameAt_25 (by decide) (s_X5_nameAt_47 X) ?_
  refine as_aload_n (pc := 28) X dX5_nameAt_28 rfl ?_
  refine as_bipush (pc := 29) X dX5_nameAt_29 (by decide) ?_
  refine as_iconst (pc := 31) X dX5_nameAt_31 (by decide) ?_
  refine as_iload (pc := 32) X dX5_nameAt_32 ?_
  refine as_imul (pc := 34) X dX5_nameAt_34 ?_
  refine as_iadd (pc := 35) X dX5_nameAt_35 ?_
  refine as_iconst (pc := 36) X dX5_nameAt_36 (by decide) ?_
  refine as_iadd (pc := 37) X dX5_nameAt_37 ?_
  refine as_iald (pc := 38) X dX5_nameAt_38 ?_
  refine as_iload_n (pc := 39) X dX5_nameAt_39 rfl ?_
  refine as_ic_gt (pc := 40) X 47 dX5_nameAt_40 (by decide) (s_X5_nameAt_47 X) ?_
  refine as_iconst (pc := 43) X dX5_nameAt_43 (by decide) ?_
  exact as_goto (pc := 44) X 48 dX5_nameAt_44 (by decide) (s_X5_nameAt_48 X)
theorem s_X5_nameAt_0 {G : am_G} {bc bs : Nat} (X : am_Cx G cX5_nameAt RX5 "nameAt" rm_X5_nameAt (some .int) 6 bc bs true) : am_S G 0 (t_X5_nameAt_0) := by
  unfold t_X5_nameAt_0
  refine as_bipush (pc := 0) X dX5_nameAt_0 (by decide) ?_
  refine as_istore_n (pc := 2) X dX5_nameAt_2 rfl ?_ (by decide)
  refine as_iconst (pc := 3) X dX5_nameAt_3 (by decide) ?_
  refine as_istore (pc := 4) X dX5_nameAt_4 ?_ (by decide)
  exact as_head
theorem s_X5_nameAt {G : am_G} {bc bs : Nat} (X : am_Cx G cX5_nameAt RX5 "nameAt" rm_X5_nameAt (some .int) 6 bc bs true) (h : Nat) : am_S G h (h_X5_nameAt h) := by
  unfold h_X5_nameAt
  split
  · next e => rw [e]; exact s_X5_nameAt_0 X
  split
  · next e => rw [e]; exact s_X5_nameAt_6 X
  exact as_bad
theorem ct_X5_nameAt : am_Ct yX5_nameAt cX5_nameAt 6 (some .int) rm_X5_nameAt sp_X5_nameAt := am_met (own := RX5) (nm := "nameAt") (by decide) rfl rfl (Or.inr (Or.inl rfl)) (fun _ _ => h_X5_nameAt) (fun _ _ _ X => s_X5_nameAt X) (fun _ _ _ _ h => h)
-- X5_holder
theorem dX5_holder_0 : decode cX5_holder 0 = .ok (.bipush (-4), 2) := by decide +kernel
theorem dX5_holder_2 : decode cX5_holder 2 = .ok (.istore_n 3, 1) := by decide +kernel
theorem dX5_holder_3 : decode cX5_holder 3 = .ok (.iconst 0, 1) := by decide +kernel
theorem dX5_holder_4 : decode cX5_holder 4 = .ok (.istore 4, 2) := by decide +kernel
theorem dX5_holder_6 : decode cX5_holder 6 = .ok (.iload 4, 2) := by decide +kernel
theorem dX5_holder_8 : decode cX5_holder 8 = .ok (.bipush 12, 2) := by decide +kernel
theorem dX5_holder_10 : decode cX5_holder 10 = .ok (.if_icmp .ge 27, 3) := by decide +kernel
theorem dX5_holder_13 : decode cX5_holder 13 = .ok (.aload_n 0, 1) := by decide +kernel
theorem dX5_holder_14 : decode cX5_holder 14 = .ok (.iload 4, 2) := by decide +kernel
theorem dX5_holder_16 : decode cX5_holder 16 = .ok (.iload_n 2, 1) := by decide +kernel
theorem dX5_holder_17 : decode cX5_holder 17 = .ok (.invokestatic 56, 3) := by decide +kernel
theorem dX5_holder_20 : decode cX5_holder 20 = .ok (.iload_n 1, 1) := by decide +kernel
theorem dX5_holder_21 : decode cX5_holder 21 = .ok (.if_icmp .ne 8, 3) := by decide +kernel
theorem dX5_holder_24 : decode cX5_holder 24 = .ok (.iload 4, 2) := by decide +kernel
theorem dX5_holder_26 : decode cX5_holder 26 = .ok (.goto 4, 3) := by decide +kernel
theorem dX5_holder_29 : decode cX5_holder 29 = .ok (.iload_n 3, 1) := by decide +kernel
theorem dX5_holder_30 : decode cX5_holder 30 = .ok (.istore_n 3, 1) := by decide +kernel
theorem dX5_holder_31 : decode cX5_holder 31 = .ok (.iinc 4 1, 3) := by decide +kernel
theorem dX5_holder_34 : decode cX5_holder 34 = .ok (.goto (-28), 3) := by decide +kernel
theorem dX5_holder_37 : decode cX5_holder 37 = .ok (.iload_n 3, 1) := by decide +kernel
theorem dX5_holder_38 : decode cX5_holder 38 = .ok (.ireturn, 1) := by decide +kernel
def t_X5_holder_37 : am_T := tb_iload 3 <|
  tb_iret
def t_X5_holder_30 : am_T := tb_istore 3 <|
  tb_iinc 4 1 <|
  tb_head 6
def t_X5_holder_29 : am_T := tb_iload 3 <|
  t_X5_holder_30
def t_X5_holder_6 : am_T := tb_iload 4 <|
  tb_const 12 <|
  tb_ic (fun x y => y ≤ x) (t_X5_holder_37) <|
  tb_aload 0 <|
  tb_iload 4 <|
  tb_iload 2 <|
  tb_callS sp_X5_nameAt 3 <|
  tb_iload 1 <|
  tb_ic (fun x y => x ≠ y) (t_X5_holder_29) <|
  tb_iload 4 <|
  t_X5_holder_30
def t_X5_holder_0 : am_T := tb_const (-4) <|
  tb_istore 3 <|
  tb_const 0 <|
  tb_istore 4 <|
  tb_head 6
def h_X5_holder : am_Hd := fun h => if h = 0 then t_X5_holder_0 else if h = 6 then t_X5_holder_6 else tb_bad
theorem h_X5_holder_0 : h_X5_holder 0 = t_X5_holder_0 := rfl
theorem h_X5_holder_6 : h_X5_holder 6 = t_X5_holder_6 := rfl
def rm_X5_holder : Room := { frames := 1, cells := 0, slots := 0, locals := 25 }
def sp_X5_holder : am_sp := fun as M Q => as.length ≤ 5 ∧ am_OK h_X5_holder Q 0 (am_in 5 as) M
theorem s_X5_holder_37 {G : am_G} {bc bs : Nat} (X : am_Cx G cX5_holder RX5 "holder" rm_X5_holder (some .int) 5 bc bs true) : am_S G 37 (t_X5_holder_37) := by
  unfold t_X5_holder_37
  refine as_iload_n (pc := 37) X dX5_holder_37 rfl ?_
  exact as_iret (pc := 38) X ⟨rfl, rfl⟩ rfl dX5_holder_38
theorem s_X5_holder_30 {G : am_G} {bc bs : Nat} (X : am_Cx G cX5_holder RX5 "holder" rm_X5_holder (some .int) 5 bc bs true) : am_S G 30 (t_X5_holder_30) := by
  unfold t_X5_holder_30
  refine as_istore_n (pc := 30) X dX5_holder_30 rfl ?_ (by decide)
  refine as_iinc (pc := 31) X dX5_holder_31 (by decide) (by decide) ?_
  exact as_goto (pc := 34) X 6 dX5_holder_34 (by decide) (as_head)
theorem s_X5_holder_29 {G : am_G} {bc bs : Nat} (X : am_Cx G cX5_holder RX5 "holder" rm_X5_holder (some .int) 5 bc bs true) : am_S G 29 (t_X5_holder_29) := by
  unfold t_X5_holder_29
  refine as_iload_n (pc := 29) X dX5_holder_29 rfl ?_
  exact s_X5_holder_30 X
theorem s_X5_holder_6 {G : am_G} {bc bs : Nat} (X : am_Cx G cX5_holder RX5 "holder" rm_X5_holder (some .int) 5 bc bs true) : am_S G 6 (t_X5_holder_6) := by
  unfold t_X5_holder_6
  refine as_iload (pc := 6) X dX5_holder_6 ?_
  refine as_bipush (pc := 8) X dX5_holder_8 (by decide) ?_
  refine as_ic_ge (pc := 10) X 37 dX5_holder_10 (by decide) (s_X5_holder_37 X) ?_
  refine as_aload_n (pc := 13) X dX5_holder_13 rfl ?_
  refine as_iload (pc := 14) X dX5_holder_14 ?_
  refine as_iload_n (pc := 16) X dX5_holder_16 rfl ?_
  refine as_callS (np := 3) (ix := 56) (pc := 17) X ct_X5_nameAt ⟨rfl, rfl⟩ aw_813 aw_814 aw_815 aw_65 (by decide +kernel) (by decide) dX5_holder_17 ?_
  refine as_iload_n (pc := 20) X dX5_holder_20 rfl ?_
  refine as_ic_ne (pc := 21) X 29 dX5_holder_21 (by decide) (s_X5_holder_29 X) ?_
  refine as_iload (pc := 24) X dX5_holder_24 ?_
  exact as_goto (pc := 26) X 30 dX5_holder_26 (by decide) (s_X5_holder_30 X)
theorem s_X5_holder_0 {G : am_G} {bc bs : Nat} (X : am_Cx G cX5_holder RX5 "holder" rm_X5_holder (some .int) 5 bc bs true) : am_S G 0 (t_X5_holder_0) := by
  unfold t_X5_holder_0
  refine as_bipush (pc := 0) X dX5_holder_0 (by decide) ?_
  refine as_istore_n (pc := 2) X dX5_holder_2 rfl ?_ (by decide)
  refine as_iconst (pc := 3) X dX5_holder_3 (by decide) ?_
  refine as_istore (pc := 4) X dX5_holder_4 ?_ (by decide)
  exact as_head
theorem s_X5_holder {G : am_G} {bc bs : Nat} (X : am_Cx G cX5_holder RX5 "holder" rm_X5_holder (some .int) 5 bc bs true) (h : Nat) : am_S G h (h_X5_holder h) := by
  unfold h_X5_holder
  split
  · next e => rw [e]; exact s_X5_holder_0 X
  split
  · next e => rw [e]; exact s_X5_holder_6 X
  exact as_bad
theorem ct_X5_holder : am_Ct yX5_holder cX5_holder 5 (some .int) rm_X5_holder sp_X5_holder := am_met (own := RX5) (nm := "holder") (by decide) rfl rfl (Or.inr (Or.inl rfl)) (fun _ _ => h_X5_holder) (fun _ _ _ X => s_X5_holder X) (fun _ _ _ _ h => h)
-- X5_changes
theorem dX5_changes_0 : decode cX5_changes 0 = .ok (.aload_n 0, 1) := by decide +kernel
theorem dX5_changes_1 : decode cX5_changes 1 = .ok (.getfield 52, 3) := by decide +kernel
theorem dX5_changes_4 : decode cX5_changes 4 = .ok (.iconst 4, 1) := by decide +kernel
theorem dX5_changes_5 : decode cX5_changes 5 = .ok (.if_icmp .ne 44, 3) := by decide +kernel
theorem dX5_changes_8 : decode cX5_changes 8 = .ok (.iconst 0, 1) := by decide +kernel
theorem dX5_changes_9 : decode cX5_changes 9 = .ok (.istore_n 1, 1) := by decide +kernel
theorem dX5_changes_10 : decode cX5_changes 10 = .ok (.iload_n 1, 1) := by decide +kernel
theorem dX5_changes_11 : decode cX5_changes 11 = .ok (.sipush 681, 3) := by decide +kernel
theorem dX5_changes_14 : decode cX5_changes 14 = .ok (.if_icmp .ge 25, 3) := by decide +kernel
theorem dX5_changes_17 : decode cX5_changes 17 = .ok (.aload_n 0, 1) := by decide +kernel
theorem dX5_changes_18 : decode cX5_changes 18 = .ok (.getfield 16, 3) := by decide +kernel
theorem dX5_changes_21 : decode cX5_changes 21 = .ok (.iload_n 1, 1) := by decide +kernel
theorem dX5_changes_22 : decode cX5_changes 22 = .ok (.aload_n 0, 1) := by decide +kernel
theorem dX5_changes_23 : decode cX5_changes 23 = .ok (.getfield 16, 3) := by decide +kernel
theorem dX5_changes_26 : decode cX5_changes 26 = .ok (.iload_n 1, 1) := by decide +kernel
theorem dX5_changes_27 : decode cX5_changes 27 = .ok (.sipush 227, 3) := by decide +kernel
theorem dX5_changes_30 : decode cX5_changes 30 = .ok (.iadd, 1) := by decide +kernel
theorem dX5_changes_31 : decode cX5_changes 31 = .ok (.iaload, 1) := by decide +kernel
theorem dX5_changes_32 : decode cX5_changes 32 = .ok (.iastore, 1) := by decide +kernel
theorem dX5_changes_33 : decode cX5_changes 33 = .ok (.iinc 1 1, 3) := by decide +kernel
theorem dX5_changes_36 : decode cX5_changes 36 = .ok (.goto (-26), 3) := by decide +kernel
theorem dX5_changes_39 : decode cX5_changes 39 = .ok (.aload_n 0, 1) := by decide +kernel
theorem dX5_changes_40 : decode cX5_changes 40 = .ok (.dup, 1) := by decide +kernel
theorem dX5_changes_41 : decode cX5_changes 41 = .ok (.getfield 52, 3) := by decide +kernel
theorem dX5_changes_44 : decode cX5_changes 44 = .ok (.iconst 1, 1) := by decide +kernel
theorem dX5_changes_45 : decode cX5_changes 45 = .ok (.isub, 1) := by decide +kernel
theorem dX5_changes_46 : decode cX5_changes 46 = .ok (.putfield 52, 3) := by decide +kernel
theorem dX5_changes_49 : decode cX5_changes 49 = .ok (.iconst 0, 1) := by decide +kernel
theorem dX5_changes_50 : decode cX5_changes 50 = .ok (.istore_n 1, 1) := by decide +kernel
theorem dX5_changes_51 : decode cX5_changes 51 = .ok (.iload_n 1, 1) := by decide +kernel
theorem dX5_changes_52 : decode cX5_changes 52 = .ok (.sipush 227, 3) := by decide +kernel
theorem dX5_changes_55 : decode cX5_changes 55 = .ok (.if_icmp .ge 30, 3) := by decide +kernel
theorem dX5_changes_58 : decode cX5_changes 58 = .ok (.aload_n 0, 1) := by decide +kernel
theorem dX5_changes_59 : decode cX5_changes 59 = .ok (.getfield 16, 3) := by decide +kernel
theorem dX5_changes_62 : decode cX5_changes 62 = .ok (.sipush 227, 3) := by decide +kernel
theorem dX5_changes_65 : decode cX5_changes 65 = .ok (.aload_n 0, 1) := by decide +kernel
theorem dX5_changes_66 : decode cX5_changes 66 = .ok (.getfield 52, 3) := by decide +kernel
theorem dX5_changes_69 : decode cX5_changes 69 = .ok (.imul, 1) := by decide +kernel
theorem dX5_changes_70 : decode cX5_changes 70 = .ok (.iload_n 1, 1) := by decide +kernel
theorem dX5_changes_71 : decode cX5_changes 71 = .ok (.iadd, 1) := by decide +kernel
theorem dX5_changes_72 : decode cX5_changes 72 = .ok (.aload_n 0, 1) := by decide +kernel
theorem dX5_changes_73 : decode cX5_changes 73 = .ok (.getfield 7, 3) := by decide +kernel
theorem dX5_changes_76 : decode cX5_changes 76 = .ok (.iload_n 1, 1) := by decide +kernel
theorem dX5_changes_77 : decode cX5_changes 77 = .ok (.iaload, 1) := by decide +kernel
theorem dX5_changes_78 : decode cX5_changes 78 = .ok (.iastore, 1) := by decide +kernel
theorem dX5_changes_79 : decode cX5_changes 79 = .ok (.iinc 1 1, 3) := by decide +kernel
theorem dX5_changes_82 : decode cX5_changes 82 = .ok (.goto (-31), 3) := by decide +kernel
theorem dX5_changes_85 : decode cX5_changes 85 = .ok (.aload_n 0, 1) := by decide +kernel
theorem dX5_changes_86 : decode cX5_changes 86 = .ok (.dup, 1) := by decide +kernel
theorem dX5_changes_87 : decode cX5_changes 87 = .ok (.getfield 52, 3) := by decide +kernel
theorem dX5_changes_90 : decode cX5_changes 90 = .ok (.iconst 1, 1) := by decide +kernel
theorem dX5_changes_91 : decode cX5_changes 91 = .ok (.iadd, 1) := by decide +kernel
theorem dX5_changes_92 : decode cX5_changes 92 = .ok (.putfield 52, 3) := by decide +kernel
theorem dX5_changes_95 : decode cX5_changes 95 = .ok (.return_, 1) := by decide +kernel
def t_X5_changes_85 : am_T := tb_aload 0 <|
  tb_dup <|
  tb_getI 5 3 <|
  tb_const 1 <|
  tb_bin (fun x y => x + y) <|
  tb_putI 5 3 <|
  tb_ret
def t_X5_changes_51 : am_T := tb_iload 1 <|
  tb_const 227 <|
  tb_ic (fun x y => y ≤ x) (t_X5_changes_85) <|
  tb_aload 0 <|
  tb_getR 5 2 <|
  tb_const 227 <|
  tb_aload 0 <|
  tb_getI 5 3 <|
  tb_bin (fun x y => x * y) <|
  tb_iload 1 <|
  tb_bin (fun x y => x + y) <|
  tb_aload 0 <|
  tb_getR 5 0 <|
  tb_iload 1 <|
  tb_iald <|
  tb_iast <|
  tb_iinc 1 1 <|
  tb_head 51
def t_X5_changes_49 : am_T := tb_const 0 <|
  tb_istore 1 <|
  tb_head 51
def t_X5_changes_39 : am_T := tb_aload 0 <|
  tb_dup <|
  tb_getI 5 3 <|
  tb_const 1 <|
  tb_bin (fun x y => x - y) <|
  tb_putI 5 3 <|
  t_X5_changes_49
def t_X5_changes_10 : am_T := tb_iload 1 <|
  tb_const 681 <|
  tb_ic (fun x y => y ≤ x) (t_X5_changes_39) <|
  tb_aload 0 <|
  tb_getR 5 2 <|
  tb_iload 1 <|
  tb_aload 0 <|
  tb_getR 5 2 <|
  tb_iload 1 <|
  tb_const 227 <|
  tb_bin (fun x y => x + y) <|
  tb_iald <|
  tb_iast <|
  tb_iinc 1 1 <|
  tb_head 10
def t_X5_changes_0 : am_T := tb_aload 0 <|
  tb_getI 5 3 <|
  tb_const 4 <|
  tb_ic (fun x y => x ≠ y) (t_X5_changes_49) <|
  tb_const 0 <|
  tb_istore 1 <|
  tb_head 10
def h_X5_changes : am_Hd := fun h => if h = 0 then t_X5_changes_0 else if h = 10 then t_X5_changes_10 else if h = 51 then t_X5_changes_51 else tb_bad
theorem h_X5_changes_0 : h_X5_changes 0 = t_X5_changes_0 := rfl
theorem h_X5_changes_10 : h_X5_changes 10 = t_X5_changes_10 := rfl
theorem h_X5_changes_51 : h_X5_changes 51 = t_X5_changes_51 := rfl
def rm_X5_changes : Room := { frames := 0, cells := 0, slots := 0, locals := 0 }
def sp_X5_changes : am_sp := fun as M Q => as.length ≤ 2 ∧ am_OK h_X5_changes Q 0 (am_in 2 as) M
theorem s_X5_changes_85 {G : am_G} {bc bs : Nat} (X : am_Cx G cX5_changes RX5 "changes" rm_X5_changes none 2 bc bs true) : am_S G 85 (t_X5_changes_85) := by
  unfold t_X5_changes_85
  refine as_aload_n (pc := 85) X dX5_changes_85 rfl ?_
  refine as_dup (pc := 86) X dX5_changes_86 ?_
  refine as_getI (ci := 5) (j := 3) (pc := 87) X (Cn := RX5) (Tf := TX5) (N := 21) rfl rfl (by decide) iw_X5 aw_741 rfl dX5_changes_87 ?_
  refine as_iconst (pc := 90) X dX5_changes_90 (by decide) ?_
  refine as_iadd (pc := 91) X dX5_changes_91 ?_
  refine as_putI (ci := 5) (j := 3) (pc := 92) X (Cn := RX5) (Tf := TX5) (N := 21) rfl rfl (by decide) iw_X5 aw_741 tyX5 tyX5_ok nmX5 rfl rfl (by decide +kernel) dX5_changes_92 ?_
  exact as_ret (pc := 95) X ⟨rfl, rfl⟩ rfl dX5_changes_95
theorem s_X5_changes_51 {G : am_G} {bc bs : Nat} (X : am_Cx G cX5_changes RX5 "changes" rm_X5_changes none 2 bc bs true) : am_S G 51 (t_X5_changes_51) := by
  unfold t_X5_changes_51
  refine as_iload_n (pc := 51) X dX5_changes_51 rfl ?_
  refine as_sipush (pc := 52) X dX5_changes_52 (by decide) ?_
  refine as_ic_ge (pc := 55) X 85 dX5_changes_55 (by decide) (s_X5_changes_85 X) ?_
  refine as_aload_n (pc := 58) X dX5_changes_58 rfl ?_
  refine as_getR (ci := 5) (j := 2) (pc := 59) X (Cn := RX5) (Tf := TX5) (N := 21) rfl rfl (by decide) iw_X5 aw_740 rfl dX5_changes_59 ?_
  refine as_sipush (pc := 62) X dX5_changes_62 (by decide) ?_
  refine as_aload_n (pc := 65) X dX5_changes_65 rfl ?_
  refine as_getI (ci := 5) (j := 3) (pc := 66) X (Cn := RX5) (Tf := TX5) (N := 21) rfl rfl (by decide) iw_X5 aw_741 rfl dX5_changes_66 ?_
  refine as_imul (pc := 69) X dX5_changes_69 ?_
  refine as_iload_n (pc := 70) X dX5_changes_70 rfl ?_
  refine as_iadd (pc := 71) X dX5_changes_71 ?_
  refine as_aload_n (pc := 72) X dX5_changes_72 rfl ?_
  refine as_getR (ci := 5) (j := 0) (pc := 73) X (Cn := RX5) (Tf := TX5) (N := 21) rfl rfl (by decide) iw_X5 aw_738 rfl dX5_changes_73 ?_
  refine as_iload_n (pc := 76) X dX5_changes_76 rfl ?_
  refine as_iald (pc := 77) X dX5_changes_77 ?_
  refine as_iast (pc := 78) X dX5_changes_78 ?_
  refine as_iinc (pc := 79) X dX5_changes_79 (by decide) (by decide) ?_
  exact as_goto (pc := 82) X 51 dX5_changes_82 (by decide) (as_head)
theorem s_X5_changes_49 {G : am_G} {bc bs : Nat} (X : am_Cx G cX5_changes RX5 "changes" rm_X5_changes none 2 bc bs true) : am_S G 49 (t_X5_changes_49) := by
  unfold t_X5_changes_49
  refine as_iconst (pc := 49) X dX5_changes_49 (by decide) ?_
  refine as_istore_n (pc := 50) X dX5_changes_50 rfl ?_ (by decide)
  exact as_head
theorem s_X5_changes_39 {G : am_G} {bc bs : Nat} (X : am_Cx G cX5_changes RX5 "changes" rm_X5_changes none 2 bc bs true) : am_S G 39 (t_X5_changes_39) := by
  unfold t_X5_changes_39
  refine as_aload_n (pc := 39) X dX5_changes_39 rfl ?_
  refine as_dup (pc := 40) X dX5_changes_40 ?_
  refine as_getI (ci := 5) (j := 3) (pc := 41) X (Cn := RX5) (Tf := TX5) (N := 21) rfl rfl (by decide) iw_X5 aw_741 rfl dX5_changes_41 ?_
  refine as_iconst (pc := 44) X dX5_changes_44 (by decide) ?_
  refine as_isub (pc := 45) X dX5_changes_45 ?_
  refine as_putI (ci := 5) (j := 3) (pc := 46) X (Cn := RX5) (Tf := TX5) (N := 21) rfl rfl (by decide) iw_X5 aw_741 tyX5 tyX5_ok nmX5 rfl rfl (by decide +kernel) dX5_changes_46 ?_
  exact s_X5_changes_49 X
theorem s_X5_changes_10 {G : am_G} {bc bs : Nat} (X : am_Cx G cX5_changes RX5 "changes" rm_X5_changes none 2 bc bs true) : am_S G 10 (t_X5_changes_10) := by
  unfold t_X5_changes_10
  refine as_iload_n (pc := 10) X dX5_changes_10 rfl ?_
  refine as_sipush (pc := 11) X dX5_changes_11 (by decide) ?_
  refine as_ic_ge (pc := 14) X 39 dX5_changes_14 (by decide) (s_X5_changes_39 X) ?_
  refine as_aload_n (pc := 17) X dX5_changes_17 rfl ?_
  refine as_getR (ci := 5) (j := 2) (pc := 18) X (Cn := RX5) (Tf := TX5) (N := 21) rfl rfl (by decide) iw_X5 aw_740 rfl dX5_changes_18 ?_
  refine as_iload_n (pc := 21) X dX5_changes_21 rfl ?_
  refine as_aload_n (pc := 22) X dX5_changes_22 rfl ?_
  refine as_getR (ci := 5) (j := 2) (pc := 23) X (Cn := RX5) (Tf := TX5) (N := 21) rfl rfl (by decide) iw_X5 aw_740 rfl dX5_changes_23 ?_
  refine as_iload_n (pc := 26) X dX5_changes_26 rfl ?_
  refine as_sipush (pc := 27) X dX5_changes_27 (by decide) ?_
  refine as_iadd (pc := 30) X dX5_changes_30 ?_
  refine as_iald (pc := 31) X dX5_changes_31 ?_
  refine as_iast (pc := 32) X dX5_changes_32 ?_
  refine as_iinc (pc := 33) X dX5_changes_33 (by decide) (by decide) ?_
  exact as_goto (pc := 36) X 10 dX5_changes_36 (by decide) (as_head)
theorem s_X5_changes_0 {G : am_G} {bc bs : Nat} (X : am_Cx G cX5_changes RX5 "changes" rm_X5_changes none 2 bc bs true) : am_S G 0 (t_X5_changes_0) := by
  unfold t_X5_changes_0
  refine as_aload_n (pc := 0) X dX5_changes_0 rfl ?_
  refine as_getI (ci := 5) (j := 3) (pc := 1) X (Cn := RX5) (Tf := TX5) (N := 21) rfl rfl (by decide) iw_X5 aw_741 rfl dX5_changes_1 ?_
  refine as_iconst (pc := 4) X dX5_changes_4 (by decide) ?_
  refine as_ic_ne (pc := 5) X 49 dX5_changes_5 (by decide) (s_X5_changes_49 X) ?_
  refine as_iconst (pc := 8) X dX5_changes_8 (by decide) ?_
  refine as_istore_n (pc := 9) X dX5_changes_9 rfl ?_ (by decide)
  exact as_head
theorem s_X5_changes {G : am_G} {bc bs : Nat} (X : am_Cx G cX5_changes RX5 "changes" rm_X5_changes none 2 bc bs true) (h : Nat) : am_S G h (h_X5_changes h) := by
  unfold h_X5_changes
  split
  · next e => rw [e]; exact s_X5_changes_0 X
  split
  · next e => rw [e]; exact s_X5_changes_10 X
  split
  · next e => rw [e]; exact s_X5_changes_51 X
  exact as_bad
theorem ct_X5_changes : am_Ct yX5_changes cX5_changes 2 none rm_X5_changes sp_X5_changes := am_met (own := RX5) (nm := "changes") (by decide) rfl rfl (Or.inl rfl) (fun _ _ => h_X5_changes) (fun _ _ _ X => s_X5_changes X) (fun _ _ _ _ h => h)
-- X5_takes
theorem dX5_takes_0 : decode cX5_takes 0 = .ok (.iload_n 1, 1) := by decide +kernel
theorem dX5_takes_1 : decode cX5_takes 1 = .ok (.iconst 0, 1) := by decide +kernel
theorem dX5_takes_2 : decode cX5_takes 2 = .ok (.bipush 11, 2) := by decide +kernel
theorem dX5_takes_4 : decode cX5_takes 4 = .ok (.invokestatic 60, 3) := by decide +kernel
theorem dX5_takes_7 : decode cX5_takes 7 = .ok (.ifCond .eq 23, 3) := by decide +kernel
theorem dX5_takes_10 : decode cX5_takes 10 = .ok (.iload_n 2, 1) := by decide +kernel
theorem dX5_takes_11 : decode cX5_takes 11 = .ok (.iconst 0, 1) := by decide +kernel
theorem dX5_takes_12 : decode cX5_takes 12 = .ok (.bipush 15, 2) := by decide +kernel
theorem dX5_takes_14 : decode cX5_takes 14 = .ok (.invokestatic 60, 3) := by decide +kernel
theorem dX5_takes_17 : decode cX5_takes 17 = .ok (.ifCond .eq 13, 3) := by decide +kernel
theorem dX5_takes_20 : decode cX5_takes 20 = .ok (.iload_n 3, 1) := by decide +kernel
theorem dX5_takes_21 : decode cX5_takes 21 = .ok (.iconst 0, 1) := by decide +kernel
theorem dX5_takes_22 : decode cX5_takes 22 = .ok (.ldc 64, 2) := by decide +kernel
theorem dX5_takes_24 : decode cX5_takes 24 = .ok (.invokestatic 60, 3) := by decide +kernel
theorem dX5_takes_27 : decode cX5_takes 27 = .ok (.ifCond .ne 5, 3) := by decide +kernel
theorem dX5_takes_30 : decode cX5_takes 30 = .ok (.iconst (-1), 1) := by decide +kernel
theorem dX5_takes_31 : decode cX5_takes 31 = .ok (.ireturn, 1) := by decide +kernel
theorem dX5_takes_32 : decode cX5_takes 32 = .ok (.aload_n 0, 1) := by decide +kernel
theorem dX5_takes_33 : decode cX5_takes 33 = .ok (.getfield 7, 3) := by decide +kernel
theorem dX5_takes_36 : decode cX5_takes 36 = .ok (.iload_n 2, 1) := by decide +kernel
theorem dX5_takes_37 : decode cX5_takes 37 = .ok (.iload_n 3, 1) := by decide +kernel
theorem dX5_takes_38 : decode cX5_takes 38 = .ok (.invokestatic 65, 3) := by decide +kernel
theorem dX5_takes_41 : decode cX5_takes 41 = .ok (.istore 4, 2) := by decide +kernel
theorem dX5_takes_43 : decode cX5_takes 43 = .ok (.aload_n 0, 1) := by decide +kernel
theorem dX5_takes_44 : decode cX5_takes 44 = .ok (.getfield 7, 3) := by decide +kernel
theorem dX5_takes_47 : decode cX5_takes 47 = .ok (.bipush 8, 2) := by decide +kernel
theorem dX5_takes_49 : decode cX5_takes 49 = .ok (.iaload, 1) := by decide +kernel
theorem dX5_takes_50 : decode cX5_takes 50 = .ok (.ifCond .le 26, 3) := by decide +kernel
theorem dX5_takes_53 : decode cX5_takes 53 = .ok (.iload_n 3, 1) := by decide +kernel
theorem dX5_takes_54 : decode cX5_takes 54 = .ok (.aload_n 0, 1) := by decide +kernel
theorem dX5_takes_55 : decode cX5_takes 55 = .ok (.getfield 7, 3) := by decide +kernel
theorem dX5_takes_58 : decode cX5_takes 58 = .ok (.bipush 11, 2) := by decide +kernel
theorem dX5_takes_60 : decode cX5_takes 60 = .ok (.iconst 3, 1) := by decide +kernel
theorem dX5_takes_61 : decode cX5_takes 61 = .ok (.aload_n 0, 1) := by decide +kernel
theorem dX5_takes_62 : decode cX5_takes 62 = .ok (.getfield 7, 3) := by decide +kernel
theorem dX5_takes_65 : decode cX5_takes 65 = .ok (.bipush 8, 2) := by decide +kernel
theorem dX5_takes_67 : decode cX5_takes 67 = .ok (.iaload, 1) := by decide +kernel
theorem dX5_takes_68 : decode cX5_takes 68 = .ok (.imul, 1) := by decide +kernel
theorem dX5_takes_69 : decode cX5_takes 69 = .ok (.iadd, 1) := by decide +kernel
theorem dX5_takes_70 : decode cX5_takes 70 = .ok (.iconst 1, 1) := by decide +kernel
theorem dX5_takes_71 : decode cX5_takes 71 = .ok (.isub, 1) := by decide +kernel
theorem dX5_takes_72 : decode cX5_takes 72 = .ok (.iaload, 1) := by decide +kernel
theorem dX5_takes_73 : decode cX5_takes 73 = .ok (.if_icmp .lt 16, 3) := by decide +kernel
theorem dX5_takes_76 : decode cX5_takes 76 = .ok (.iload 4, 2) := by decide +kernel
theorem dX5_takes_78 : decode cX5_takes 78 = .ok (.bipush (-4), 2) := by decide +kernel
theorem dX5_takes_80 : decode cX5_takes 80 = .ok (.if_icmp .eq 12, 3) := by decide +kernel
theorem dX5_takes_83 : decode cX5_takes 83 = .ok (.iload 4, 2) := by decide +kernel
theorem dX5_takes_85 : decode cX5_takes 85 = .ok (.iload_n 1, 1) := by decide +kernel
theorem dX5_takes_86 : decode cX5_takes 86 = .ok (.if_icmp .eq 6, 3) := by decide +kernel
theorem dX5_takes_89 : decode cX5_takes 89 = .ok (.bipush (-2), 2) := by decide +kernel
theorem dX5_takes_91 : decode cX5_takes 91 = .ok (.ireturn, 1) := by decide +kernel
theorem dX5_takes_92 : decode cX5_takes 92 = .ok (.aload_n 0, 1) := by decide +kernel
theorem dX5_takes_93 : decode cX5_takes 93 = .ok (.getfield 7, 3) := by decide +kernel
theorem dX5_takes_96 : decode cX5_takes 96 = .ok (.bipush 8, 2) := by decide +kernel
theorem dX5_takes_98 : decode cX5_takes 98 = .ok (.iaload, 1) := by decide +kernel
theorem dX5_takes_99 : decode cX5_takes 99 = .ok (.bipush 20, 2) := by decide +kernel
theorem dX5_takes_101 : decode cX5_takes 101 = .ok (.if_icmp .ne 6, 3) := by decide +kernel
theorem dX5_takes_104 : decode cX5_takes 104 = .ok (.bipush (-3), 2) := by decide +kernel
theorem dX5_takes_106 : decode cX5_takes 106 = .ok (.ireturn, 1) := by decide +kernel
theorem dX5_takes_107 : decode cX5_takes 107 = .ok (.aload_n 0, 1) := by decide +kernel
theorem dX5_takes_108 : decode cX5_takes 108 = .ok (.invokevirtual 68, 3) := by decide +kernel
theorem dX5_takes_111 : decode cX5_takes 111 = .ok (.bipush 11, 2) := by decide +kernel
theorem dX5_takes_113 : decode cX5_takes 113 = .ok (.iconst 3, 1) := by decide +kernel
theorem dX5_takes_114 : decode cX5_takes 114 = .ok (.aload_n 0, 1) := by decide +kernel
theorem dX5_takes_115 : decode cX5_takes 115 = .ok (.getfield 7, 3) := by decide +kernel
theorem dX5_takes_118 : decode cX5_takes 118 = .ok (.bipush 8, 2) := by decide +kernel
theorem dX5_takes_120 : decode cX5_takes 120 = .ok (.iaload, 1) := by decide +kernel
theorem dX5_takes_121 : decode cX5_takes 121 = .ok (.imul, 1) := by decide +kernel
theorem dX5_takes_122 : decode cX5_takes 122 = .ok (.iadd, 1) := by decide +kernel
theorem dX5_takes_123 : decode cX5_takes 123 = .ok (.istore 5, 2) := by decide +kernel
theorem dX5_takes_125 : decode cX5_takes 125 = .ok (.aload_n 0, 1) := by decide +kernel
theorem dX5_takes_126 : decode cX5_takes 126 = .ok (.getfield 7, 3) := by decide +kernel
theorem dX5_takes_129 : decode cX5_takes 129 = .ok (.iload 5, 2) := by decide +kernel
theorem dX5_takes_131 : decode cX5_takes 131 = .ok (.iload_n 1, 1) := by decide +kernel
theorem dX5_takes_132 : decode cX5_takes 132 = .ok (.iastore, 1) := by decide +kernel
theorem dX5_takes_133 : decode cX5_takes 133 = .ok (.aload_n 0, 1) := by decide +kernel
theorem dX5_takes_134 : decode cX5_takes 134 = .ok (.getfield 7, 3) := by decide +kernel
theorem dX5_takes_137 : decode cX5_takes 137 = .ok (.iload 5, 2) := by decide +kernel
theorem dX5_takes_139 : decode cX5_takes 139 = .ok (.iconst 1, 1) := by decide +kernel
theorem dX5_takes_140 : decode cX5_takes 140 = .ok (.iadd, 1) := by decide +kernel
theorem dX5_takes_141 : decode cX5_takes 141 = .ok (.iload_n 2, 1) := by decide +kernel
theorem dX5_takes_142 : decode cX5_takes 142 = .ok (.iastore, 1) := by decide +kernel
theorem dX5_takes_143 : decode cX5_takes 143 = .ok (.aload_n 0, 1) := by decide +kernel
theorem dX5_takes_144 : decode cX5_takes 144 = .ok (.getfield 7, 3) := by decide +kernel
theorem dX5_takes_147 : decode cX5_takes 147 = .ok (.iload 5, 2) := by decide +kernel
theorem dX5_takes_149 : decode cX5_takes 149 = .ok (.iconst 2, 1) := by decide +kernel
theorem dX5_takes_150 : decode cX5_takes 150 = .ok (.iadd, 1) := by decide +kernel
theorem dX5_takes_151 : decode cX5_takes 151 = .ok (.iload_n 3, 1) := by decide +kernel
theorem dX5_takes_152 : decode cX5_takes 152 = .ok (.iastore, 1) := by decide +kernel
theorem dX5_takes_153 : decode cX5_takes 153 = .ok (.aload_n 0, 1) := by decide +kernel
theorem dX5_takes_154 : decode cX5_takes 154 = .ok (.getfield 7, 3) := by decide +kernel
theorem dX5_takes_157 : decode cX5_takes 157 = .ok (.bipush 8, 2) := by decide +kernel
theorem dX5_takes_159 : decode cX5_takes 159 = .ok (.dup2, 1) := by decide +kernel
theorem dX5_takes_160 : decode cX5_takes 160 = .ok (.iaload, 1) := by decide +kernel
theorem dX5_takes_161 : decode cX5_takes 161 = .ok (.iconst 1, 1) := by decide +kernel
theorem dX5_takes_162 : decode cX5_takes 162 = .ok (.iadd, 1) := by decide +kernel
theorem dX5_takes_163 : decode cX5_takes 163 = .ok (.iastore, 1) := by decide +kernel
theorem dX5_takes_164 : decode cX5_takes 164 = .ok (.aload_n 0, 1) := by decide +kernel
theorem dX5_takes_165 : decode cX5_takes 165 = .ok (.getfield 7, 3) := by decide +kernel
theorem dX5_takes_168 : decode cX5_takes 168 = .ok (.bipush 8, 2) := by decide +kernel
theorem dX5_takes_170 : decode cX5_takes 170 = .ok (.iaload, 1) := by decide +kernel
theorem dX5_takes_171 : decode cX5_takes 171 = .ok (.ireturn, 1) := by decide +kernel
def t_X5_takes_107 : am_T := tb_aload 0 <|
  tb_callV 5 sp_X5_changes 1 <|
  tb_const 11 <|
  tb_const 3 <|
  tb_aload 0 <|
  tb_getR 5 0 <|
  tb_const 8 <|
  tb_iald <|
  tb_bin (fun x y => x * y) <|
  tb_bin (fun x y => x + y) <|
  tb_istore 5 <|
  tb_aload 0 <|
  tb_getR 5 0 <|
  tb_iload 5 <|
  tb_iload 1 <|
  tb_iast <|
  tb_aload 0 <|
  tb_getR 5 0 <|
  tb_iload 5 <|
  tb_const 1 <|
  tb_bin (fun x y => x + y) <|
  tb_iload 2 <|
  tb_iast <|
  tb_aload 0 <|
  tb_getR 5 0 <|
  tb_iload 5 <|
  tb_const 2 <|
  tb_bin (fun x y => x + y) <|
  tb_iload 3 <|
  tb_iast <|
  tb_aload 0 <|
  tb_getR 5 0 <|
  tb_const 8 <|
  tb_dup2 <|
  tb_iald <|
  tb_const 1 <|
  tb_bin (fun x y => x + y) <|
  tb_iast <|
  tb_aload 0 <|
  tb_getR 5 0 <|
  tb_const 8 <|
  tb_iald <|
  tb_iret
def t_X5_takes_92 : am_T := tb_aload 0 <|
  tb_getR 5 0 <|
  tb_const 8 <|
  tb_iald <|
  tb_const 20 <|
  tb_ic (fun x y => x ≠ y) (t_X5_takes_107) <|
  tb_const (-3) <|
  tb_iret
def t_X5_takes_89 : am_T := tb_const (-2) <|
  tb_iret
def t_X5_takes_76 : am_T := tb_iload 4 <|
  tb_const (-4) <|
  tb_ic (fun x y => x = y) (t_X5_takes_92) <|
  tb_iload 4 <|
  tb_iload 1 <|
  tb_ic (fun x y => x = y) (t_X5_takes_92) <|
  t_X5_takes_89
def t_X5_takes_32 : am_T := tb_aload 0 <|
  tb_getR 5 0 <|
  tb_iload 2 <|
  tb_iload 3 <|
  tb_callS sp_X5_holder 3 <|
  tb_istore 4 <|
  tb_aload 0 <|
  tb_getR 5 0 <|
  tb_const 8 <|
  tb_iald <|
  tb_if (fun x => x ≤ 0) (t_X5_takes_76) <|
  tb_iload 3 <|
  tb_aload 0 <|
  tb_getR 5 0 <|
  tb_const 11 <|
  tb_const 3 <|
  tb_aload 0 <|
  tb_getR 5 0 <|
  tb_const 8 <|
  tb_iald <|
  tb_bin (fun x y => x * y) <|
  tb_bin (fun x y => x + y) <|
  tb_const 1 <|
  tb_bin (fun x y => x - y) <|
  tb_iald <|
  tb_ic (fun x y => x < y) (t_X5_takes_89) <|
  t_X5_takes_76
def t_X5_takes_30 : am_T := tb_const (-1) <|
  tb_iret
def t_X5_takes_0 : am_T := tb_iload 1 <|
  tb_const 0 <|
  tb_const 11 <|
  tb_callS sp_X5_in 3 <|
  tb_if (fun x => x = 0) (t_X5_takes_30) <|
  tb_iload 2 <|
  tb_const 0 <|
  tb_const 15 <|
  tb_callS sp_X5_in 3 <|
  tb_if (fun x => x = 0) (t_X5_takes_30) <|
  tb_iload 3 <|
  tb_const 0 <|
  tb_const (100000) <|
  tb_callS sp_X5_in 3 <|
  tb_if (fun x => x ≠ 0) (t_X5_takes_32) <|
  t_X5_takes_30
def h_X5_takes : am_Hd := fun h => if h = 0 then t_X5_takes_0 else tb_bad
theorem h_X5_takes_0 : h_X5_takes 0 = t_X5_takes_0 := rfl
def rm_X5_takes : Room := { frames := 2, cells := 0, slots := 0, locals := 49 }
def sp_X5_takes : am_sp := fun as M Q => as.length ≤ 6 ∧ am_OK h_X5_takes Q 0 (am_in 6 as) M
theorem s_X5_takes_107 {G : am_G} {bc bs : Nat} (X : am_Cx G cX5_takes RX5 "takes" rm_X5_takes (some .int) 6 bc bs true) : am_S G 107 (t_X5_takes_107) := by
  unfold t_X5_takes_107
  refine as_aload_n (pc := 107) X dX5_takes_107 rfl ?_
  refine as_callV (ci := 5) (np := 0) (ix := 68) (pc := 108) X ct_X5_changes (Cn := (RX5, TX5, 21)) rfl ⟨rfl, rfl⟩ aw_816 aw_818 aw_26 aw_819 aw_65 (by decide +kernel) (by decide) dX5_takes_108 ?_
  refine as_bipush (pc := 111) X dX5_takes_111 (by decide) ?_
  refine as_iconst (pc := 113) X dX5_takes_113 (by decide) ?_
  refine as_aload_n (pc := 114) X dX5_takes_114 rfl ?_
  refine as_getR (ci := 5) (j := 0) (pc := 115) X (Cn := RX5) (Tf := TX5) (N := 21) rfl rfl (by decide) iw_X5 aw_738 rfl dX5_takes_115 ?_
  refine as_bipush (pc := 118) X dX5_takes_118 (by decide) ?_
  refine as_iald (pc := 120) X dX5_takes_120 ?_
  refine as_imul (pc := 121) X dX5_takes_121 ?_
  refine as_iadd (pc := 122) X dX5_takes_122 ?_
  refine as_istore (pc := 123) X dX5_takes_123 ?_ (by decide)
  refine as_aload_n (pc := 125) X dX5_takes_125 rfl ?_
  refine as_getR (ci := 5) (j := 0) (pc := 126) X (Cn := RX5) (Tf := TX5) (N := 21) rfl rfl (by decide) iw_X5 aw_738 rfl dX5_takes_126 ?_
  refine as_iload (pc := 129) X dX5_takes_129 ?_
  refine as_iload_n (pc := 131) X dX5_takes_131 rfl ?_
  refine as_iast (pc := 132) X dX5_takes_132 ?_
  refine as_aload_n (pc := 133) X dX5_takes_133 rfl ?_
  refine as_getR (ci := 5) (j := 0) (pc := 134) X (Cn := RX5) (Tf := TX5) (N := 21) rfl rfl (by decide) iw_X5 aw_738 rfl dX5_takes_134 ?_
  refine as_iload (pc := 137) X dX5_takes_137 ?_
  refine as_iconst (pc := 139) X dX5_takes_139 (by decide) ?_
  refine as_iadd (pc := 140) X dX5_takes_140 ?_
  refine as_iload_n (pc := 141) X dX5_takes_141 rfl ?_
  refine as_iast (pc := 142) X dX5_takes_142 ?_
  refine as_aload_n (pc := 143) X dX5_takes_143 rfl ?_
  refine as_getR (ci := 5) (j := 0) (pc := 144) X (Cn := RX5) (Tf := TX5) (N := 21) rfl rfl (by decide) iw_X5 aw_738 rfl dX5_takes_144 ?_
  refine as_iload (pc := 147) X dX5_takes_147 ?_
  refine as_iconst (pc := 149) X dX5_takes_149 (by decide) ?_
  refine as_iadd (pc := 150) X dX5_takes_150 ?_
  refine as_iload_n (pc := 151) X dX5_takes_151 rfl ?_
  refine as_iast (pc := 152) X dX5_takes_152 ?_
  refine as_aload_n (pc := 153) X dX5_takes_153 rfl ?_
  refine as_getR (ci := 5) (j := 0) (pc := 154) X (Cn := RX5) (Tf := TX5) (N := 21) rfl rfl (by decide) iw_X5 aw_738 rfl dX5_takes_154 ?_
  refine as_bipush (pc := 157) X dX5_takes_157 (by decide) ?_
  refine as_dup2 (pc := 159) X dX5_takes_159 ?_
  refine as_iald (pc := 160) X dX5_takes_160 ?_
  refine as_iconst (pc := 161) X dX5_takes_161 (by decide) ?_
  refine as_iadd (pc := 162) X dX5_takes_162 ?_
  refine as_iast (pc := 163) X dX5_takes_163 ?_
  refine as_aload_n (pc := 164) X dX5_takes_164 rfl ?_
  refine as_getR (ci := 5) (j := 0) (pc := 165) X (Cn := RX5) (Tf := TX5) (N := 21) rfl rfl (by decide) iw_X5 aw_738 rfl dX5_takes_165 ?_
  refine as_bipush (pc := 168) X dX5_takes_168 (by decide) ?_
  refine as_iald (pc := 170) X dX5_takes_170 ?_
  exact as_iret (pc := 171) X ⟨rfl, rfl⟩ rfl dX5_takes_171
theorem s_X5_takes_92 {G : am_G} {bc bs : Nat} (X : am_Cx G cX5_takes RX5 "takes" rm_X5_takes (some .int) 6 bc bs true) : am_S G 92 (t_X5_takes_92) := by
  unfold t_X5_takes_92
  refine as_aload_n (pc := 92) X dX5_takes_92 rfl ?_
  refine as_getR (ci := 5) (j := 0) (pc := 93) X (Cn := RX5) (Tf := TX5) (N := 21) rfl rfl (by decide) iw_X5 aw_738 rfl dX5_takes_93 ?_
  refine as_bipush (pc := 96) X dX5_takes_96 (by decide) ?_
  refine as_iald (pc := 98) X dX5_takes_98 ?_
  refine as_bipush (pc := 99) X dX5_takes_99 (by decide) ?_
  refine as_ic_ne (pc := 101) X 107 dX5_takes_101 (by decide) (s_X5_takes_107 X) ?_
  refine as_bipush (pc := 104) X dX5_takes_104 (by decide) ?_
  exact as_iret (pc := 106) X ⟨rfl, rfl⟩ rfl dX5_takes_106
theorem s_X5_takes_89 {G : am_G} {bc bs : Nat} (X : am_Cx G cX5_takes RX5 "takes" rm_X5_takes (some .int) 6 bc bs true) : am_S G 89 (t_X5_takes_89) := by
  unfold t_X5_takes_89
  refine as_bipush (pc := 89) X dX5_takes_89 (by decide) ?_
  exact as_iret (pc := 91) X ⟨rfl, rfl⟩ rfl dX5_takes_91
theorem s_X5_takes_76 {G : am_G} {bc bs : Nat} (X : am_Cx G cX5_takes RX5 "takes" rm_X5_takes (some .int) 6 bc bs true) : am_S G 76 (t_X5_takes_76) := by
  unfold t_X5_takes_76
  refine as_iload (pc := 76) X dX5_takes_76 ?_
  refine as_bipush (pc := 78) X dX5_takes_78 (by decide) ?_
  refine as_ic_eq (pc := 80) X 92 dX5_takes_80 (by decide) (s_X5_takes_92 X) ?_
  refine as_iload (pc := 83) X dX5_takes_83 ?_
  refine as_iload_n (pc := 85) X dX5_takes_85 rfl ?_
  refine as_ic_eq (pc := 86) X 92 dX5_takes_86 (by decide) (s_X5_takes_92 X) ?_
  exact s_X5_takes_89 X
theorem s_X5_takes_32 {G : am_G} {bc bs : Nat} (X : am_Cx G cX5_takes RX5 "takes" rm_X5_takes (some .int) 6 bc bs true) : am_S G 32 (t_X5_takes_32) := by
  unfold t_X5_takes_32
  refine as_aload_n (pc := 32) X dX5_takes_32 rfl ?_
  refine as_getR (ci := 5) (j := 0) (pc := 33) X (Cn := RX5) (Tf := TX5) (N := 21) rfl rfl (by decide) iw_X5 aw_738 rfl dX5_takes_33 ?_
  refine as_iload_n (pc := 36) X dX5_takes_36 rfl ?_
  refine as_iload_n (pc := 37) X dX5_takes_37 rfl ?_
  refine as_callS (np := 3) (ix := 65) (pc := 38) X ct_X5_holder ⟨rfl, rfl⟩ aw_810 aw_811 aw_812 aw_65 (by decide +kernel) (by decide) dX5_takes_38 ?_
  refine as_istore (pc := 41) X dX5_takes_41 ?_ (by decide)
  refine as_aload_n (pc := 43) X dX5_takes_43 rfl ?_
  refine as_getR (ci := 5) (j := 0) (pc := 44) X (Cn := RX5) (Tf := TX5) (N := 21) rfl rfl (by decide) iw_X5 aw_738 rfl dX5_takes_44 ?_
  refine as_bipush (pc := 47) X dX5_takes_47 (by decide) ?_
  refine as_iald (pc := 49) X dX5_takes_49 ?_
  refine as_if_le (pc := 50) X 76 dX5_takes_50 (by decide) (s_X5_takes_76 X) ?_
  refine as_iload_n (pc := 53) X dX5_takes_53 rfl ?_
  refine as_aload_n (pc := 54) X dX5_takes_54 rfl ?_
  refine as_getR (ci := 5) (j := 0) (pc := 55) X (Cn := RX5) (Tf := TX5) (N := 21) rfl rfl (by decide) iw_X5 aw_738 rfl dX5_takes_55 ?_
  refine as_bipush (pc := 58) X dX5_takes_58 (by decide) ?_
  refine as_iconst (pc := 60) X dX5_takes_60 (by decide) ?_
  refine as_aload_n (pc := 61) X dX5_takes_61 rfl ?_
  refine as_getR (ci := 5) (j := 0) (pc := 62) X (Cn := RX5) (Tf := TX5) (N := 21) rfl rfl (by decide) iw_X5 aw_738 rfl dX5_takes_62 ?_
  refine as_bipush (pc := 65) X dX5_takes_65 (by decide) ?_
  refine as_iald (pc := 67) X dX5_takes_67 ?_
  refine as_imul (pc := 68) X dX5_takes_68 ?_
  refine as_iadd (pc := 69) X dX5_takes_69 ?_
  refine as_iconst (pc := 70) X dX5_takes_70 (by decide) ?_
  refine as_isub (pc := 71) X dX5_takes_71 ?_
  refine as_iald (pc := 72) X dX5_takes_72 ?_
  refine as_ic_lt (pc := 73) X 89 dX5_takes_73 (by decide) (s_X5_takes_89 X) ?_
  exact s_X5_takes_76 X
theorem s_X5_takes_30 {G : am_G} {bc bs : Nat} (X : am_Cx G cX5_takes RX5 "takes" rm_X5_takes (some .int) 6 bc bs true) : am_S G 30 (t_X5_takes_30) := by
  unfold t_X5_takes_30
  refine as_iconst (pc := 30) X dX5_takes_30 (by decide) ?_
  exact as_iret (pc := 31) X ⟨rfl, rfl⟩ rfl dX5_takes_31
theorem s_X5_takes_0 {G : am_G} {bc bs : Nat} (X : am_Cx G cX5_takes RX5 "takes" rm_X5_takes (some .int) 6 bc bs true) : am_S G 0 (t_X5_takes_0) := by
  unfold t_X5_takes_0
  refine as_iload_n (pc := 0) X dX5_takes_0 rfl ?_
  refine as_iconst (pc := 1) X dX5_takes_1 (by decide) ?_
  refine as_bipush (pc := 2) X dX5_takes_2 (by decide) ?_
  refine as_callS (np := 3) (ix := 60) (pc := 4) X ct_X5_in ⟨rfl, rfl⟩ aw_806 aw_807 aw_808 aw_65 (by decide +kernel) (by decide) dX5_takes_4 ?_
  refine as_if_eq (pc := 7) X 30 dX5_takes_7 (by decide) (s_X5_takes_30 X) ?_
  refine as_iload_n (pc := 10) X dX5_takes_10 rfl ?_
  refine as_iconst (pc := 11) X dX5_takes_11 (by decide) ?_
  refine as_bipush (pc := 12) X dX5_takes_12 (by decide) ?_
  refine as_callS (np := 3) (ix := 60) (pc := 14) X ct_X5_in ⟨rfl, rfl⟩ aw_806 aw_807 aw_808 aw_65 (by decide +kernel) (by decide) dX5_takes_14 ?_
  refine as_if_eq (pc := 17) X 30 dX5_takes_17 (by decide) (s_X5_takes_30 X) ?_
  refine as_iload_n (pc := 20) X dX5_takes_20 rfl ?_
  refine as_iconst (pc := 21) X dX5_takes_21 (by decide) ?_
  refine as_ldc (pc := 22) X dX5_takes_22 aw_809 ?_
  refine as_callS (np := 3) (ix := 60) (pc := 24) X ct_X5_in ⟨rfl, rfl⟩ aw_806 aw_807 aw_808 aw_65 (by decide +kernel) (by decide) dX5_takes_24 ?_
  refine as_if_ne (pc := 27) X 32 dX5_takes_27 (by decide) (s_X5_takes_32 X) ?_
  exact s_X5_takes_30 X
theorem s_X5_takes {G : am_G} {bc bs : Nat} (X : am_Cx G cX5_takes RX5 "takes" rm_X5_takes (some .int) 6 bc bs true) (h : Nat) : am_S G h (h_X5_takes h) := by
  unfold h_X5_takes
  split
  · next e => rw [e]; exact s_X5_takes_0 X
  exact as_bad
theorem ct_X5_takes : am_Ct yX5_takes cX5_takes 6 (some .int) rm_X5_takes sp_X5_takes := am_met (own := RX5) (nm := "takes") (by decide) rfl rfl (Or.inr (Or.inl rfl)) (fun _ _ => h_X5_takes) (fun _ _ _ X => s_X5_takes X) (fun _ _ _ _ h => h)
-- X4_orNotFound
theorem dX4_orNotFound_0 : decode cX4_orNotFound 0 = .ok (.iload_n 0, 1) := by decide +kernel
theorem dX4_orNotFound_1 : decode cX4_orNotFound 1 = .ok (.iconst (-1), 1) := by decide +kernel
theorem dX4_orNotFound_2 : decode cX4_orNotFound 2 = .ok (.if_icmp .ne 8, 3) := by decide +kernel
theorem dX4_orNotFound_5 : decode cX4_orNotFound 5 = .ok (.bipush (-4), 2) := by decide +kernel
theorem dX4_orNotFound_7 : decode cX4_orNotFound 7 = .ok (.goto 4, 3) := by decide +kernel
theorem dX4_orNotFound_10 : decode cX4_orNotFound 10 = .ok (.iload_n 0, 1) := by decide +kernel
theorem dX4_orNotFound_11 : decode cX4_orNotFound 11 = .ok (.ireturn, 1) := by decide +kernel
def t_X4_orNotFound_11 : am_T := tb_iret
def t_X4_orNotFound_10 : am_T := tb_iload 0 <|
  t_X4_orNotFound_11
def t_X4_orNotFound_0 : am_T := tb_iload 0 <|
  tb_const (-1) <|
  tb_ic (fun x y => x ≠ y) (t_X4_orNotFound_10) <|
  tb_const (-4) <|
  t_X4_orNotFound_11
def h_X4_orNotFound : am_Hd := fun h => if h = 0 then t_X4_orNotFound_0 else tb_bad
theorem h_X4_orNotFound_0 : h_X4_orNotFound 0 = t_X4_orNotFound_0 := rfl
def rm_X4_orNotFound : Room := { frames := 0, cells := 0, slots := 0, locals := 0 }
def sp_X4_orNotFound : am_sp := fun as M Q => as.length ≤ 1 ∧ am_OK h_X4_orNotFound Q 0 (am_in 1 as) M
theorem s_X4_orNotFound_11 {G : am_G} {bc bs : Nat} (X : am_Cx G cX4_orNotFound RX4 "orNotFound" rm_X4_orNotFound (some .int) 1 bc bs true) : am_S G 11 (t_X4_orNotFound_11) := by
  unfold t_X4_orNotFound_11
  exact as_iret (pc := 11) X ⟨rfl, rfl⟩ rfl dX4_orNotFound_11
theorem s_X4_orNotFound_10 {G : am_G} {bc bs : Nat} (X : am_Cx G cX4_orNotFound RX4 "orNotFound" rm_X4_orNotFound (some .int) 1 bc bs true) : am_S G 10 (t_X4_orNotFound_10) := by
  unfold t_X4_orNotFound_10
  refine as_iload_n (pc := 10) X dX4_orNotFound_10 rfl ?_
  exact s_X4_orNotFound_11 X
theorem s_X4_orNotFound_0 {G : am_G} {bc bs : Nat} (X : am_Cx G cX4_orNotFound RX4 "orNotFound" rm_X4_orNotFound (some .int) 1 bc bs true) : am_S G 0 (t_X4_orNotFound_0) := by
  unfold t_X4_orNotFound_0
  refine as_iload_n (pc := 0) X dX4_orNotFound_0 rfl ?_
  refine as_iconst (pc := 1) X dX4_orNotFound_1 (by decide) ?_
  refine as_ic_ne (pc := 2) X 10 dX4_orNotFound_2 (by decide) (s_X4_orNotFound_10 X) ?_
  refine as_bipush (pc := 5) X dX4_orNotFound_5 (by decide) ?_
  exact as_goto (pc := 7) X 11 dX4_orNotFound_7 (by decide) (s_X4_orNotFound_11 X)
theorem s_X4_orNotFound {G : am_G} {bc bs : Nat} (X : am_Cx G cX4_orNotFound RX4 "orNotFound" rm_X4_orNotFound (some .int) 1 bc bs true) (h : Nat) : am_S G h (h_X4_orNotFound h) := by
  unfold h_X4_orNotFound
  split
  · next e => rw [e]; exact s_X4_orNotFound_0 X
  exact as_bad
theorem ct_X4_orNotFound : am_Ct yX4_orNotFound cX4_orNotFound 1 (some .int) rm_X4_orNotFound sp_X4_orNotFound := am_met (own := RX4) (nm := "orNotFound") (by decide) rfl rfl (Or.inr (Or.inl rfl)) (fun _ _ => h_X4_orNotFound) (fun _ _ _ X => s_X4_orNotFound X) (fun _ _ _ _ h => h)
-- X4_nameOf
theorem dX4_nameOf_0 : decode cX4_nameOf 0 = .ok (.iload_n 1, 1) := by decide +kernel
theorem dX4_nameOf_1 : decode cX4_nameOf 1 = .ok (.invokestatic 45, 3) := by decide +kernel
theorem dX4_nameOf_4 : decode cX4_nameOf 4 = .ok (.ifCond .eq 10, 3) := by decide +kernel
theorem dX4_nameOf_7 : decode cX4_nameOf 7 = .ok (.iload_n 2, 1) := by decide +kernel
theorem dX4_nameOf_8 : decode cX4_nameOf 8 = .ok (.invokestatic 52, 3) := by decide +kernel
theorem dX4_nameOf_11 : decode cX4_nameOf 11 = .ok (.ifCond .ne 5, 3) := by decide +kernel
theorem dX4_nameOf_14 : decode cX4_nameOf 14 = .ok (.iconst (-1), 1) := by decide +kernel
theorem dX4_nameOf_15 : decode cX4_nameOf 15 = .ok (.ireturn, 1) := by decide +kernel
theorem dX4_nameOf_16 : decode cX4_nameOf 16 = .ok (.aload_n 0, 1) := by decide +kernel
theorem dX4_nameOf_17 : decode cX4_nameOf 17 = .ok (.getfield 20, 3) := by decide +kernel
theorem dX4_nameOf_20 : decode cX4_nameOf 20 = .ok (.iload_n 1, 1) := by decide +kernel
theorem dX4_nameOf_21 : decode cX4_nameOf 21 = .ok (.iload_n 2, 1) := by decide +kernel
theorem dX4_nameOf_22 : decode cX4_nameOf 22 = .ok (.invokevirtual 76, 3) := by decide +kernel
theorem dX4_nameOf_25 : decode cX4_nameOf 25 = .ok (.invokestatic 79, 3) := by decide +kernel
theorem dX4_nameOf_28 : decode cX4_nameOf 28 = .ok (.ireturn, 1) := by decide +kernel
def t_X4_nameOf_16 : am_T := tb_aload 0 <|
  tb_getR 4 1 <|
  tb_iload 1 <|
  tb_iload 2 <|
  tb_callV 1 sp_X1_nameAt 3 <|
  tb_callS sp_X4_orNotFound 1 <|
  tb_iret
def t_X4_nameOf_14 : am_T := tb_const (-1) <|
  tb_iret
def t_X4_nameOf_0 : am_T := tb_iload 1 <|
  tb_callS sp_X4_isPerson 1 <|
  tb_if (fun x => x = 0) (t_X4_nameOf_14) <|
  tb_iload 2 <|
  tb_callS sp_X4_isTime 1 <|
  tb_if (fun x => x ≠ 0) (t_X4_nameOf_16) <|
  t_X4_nameOf_14
def h_X4_nameOf : am_Hd := fun h => if h = 0 then t_X4_nameOf_0 else tb_bad
theorem h_X4_nameOf_0 : h_X4_nameOf 0 = t_X4_nameOf_0 := rfl
def rm_X4_nameOf : Room := { frames := 1, cells := 0, slots := 0, locals := 23 }
def sp_X4_nameOf : am_sp := fun as M Q => as.length ≤ 3 ∧ am_OK h_X4_nameOf Q 0 (am_in 3 as) M
theorem s_X4_nameOf_16 {G : am_G} {bc bs : Nat} (X : am_Cx G cX4_nameOf RX4 "nameOf" rm_X4_nameOf (some .int) 3 bc bs true) : am_S G 16 (t_X4_nameOf_16) := by
  unfold t_X4_nameOf_16
  refine as_aload_n (pc := 16) X dX4_nameOf_16 rfl ?_
  refine as_getR (ci := 4) (j := 1) (pc := 17) X (Cn := RX4) (Tf := TX4) (N := 7) rfl rfl (by decide) iw_X4 aw_275 rfl dX4_nameOf_17 ?_
  refine as_iload_n (pc := 20) X dX4_nameOf_20 rfl ?_
  refine as_iload_n (pc := 21) X dX4_nameOf_21 rfl ?_
  refine as_callV (ci := 1) (np := 2) (ix := 76) (pc := 22) X ct_X1_nameAt (Cn := (RX1, TX1, 14)) rfl ⟨rfl, rfl⟩ aw_346 aw_315 aw_316 aw_317 aw_61 (by decide +kernel) (by decide) dX4_nameOf_22 ?_
  refine as_callS (np := 1) (ix := 79) (pc := 25) X ct_X4_orNotFound ⟨rfl, rfl⟩ aw_347 aw_348 aw_349 aw_59 (by decide +kernel) (by decide) dX4_nameOf_25 ?_
  exact as_iret (pc := 28) X ⟨rfl, rfl⟩ rfl dX4_nameOf_28
theorem s_X4_nameOf_14 {G : am_G} {bc bs : Nat} (X : am_Cx G cX4_nameOf RX4 "nameOf" rm_X4_nameOf (some .int) 3 bc bs true) : am_S G 14 (t_X4_nameOf_14) := by
  unfold t_X4_nameOf_14
  refine as_iconst (pc := 14) X dX4_nameOf_14 (by decide) ?_
  exact as_iret (pc := 15) X ⟨rfl, rfl⟩ rfl dX4_nameOf_15
theorem s_X4_nameOf_0 {G : am_G} {bc bs : Nat} (X : am_Cx G cX4_nameOf RX4 "nameOf" rm_X4_nameOf (some .int) 3 bc bs true) : am_S G 0 (t_X4_nameOf_0) := by
  unfold t_X4_nameOf_0
  refine as_iload_n (pc := 0) X dX4_nameOf_0 rfl ?_
  refine as_callS (np := 1) (ix := 45) (pc := 1) X ct_X4_isPerson ⟨rfl, rfl⟩ aw_300 aw_301 aw_302 aw_59 (by decide +kernel) (by decide) dX4_nameOf_1 ?_
  refine as_if_eq (pc := 4) X 14 dX4_nameOf_4 (by decide) (s_X4_nameOf_14 X) ?_
  refine as_iload_n (pc := 7) X dX4_nameOf_7 rfl ?_
  refine as_callS (np := 1) (ix := 52) (pc := 8) X ct_X4_isTime ⟨rfl, rfl⟩ aw_306 aw_307 aw_308 aw_59 (by decide +kernel) (by decide) dX4_nameOf_8 ?_
  refine as_if_ne (pc := 11) X 16 dX4_nameOf_11 (by decide) (s_X4_nameOf_16 X) ?_
  exact s_X4_nameOf_14 X
theorem s_X4_nameOf {G : am_G} {bc bs : Nat} (X : am_Cx G cX4_nameOf RX4 "nameOf" rm_X4_nameOf (some .int) 3 bc bs true) (h : Nat) : am_S G h (h_X4_nameOf h) := by
  unfold h_X4_nameOf
  split
  · next e => rw [e]; exact s_X4_nameOf_0 X
  exact as_bad
theorem ct_X4_nameOf : am_Ct yX4_nameOf cX4_nameOf 3 (some .int) rm_X4_nameOf sp_X4_nameOf := am_met (own := RX4) (nm := "nameOf") (by decide) rfl rfl (Or.inr (Or.inl rfl)) (fun _ _ => h_X4_nameOf) (fun _ _ _ X => s_X4_nameOf X) (fun _ _ _ _ h => h)
-- X5_nameOf
theorem dX5_nameOf_0 : decode cX5_nameOf 0 = .ok (.iload_n 1, 1) := by decide +kernel
theorem dX5_nameOf_1 : decode cX5_nameOf 1 = .ok (.iconst 0, 1) := by decide +kernel
theorem dX5_nameOf_2 : decode cX5_nameOf 2 = .ok (.bipush 11, 2) := by decide +kernel
theorem dX5_nameOf_4 : decode cX5_nameOf 4 = .ok (.invokestatic 60, 3) := by decide +kernel
theorem dX5_nameOf_7 : decode cX5_nameOf 7 = .ok (.ifCond .eq 25, 3) := by decide +kernel
theorem dX5_nameOf_10 : decode cX5_nameOf 10 = .ok (.iload_n 2, 1) := by decide +kernel
theorem dX5_nameOf_11 : decode cX5_nameOf 11 = .ok (.iconst 0, 1) := by decide +kernel
theorem dX5_nameOf_12 : decode cX5_nameOf 12 = .ok (.ldc 64, 2) := by decide +kernel
theorem dX5_nameOf_14 : decode cX5_nameOf 14 = .ok (.invokestatic 60, 3) := by decide +kernel
theorem dX5_nameOf_17 : decode cX5_nameOf 17 = .ok (.ifCond .eq 15, 3) := by decide +kernel
theorem dX5_nameOf_20 : decode cX5_nameOf 20 = .ok (.aload_n 0, 1) := by decide +kernel
theorem dX5_nameOf_21 : decode cX5_nameOf 21 = .ok (.getfield 7, 3) := by decide +kernel
theorem dX5_nameOf_24 : decode cX5_nameOf 24 = .ok (.iload_n 1, 1) := by decide +kernel
theorem dX5_nameOf_25 : decode cX5_nameOf 25 = .ok (.iload_n 2, 1) := by decide +kernel
theorem dX5_nameOf_26 : decode cX5_nameOf 26 = .ok (.invokestatic 56, 3) := by decide +kernel
theorem dX5_nameOf_29 : decode cX5_nameOf 29 = .ok (.goto 4, 3) := by decide +kernel
theorem dX5_nameOf_32 : decode cX5_nameOf 32 = .ok (.iconst (-1), 1) := by decide +kernel
theorem dX5_nameOf_33 : decode cX5_nameOf 33 = .ok (.ireturn, 1) := by decide +kernel
def t_X5_nameOf_33 : am_T := tb_iret
def t_X5_nameOf_32 : am_T := tb_const (-1) <|
  t_X5_nameOf_33
def t_X5_nameOf_0 : am_T := tb_iload 1 <|
  tb_const 0 <|
  tb_const 11 <|
  tb_callS sp_X5_in 3 <|
  tb_if (fun x => x = 0) (t_X5_nameOf_32) <|
  tb_iload 2 <|
  tb_const 0 <|
  tb_const (100000) <|
  tb_callS sp_X5_in 3 <|
  tb_if (fun x => x = 0) (t_X5_nameOf_32) <|
  tb_aload 0 <|
  tb_getR 5 0 <|
  tb_iload 1 <|
  tb_iload 2 <|
  tb_callS sp_X5_nameAt 3 <|
  t_X5_nameOf_33
def h_X5_nameOf : am_Hd := fun h => if h = 0 then t_X5_nameOf_0 else tb_bad
theorem h_X5_nameOf_0 : h_X5_nameOf 0 = t_X5_nameOf_0 := rfl
def rm_X5_nameOf : Room := { frames := 1, cells := 0, slots := 0, locals := 25 }
def sp_X5_nameOf : am_sp := fun as M Q => as.length ≤ 3 ∧ am_OK h_X5_nameOf Q 0 (am_in 3 as) M
theorem s_X5_nameOf_33 {G : am_G} {bc bs : Nat} (X : am_Cx G cX5_nameOf RX5 "nameOf" rm_X5_nameOf (some .int) 3 bc bs true) : am_S G 33 (t_X5_nameOf_33) := by
  unfold t_X5_nameOf_33
  exact as_iret (pc := 33) X ⟨rfl, rfl⟩ rfl dX5_nameOf_33
theorem s_X5_nameOf_32 {G : am_G} {bc bs : Nat} (X : am_Cx G cX5_nameOf RX5 "nameOf" rm_X5_nameOf (some .int) 3 bc bs true) : am_S G 32 (t_X5_nameOf_32) := by
  unfold t_X5_nameOf_32
  refine as_iconst (pc := 32) X dX5_nameOf_32 (by decide) ?_
  exact s_X5_nameOf_33 X
theorem s_X5_nameOf_0 {G : am_G} {bc bs : Nat} (X : am_Cx G cX5_nameOf RX5 "nameOf" rm_X5_nameOf (some .int) 3 bc bs true) : am_S G 0 (t_X5_nameOf_0) := by
  unfold t_X5_nameOf_0
  refine as_iload_n (pc := 0) X dX5_nameOf_0 rfl ?_
  refine as_iconst (pc := 1) X dX5_nameOf_1 (by decide) ?_
  refine as_bipush (pc := 2) X dX5_nameOf_2 (by decide) ?_
  refine as_callS (np := 3) (ix := 60) (pc := 4) X ct_X5_in ⟨rfl, rfl⟩ aw_806 aw_807 aw_808 aw_65 (by decide +kernel) (by decide) dX5_nameOf_4 ?_
  refine as_if_eq (pc := 7) X 32 dX5_nameOf_7 (by decide) (s_X5_nameOf_32 X) ?_
  refine as_iload_n (pc := 10) X dX5_nameOf_10 rfl ?_
  refine as_iconst (pc := 11) X dX5_nameOf_11 (by decide) ?_
  refine as_ldc (pc := 12) X dX5_nameOf_12 aw_809 ?_
  refine as_callS (np := 3) (ix := 60) (pc := 14) X ct_X5_in ⟨rfl, rfl⟩ aw_806 aw_807 aw_808 aw_65 (by decide +kernel) (by decide) dX5_nameOf_14 ?_
  refine as_if_eq (pc := 17) X 32 dX5_nameOf_17 (by decide) (s_X5_nameOf_32 X) ?_
  refine as_aload_n (pc := 20) X dX5_nameOf_20 rfl ?_
  refine as_getR (ci := 5) (j := 0) (pc := 21) X (Cn := RX5) (Tf := TX5) (N := 21) rfl rfl (by decide) iw_X5 aw_738 rfl dX5_nameOf_21 ?_
  refine as_iload_n (pc := 24) X dX5_nameOf_24 rfl ?_
  refine as_iload_n (pc := 25) X dX5_nameOf_25 rfl ?_
  refine as_callS (np := 3) (ix := 56) (pc := 26) X ct_X5_nameAt ⟨rfl, rfl⟩ aw_813 aw_814 aw_815 aw_65 (by decide +kernel) (by decide) dX5_nameOf_26 ?_
  exact as_goto (pc := 29) X 33 dX5_nameOf_29 (by decide) (s_X5_nameOf_33 X)
theorem s_X5_nameOf {G : am_G} {bc bs : Nat} (X : am_Cx G cX5_nameOf RX5 "nameOf" rm_X5_nameOf (some .int) 3 bc bs true) (h : Nat) : am_S G h (h_X5_nameOf h) := by
  unfold h_X5_nameOf
  split
  · next e => rw [e]; exact s_X5_nameOf_0 X
  exact as_bad
theorem ct_X5_nameOf : am_Ct yX5_nameOf cX5_nameOf 3 (some .int) rm_X5_nameOf sp_X5_nameOf := am_met (own := RX5) (nm := "nameOf") (by decide) rfl rfl (Or.inr (Or.inl rfl)) (fun _ _ => h_X5_nameOf) (fun _ _ _ X => s_X5_nameOf X) (fun _ _ _ _ h => h)
-- X4_whoHas
theorem dX4_whoHas_0 : decode cX4_whoHas 0 = .ok (.iload_n 1, 1) := by decide +kernel
theorem dX4_whoHas_1 : decode cX4_whoHas 1 = .ok (.invokestatic 49, 3) := by decide +kernel
theorem dX4_whoHas_4 : decode cX4_whoHas 4 = .ok (.ifCond .eq 10, 3) := by decide +kernel
theorem dX4_whoHas_7 : decode cX4_whoHas 7 = .ok (.iload_n 2, 1) := by decide +kernel
theorem dX4_whoHas_8 : decode cX4_whoHas 8 = .ok (.invokestatic 52, 3) := by decide +kernel
theorem dX4_whoHas_11 : decode cX4_whoHas 11 = .ok (.ifCond .ne 5, 3) := by decide +kernel
theorem dX4_whoHas_14 : decode cX4_whoHas 14 = .ok (.iconst (-1), 1) := by decide +kernel
theorem dX4_whoHas_15 : decode cX4_whoHas 15 = .ok (.ireturn, 1) := by decide +kernel
theorem dX4_whoHas_16 : decode cX4_whoHas 16 = .ok (.aload_n 0, 1) := by decide +kernel
theorem dX4_whoHas_17 : decode cX4_whoHas 17 = .ok (.getfield 20, 3) := by decide +kernel
theorem dX4_whoHas_20 : decode cX4_whoHas 20 = .ok (.iload_n 1, 1) := by decide +kernel
theorem dX4_whoHas_21 : decode cX4_whoHas 21 = .ok (.iload_n 2, 1) := by decide +kernel
theorem dX4_whoHas_22 : decode cX4_whoHas 22 = .ok (.invokevirtual 55, 3) := by decide +kernel
theorem dX4_whoHas_25 : decode cX4_whoHas 25 = .ok (.invokestatic 79, 3) := by decide +kernel
theorem dX4_whoHas_28 : decode cX4_whoHas 28 = .ok (.ireturn, 1) := by decide +kernel
def t_X4_whoHas_16 : am_T := tb_aload 0 <|
  tb_getR 4 1 <|
  tb_iload 1 <|
  tb_iload 2 <|
  tb_callV 1 sp_X1_holderAt 3 <|
  tb_callS sp_X4_orNotFound 1 <|
  tb_iret
def t_X4_whoHas_14 : am_T := tb_const (-1) <|
  tb_iret
def t_X4_whoHas_0 : am_T := tb_iload 1 <|
  tb_callS sp_X4_isName 1 <|
  tb_if (fun x => x = 0) (t_X4_whoHas_14) <|
  tb_iload 2 <|
  tb_callS sp_X4_isTime 1 <|
  tb_if (fun x => x ≠ 0) (t_X4_whoHas_16) <|
  t_X4_whoHas_14
def h_X4_whoHas : am_Hd := fun h => if h = 0 then t_X4_whoHas_0 else tb_bad
theorem h_X4_whoHas_0 : h_X4_whoHas 0 = t_X4_whoHas_0 := rfl
def rm_X4_whoHas : Room := { frames := 2, cells := 0, slots := 0, locals := 46 }
def sp_X4_whoHas : am_sp := fun as M Q => as.length ≤ 3 ∧ am_OK h_X4_whoHas Q 0 (am_in 3 as) M
theorem s_X4_whoHas_16 {G : am_G} {bc bs : Nat} (X : am_Cx G cX4_whoHas RX4 "whoHas" rm_X4_whoHas (some .int) 3 bc bs true) : am_S G 16 (t_X4_whoHas_16) := by
  unfold t_X4_whoHas_16
  refine as_aload_n (pc := 16) X dX4_whoHas_16 rfl ?_
  refine as_getR (ci := 4) (j := 1) (pc := 17) X (Cn := RX4) (Tf := TX4) (N := 7) rfl rfl (by decide) iw_X4 aw_275 rfl dX4_whoHas_17 ?_
  refine as_iload_n (pc := 20) X dX4_whoHas_20 rfl ?_
  refine as_iload_n (pc := 21) X dX4_whoHas_21 rfl ?_
  refine as_callV (ci := 1) (np := 2) (ix := 55) (pc := 22) X ct_X1_holderAt (Cn := (RX1, TX1, 14)) rfl ⟨rfl, rfl⟩ aw_310 aw_311 aw_312 aw_313 aw_61 (by decide +kernel) (by decide) dX4_whoHas_22 ?_
  refine as_callS (np := 1) (ix := 79) (pc := 25) X ct_X4_orNotFound ⟨rfl, rfl⟩ aw_347 aw_348 aw_349 aw_59 (by decide +kernel) (by decide) dX4_whoHas_25 ?_
  exact as_iret (pc := 28) X ⟨rfl, rfl⟩ rfl dX4_whoHas_28
theorem s_X4_whoHas_14 {G : am_G} {bc bs : Nat} (X : am_Cx G cX4_whoHas RX4 "whoHas" rm_X4_whoHas (some .int) 3 bc bs true) : am_S G 14 (t_X4_whoHas_14) := by
  unfold t_X4_whoHas_14
  refine as_iconst (pc := 14) X dX4_whoHas_14 (by decide) ?_
  exact as_iret (pc := 15) X ⟨rfl, rfl⟩ rfl dX4_whoHas_15
theorem s_X4_whoHas_0 {G : am_G} {bc bs : Nat} (X : am_Cx G cX4_whoHas RX4 "whoHas" rm_X4_whoHas (some .int) 3 bc bs true) : am_S G 0 (t_X4_whoHas_0) := by
  unfold t_X4_whoHas_0
  refine as_iload_n (pc := 0) X dX4_whoHas_0 rfl ?_
  refine as_callS (np := 1) (ix := 49) (pc := 1) X ct_X4_isName ⟨rfl, rfl⟩ aw_303 aw_304 aw_305 aw_59 (by decide +kernel) (by decide) dX4_whoHas_1 ?_
  refine as_if_eq (pc := 4) X 14 dX4_whoHas_4 (by decide) (s_X4_whoHas_14 X) ?_
  refine as_iload_n (pc := 7) X dX4_whoHas_7 rfl ?_
  refine as_callS (np := 1) (ix := 52) (pc := 8) X ct_X4_isTime ⟨rfl, rfl⟩ aw_306 aw_307 aw_308 aw_59 (by decide +kernel) (by decide) dX4_whoHas_8 ?_
  refine as_if_ne (pc := 11) X 16 dX4_whoHas_11 (by decide) (s_X4_whoHas_16 X) ?_
  exact s_X4_whoHas_14 X
theorem s_X4_whoHas {G : am_G} {bc bs : Nat} (X : am_Cx G cX4_whoHas RX4 "whoHas" rm_X4_whoHas (some .int) 3 bc bs true) (h : Nat) : am_S G h (h_X4_whoHas h) := by
  unfold h_X4_whoHas
  split
  · next e => rw [e]; exact s_X4_whoHas_0 X
  exact as_bad
theorem ct_X4_whoHas : am_Ct yX4_whoHas cX4_whoHas 3 (some .int) rm_X4_whoHas sp_X4_whoHas := am_met (own := RX4) (nm := "whoHas") (by decide) rfl rfl (Or.inr (Or.inl rfl)) (fun _ _ => h_X4_whoHas) (fun _ _ _ X => s_X4_whoHas X) (fun _ _ _ _ h => h)
-- X5_whoHas
theorem dX5_whoHas_0 : decode cX5_whoHas 0 = .ok (.iload_n 1, 1) := by decide +kernel
theorem dX5_whoHas_1 : decode cX5_whoHas 1 = .ok (.iconst 0, 1) := by decide +kernel
theorem dX5_whoHas_2 : decode cX5_whoHas 2 = .ok (.bipush 15, 2) := by decide +kernel
theorem dX5_whoHas_4 : decode cX5_whoHas 4 = .ok (.invokestatic 60, 3) := by decide +kernel
theorem dX5_whoHas_7 : decode cX5_whoHas 7 = .ok (.ifCond .eq 25, 3) := by decide +kernel
theorem dX5_whoHas_10 : decode cX5_whoHas 10 = .ok (.iload_n 2, 1) := by decide +kernel
theorem dX5_whoHas_11 : decode cX5_whoHas 11 = .ok (.iconst 0, 1) := by decide +kernel
theorem dX5_whoHas_12 : decode cX5_whoHas 12 = .ok (.ldc 64, 2) := by decide +kernel
theorem dX5_whoHas_14 : decode cX5_whoHas 14 = .ok (.invokestatic 60, 3) := by decide +kernel
theorem dX5_whoHas_17 : decode cX5_whoHas 17 = .ok (.ifCond .eq 15, 3) := by decide +kernel
theorem dX5_whoHas_20 : decode cX5_whoHas 20 = .ok (.aload_n 0, 1) := by decide +kernel
theorem dX5_whoHas_21 : decode cX5_whoHas 21 = .ok (.getfield 7, 3) := by decide +kernel
theorem dX5_whoHas_24 : decode cX5_whoHas 24 = .ok (.iload_n 1, 1) := by decide +kernel
theorem dX5_whoHas_25 : decode cX5_whoHas 25 = .ok (.iload_n 2, 1) := by decide +kernel
theorem dX5_whoHas_26 : decode cX5_whoHas 26 = .ok (.invokestatic 65, 3) := by decide +kernel
theorem dX5_whoHas_29 : decode cX5_whoHas 29 = .ok (.goto 4, 3) := by decide +kernel
theorem dX5_whoHas_32 : decode cX5_whoHas 32 = .ok (.iconst (-1), 1) := by decide +kernel
theorem dX5_whoHas_33 : decode cX5_whoHas 33 = .ok (.ireturn, 1) := by decide +kernel
def t_X5_whoHas_33 : am_T := tb_iret
def t_X5_whoHas_32 : am_T := tb_const (-1) <|
  t_X5_whoHas_33
def t_X5_whoHas_0 : am_T := tb_iload 1 <|
  tb_const 0 <|
  tb_const 15 <|
  tb_callS sp_X5_in 3 <|
  tb_if (fun x => x = 0) (t_X5_whoHas_32) <|
  tb_iload 2 <|
  tb_const 0 <|
  tb_const (100000) <|
  tb_callS sp_X5_in 3 <|
  tb_if (fun x => x = 0) (t_X5_whoHas_32) <|
  tb_aload 0 <|
  tb_getR 5 0 <|
  tb_iload 1 <|
  tb_iload 2 <|
  tb_callS sp_X5_holder 3 <|
  t_X5_whoHas_33
def h_X5_whoHas : am_Hd := fun h => if h = 0 then t_X5_whoHas_0 else tb_bad
theorem h_X5_whoHas_0 : h_X5_whoHas 0 = t_X5_whoHas_0 := rfl
def rm_X5_whoHas : Room := { frames := 2, cells := 0, slots := 0, locals := 49 }
def sp_X5_whoHas : am_sp := fun as M Q => as.length ≤ 3 ∧ am_OK h_X5_whoHas Q 0 (am_in 3 as) M
theorem s_X5_whoHas_33 {G : am_G} {bc bs : Nat} (X : am_Cx G cX5_whoHas RX5 "whoHas" rm_X5_whoHas (some .int) 3 bc bs true) : am_S G 33 (t_X5_whoHas_33) := by
  unfold t_X5_whoHas_33
  exact as_iret (pc := 33) X ⟨rfl, rfl⟩ rfl dX5_whoHas_33
theorem s_X5_whoHas_32 {G : am_G} {bc bs : Nat} (X : am_Cx G cX5_whoHas RX5 "whoHas" rm_X5_whoHas (some .int) 3 bc bs true) : am_S G 32 (t_X5_whoHas_32) := by
  unfold t_X5_whoHas_32
  refine as_iconst (pc := 32) X dX5_whoHas_32 (by decide) ?_
  exact s_X5_whoHas_33 X
theorem s_X5_whoHas_0 {G : am_G} {bc bs : Nat} (X : am_Cx G cX5_whoHas RX5 "whoHas" rm_X5_whoHas (some .int) 3 bc bs true) : am_S G 0 (t_X5_whoHas_0) := by
  unfold t_X5_whoHas_0
  refine as_iload_n (pc := 0) X dX5_whoHas_0 rfl ?_
  refine as_iconst (pc := 1) X dX5_whoHas_1 (by decide) ?_
  refine as_bipush (pc := 2) X dX5_whoHas_2 (by decide) ?_
  refine as_callS (np := 3) (ix := 60) (pc := 4) X ct_X5_in ⟨rfl, rfl⟩ aw_806 aw_807 aw_808 aw_65 (by decide +kernel) (by decide) dX5_whoHas_4 ?_
  refine as_if_eq (pc := 7) X 32 dX5_whoHas_7 (by decide) (s_X5_whoHas_32 X) ?_
  refine as_iload_n (pc := 10) X dX5_whoHas_10 rfl ?_
  refine as_iconst (pc := 11) X dX5_whoHas_11 (by decide) ?_
  refine as_ldc (pc := 12) X dX5_whoHas_12 aw_809 ?_
  refine as_callS (np := 3) (ix := 60) (pc := 14) X ct_X5_in ⟨rfl, rfl⟩ aw_806 aw_807 aw_808 aw_65 (by decide +kernel) (by decide) dX5_whoHas_14 ?_
  refine as_if_eq (pc := 17) X 32 dX5_whoHas_17 (by decide) (s_X5_whoHas_32 X) ?_
  refine as_aload_n (pc := 20) X dX5_whoHas_20 rfl ?_
  refine as_getR (ci := 5) (j := 0) (pc := 21) X (Cn := RX5) (Tf := TX5) (N := 21) rfl rfl (by decide) iw_X5 aw_738 rfl dX5_whoHas_21 ?_
  refine as_iload_n (pc := 24) X dX5_whoHas_24 rfl ?_
  refine as_iload_n (pc := 25) X dX5_whoHas_25 rfl ?_
  refine as_callS (np := 3) (ix := 65) (pc := 26) X ct_X5_holder ⟨rfl, rfl⟩ aw_810 aw_811 aw_812 aw_65 (by decide +kernel) (by decide) dX5_whoHas_26 ?_
  exact as_goto (pc := 29) X 33 dX5_whoHas_29 (by decide) (s_X5_whoHas_33 X)
theorem s_X5_whoHas {G : am_G} {bc bs : Nat} (X : am_Cx G cX5_whoHas RX5 "whoHas" rm_X5_whoHas (some .int) 3 bc bs true) (h : Nat) : am_S G h (h_X5_whoHas h) := by
  unfold h_X5_whoHas
  split
  · next e => rw [e]; exact s_X5_whoHas_0 X
  exact as_bad
theorem ct_X5_whoHas : am_Ct yX5_whoHas cX5_whoHas 3 (some .int) rm_X5_whoHas sp_X5_whoHas := am_met (own := RX5) (nm := "whoHas") (by decide) rfl rfl (Or.inr (Or.inl rfl)) (fun _ _ => h_X5_whoHas) (fun _ _ _ X => s_X5_whoHas X) (fun _ _ _ _ h => h)
-- X4_isSet
theorem dX4_isSet_0 : decode cX4_isSet 0 = .ok (.iload_n 0, 1) := by decide +kernel
theorem dX4_isSet_1 : decode cX4_isSet 1 = .ok (.ifCond .lt 14, 3) := by decide +kernel
theorem dX4_isSet_4 : decode cX4_isSet 4 = .ok (.iload_n 0, 1) := by decide +kernel
theorem dX4_isSet_5 : decode cX4_isSet 5 = .ok (.ldc_w 273, 3) := by decide +kernel
theorem dX4_isSet_8 : decode cX4_isSet 8 = .ok (.if_icmp .gt 7, 3) := by decide +kernel
theorem dX4_isSet_11 : decode cX4_isSet 11 = .ok (.iconst 1, 1) := by decide +kernel
theorem dX4_isSet_12 : decode cX4_isSet 12 = .ok (.goto 4, 3) := by decide +kernel
theorem dX4_isSet_15 : decode cX4_isSet 15 = .ok (.iconst 0, 1) := by decide +kernel
theorem dX4_isSet_16 : decode cX4_isSet 16 = .ok (.ireturn, 1) := by decide +kernel
def t_X4_isSet_16 : am_T := tb_zret
def t_X4_isSet_15 : am_T := tb_const 0 <|
  t_X4_isSet_16
def t_X4_isSet_0 : am_T := tb_iload 0 <|
  tb_if (fun x => x < 0) (t_X4_isSet_15) <|
  tb_iload 0 <|
  tb_const (65535) <|
  tb_ic (fun x y => y < x) (t_X4_isSet_15) <|
  tb_const 1 <|
  t_X4_isSet_16
def h_X4_isSet : am_Hd := fun h => if h = 0 then t_X4_isSet_0 else tb_bad
theorem h_X4_isSet_0 : h_X4_isSet 0 = t_X4_isSet_0 := rfl
def rm_X4_isSet : Room := { frames := 0, cells := 0, slots := 0, locals := 0 }
def sp_X4_isSet : am_sp := fun as M Q => as.length ≤ 1 ∧ am_OK h_X4_isSet Q 0 (am_in 1 as) M
theorem s_X4_isSet_16 {G : am_G} {bc bs : Nat} (X : am_Cx G cX4_isSet RX4 "isSet" rm_X4_isSet (some .boolean) 1 bc bs true) : am_S G 16 (t_X4_isSet_16) := by
  unfold t_X4_isSet_16
  exact as_zret (pc := 16) X ⟨rfl, rfl⟩ rfl dX4_isSet_16
theorem s_X4_isSet_15 {G : am_G} {bc bs : Nat} (X : am_Cx G cX4_isSet RX4 "isSet" rm_X4_isSet (some .boolean) 1 bc bs true) : am_S G 15 (t_X4_isSet_15) := by
  unfold t_X4_isSet_15
  refine as_iconst (pc := 15) X dX4_isSet_15 (by decide) ?_
  exact s_X4_isSet_16 X
theorem s_X4_isSet_0 {G : am_G} {bc bs : Nat} (X : am_Cx G cX4_isSet RX4 "isSet" rm_X4_isSet (some .boolean) 1 bc bs true) : am_S G 0 (t_X4_isSet_0) := by
  unfold t_X4_isSet_0
  refine as_iload_n (pc := 0) X dX4_isSet_0 rfl ?_
  refine as_if_lt (pc := 1) X 15 dX4_isSet_1 (by decide) (s_X4_isSet_15 X) ?_
  refine as_iload_n (pc := 4) X dX4_isSet_4 rfl ?_
  refine as_ldcw (pc := 5) X dX4_isSet_5 aw_361 ?_
  refine as_ic_gt (pc := 8) X 15 dX4_isSet_8 (by decide) (s_X4_isSet_15 X) ?_
  refine as_iconst (pc := 11) X dX4_isSet_11 (by decide) ?_
  exact as_goto (pc := 12) X 16 dX4_isSet_12 (by decide) (s_X4_isSet_16 X)
theorem s_X4_isSet {G : am_G} {bc bs : Nat} (X : am_Cx G cX4_isSet RX4 "isSet" rm_X4_isSet (some .boolean) 1 bc bs true) (h : Nat) : am_S G h (h_X4_isSet h) := by
  unfold h_X4_isSet
  split
  · next e => rw [e]; exact s_X4_isSet_0 X
  exact as_bad
theorem ct_X4_isSet : am_Ct yX4_isSet cX4_isSet 1 (some .boolean) rm_X4_isSet sp_X4_isSet := am_met (own := RX4) (nm := "isSet") (by decide) rfl rfl (Or.inr (Or.inr (Or.inl rfl))) (fun _ _ => h_X4_isSet) (fun _ _ _ X => s_X4_isSet X) (fun _ _ _ _ h => h)
-- X1_addLine
theorem dX1_addLine_0 : decode cX1_addLine 0 = .ok (.aload_n 0, 1) := by decide +kernel
theorem dX1_addLine_1 : decode cX1_addLine 1 = .ok (.getfield 25, 3) := by decide +kernel
theorem dX1_addLine_4 : decode cX1_addLine 4 = .ok (.bipush 30, 2) := by decide +kernel
theorem dX1_addLine_6 : decode cX1_addLine 6 = .ok (.if_icmp .ge 54, 3) := by decide +kernel
theorem dX1_addLine_9 : decode cX1_addLine 9 = .ok (.aload_n 0, 1) := by decide +kernel
theorem dX1_addLine_10 : decode cX1_addLine 10 = .ok (.getfield 28, 3) := by decide +kernel
theorem dX1_addLine_13 : decode cX1_addLine 13 = .ok (.aload_n 0, 1) := by decide +kernel
theorem dX1_addLine_14 : decode cX1_addLine 14 = .ok (.getfield 25, 3) := by decide +kernel
theorem dX1_addLine_17 : decode cX1_addLine 17 = .ok (.iload_n 1, 1) := by decide +kernel
theorem dX1_addLine_18 : decode cX1_addLine 18 = .ok (.iastore, 1) := by decide +kernel
theorem dX1_addLine_19 : decode cX1_addLine 19 = .ok (.aload_n 0, 1) := by decide +kernel
theorem dX1_addLine_20 : decode cX1_addLine 20 = .ok (.getfield 31, 3) := by decide +kernel
theorem dX1_addLine_23 : decode cX1_addLine 23 = .ok (.aload_n 0, 1) := by decide +kernel
theorem dX1_addLine_24 : decode cX1_addLine 24 = .ok (.getfield 25, 3) := by decide +kernel
theorem dX1_addLine_27 : decode cX1_addLine 27 = .ok (.iload_n 2, 1) := by decide +kernel
theorem dX1_addLine_28 : decode cX1_addLine 28 = .ok (.iastore, 1) := by decide +kernel
theorem dX1_addLine_29 : decode cX1_addLine 29 = .ok (.aload_n 0, 1) := by decide +kernel
theorem dX1_addLine_30 : decode cX1_addLine 30 = .ok (.getfield 34, 3) := by decide +kernel
theorem dX1_addLine_33 : decode cX1_addLine 33 = .ok (.aload_n 0, 1) := by decide +kernel
theorem dX1_addLine_34 : decode cX1_addLine 34 = .ok (.getfield 25, 3) := by decide +kernel
theorem dX1_addLine_37 : decode cX1_addLine 37 = .ok (.iload_n 3, 1) := by decide +kernel
theorem dX1_addLine_38 : decode cX1_addLine 38 = .ok (.iastore, 1) := by decide +kernel
theorem dX1_addLine_39 : decode cX1_addLine 39 = .ok (.aload_n 0, 1) := by decide +kernel
theorem dX1_addLine_40 : decode cX1_addLine 40 = .ok (.getfield 37, 3) := by decide +kernel
theorem dX1_addLine_43 : decode cX1_addLine 43 = .ok (.aload_n 0, 1) := by decide +kernel
theorem dX1_addLine_44 : decode cX1_addLine 44 = .ok (.getfield 25, 3) := by decide +kernel
theorem dX1_addLine_47 : decode cX1_addLine 47 = .ok (.iload 4, 2) := by decide +kernel
theorem dX1_addLine_49 : decode cX1_addLine 49 = .ok (.iastore, 1) := by decide +kernel
theorem dX1_addLine_50 : decode cX1_addLine 50 = .ok (.aload_n 0, 1) := by decide +kernel
theorem dX1_addLine_51 : decode cX1_addLine 51 = .ok (.dup, 1) := by decide +kernel
theorem dX1_addLine_52 : decode cX1_addLine 52 = .ok (.getfield 25, 3) := by decide +kernel
theorem dX1_addLine_55 : decode cX1_addLine 55 = .ok (.iconst 1, 1) := by decide +kernel
theorem dX1_addLine_56 : decode cX1_addLine 56 = .ok (.iadd, 1) := by decide +kernel
theorem dX1_addLine_57 : decode cX1_addLine 57 = .ok (.putfield 25, 3) := by decide +kernel
theorem dX1_addLine_60 : decode cX1_addLine 60 = .ok (.return_, 1) := by decide +kernel
def t_X1_addLine_60 : am_T := tb_ret
def t_X1_addLine_0 : am_T := tb_aload 0 <|
  tb_getI 1 4 <|
  tb_const 30 <|
  tb_ic (fun x y => y ≤ x) (t_X1_addLine_60) <|
  tb_aload 0 <|
  tb_getR 1 5 <|
  tb_aload 0 <|
  tb_getI 1 4 <|
  tb_iload 1 <|
  tb_iast <|
  tb_aload 0 <|
  tb_getR 1 6 <|
  tb_aload 0 <|
  tb_getI 1 4 <|
  tb_iload 2 <|
  tb_iast <|
  tb_aload 0 <|
  tb_getR 1 7 <|
  tb_aload 0 <|
  tb_getI 1 4 <|
  tb_iload 3 <|
  tb_iast <|
  tb_aload 0 <|
  tb_getR 1 8 <|
  tb_aload 0 <|
  tb_getI 1 4 <|
  tb_iload 4 <|
  tb_iast <|
  tb_aload 0 <|
  tb_dup <|
  tb_getI 1 4 <|
  tb_const 1 <|
  tb_bin (fun x y => x + y) <|
  tb_putI 1 4 <|
  t_X1_addLine_60
def h_X1_addLine : am_Hd := fun h => if h = 0 then t_X1_addLine_0 else tb_bad
theorem h_X1_addLine_0 : h_X1_addLine 0 = t_X1_addLine_0 := rfl
def rm_X1_addLine : Room := { frames := 0, cells := 0, slots := 0, locals := 0 }
def sp_X1_addLine : am_sp := fun as M Q => as.length ≤ 5 ∧ am_OK h_X1_addLine Q 0 (am_in 5 as) M
theorem s_X1_addLine_60 {G : am_G} {bc bs : Nat} (X : am_Cx G cX1_addLine RX1 "addLine" rm_X1_addLine none 5 bc bs true) : am_S G 60 (t_X1_addLine_60) := by
  unfold t_X1_addLine_60
  exact as_ret (pc := 60) X ⟨rfl, rfl⟩ rfl dX1_addLine_60
theorem s_X1_addLine_0 {G : am_G} {bc bs : Nat} (X : am_Cx G cX1_addLine RX1 "addLine" rm_X1_addLine none 5 bc bs true) : am_S G 0 (t_X1_addLine_0) := by
  unfold t_X1_addLine_0
  refine as_aload_n (pc := 0) X dX1_addLine_0 rfl ?_
  refine as_getI (ci := 1) (j := 4) (pc := 1) X (Cn := RX1) (Tf := TX1) (N := 14) rfl rfl (by decide) iw_X1 aw_98 rfl dX1_addLine_1 ?_
  refine as_bipush (pc := 4) X dX1_addLine_4 (by decide) ?_
  refine as_ic_ge (pc := 6) X 60 dX1_addLine_6 (by decide) (s_X1_addLine_60 X) ?_
  refine as_aload_n (pc := 9) X dX1_addLine_9 rfl ?_
  refine as_getR (ci := 1) (j := 5) (pc := 10) X (Cn := RX1) (Tf := TX1) (N := 14) rfl rfl (by decide) iw_X1 aw_102 rfl dX1_addLine_10 ?_
  refine as_aload_n (pc := 13) X dX1_addLine_13 rfl ?_
  refine as_getI (ci := 1) (j := 4) (pc := 14) X (Cn := RX1) (Tf := TX1) (N := 14) rfl rfl (by decide) iw_X1 aw_98 rfl dX1_addLine_14 ?_
  refine as_iload_n (pc := 17) X dX1_addLine_17 rfl ?_
  refine as_iast (pc := 18) X dX1_addLine_18 ?_
  refine as_aload_n (pc := 19) X dX1_addLine_19 rfl ?_
  refine as_getR (ci := 1) (j := 6) (pc := 20) X (Cn := RX1) (Tf := TX1) (N := 14) rfl rfl (by decide) iw_X1 aw_105 rfl dX1_addLine_20 ?_
  refine as_aload_n (pc := 23) X dX1_addLine_23 rfl ?_
  refine as_getI (ci := 1) (j := 4) (pc := 24) X (Cn := RX1) (Tf := TX1) (N := 14) rfl rfl (by decide) iw_X1 aw_98 rfl dX1_addLine_24 ?_
  refine as_iload_n (pc := 27) X dX1_addLine_27 rfl ?_
  refine as_iast (pc := 28) X dX1_addLine_28 ?_
  refine as_aload_n (pc := 29) X dX1_addLine_29 rfl ?_
  refine as_getR (ci := 1) (j := 7) (pc := 30) X (Cn := RX1) (Tf := TX1) (N := 14) rfl rfl (by decide) iw_X1 aw_108 rfl dX1_addLine_30 ?_
  refine as_aload_n (pc := 33) X dX1_addLine_33 rfl ?_
  refine as_getI (ci := 1) (j := 4) (pc := 34) X (Cn := RX1) (Tf := TX1) (N := 14) rfl rfl (by decide) iw_X1 aw_98 rfl dX1_addLine_34 ?_
  refine as_iload_n (pc := 37) X dX1_addLine_37 rfl ?_
  refine as_iast (pc := 38) X dX1_addLine_38 ?_
  refine as_aload_n (pc := 39) X dX1_addLine_39 rfl ?_
  refine as_getR (ci := 1) (j := 8) (pc := 40) X (Cn := RX1) (Tf := TX1) (N := 14) rfl rfl (by decide) iw_X1 aw_110 rfl dX1_addLine_40 ?_
  refine as_aload_n (pc := 43) X dX1_addLine_43 rfl ?_
  refine as_getI (ci := 1) (j := 4) (pc := 44) X (Cn := RX1) (Tf := TX1) (N := 14) rfl rfl (by decide) iw_X1 aw_98 rfl dX1_addLine_44 ?_
  refine as_iload (pc := 47) X dX1_addLine_47 ?_
  refine as_iast (pc := 49) X dX1_addLine_49 ?_
  refine as_aload_n (pc := 50) X dX1_addLine_50 rfl ?_
  refine as_dup (pc := 51) X dX1_addLine_51 ?_
  refine as_getI (ci := 1) (j := 4) (pc := 52) X (Cn := RX1) (Tf := TX1) (N := 14) rfl rfl (by decide) iw_X1 aw_98 rfl dX1_addLine_52 ?_
  refine as_iconst (pc := 55) X dX1_addLine_55 (by decide) ?_
  refine as_iadd (pc := 56) X dX1_addLine_56 ?_
  refine as_putI (ci := 1) (j := 4) (pc := 57) X (Cn := RX1) (Tf := TX1) (N := 14) rfl rfl (by decide) iw_X1 aw_98 tyX1 tyX1_ok nmX1 rfl rfl (by decide +kernel) dX1_addLine_57 ?_
  exact s_X1_addLine_60 X
theorem s_X1_addLine {G : am_G} {bc bs : Nat} (X : am_Cx G cX1_addLine RX1 "addLine" rm_X1_addLine none 5 bc bs true) (h : Nat) : am_S G h (h_X1_addLine h) := by
  unfold h_X1_addLine
  split
  · next e => rw [e]; exact s_X1_addLine_0 X
  exact as_bad
theorem ct_X1_addLine : am_Ct yX1_addLine cX1_addLine 5 none rm_X1_addLine sp_X1_addLine := am_met (own := RX1) (nm := "addLine") (by decide) rfl rfl (Or.inl rfl) (fun _ _ => h_X1_addLine) (fun _ _ _ X => s_X1_addLine X) (fun _ _ _ _ h => h)
-- X4_line
theorem dX4_line_0 : decode cX4_line 0 = .ok (.iload_n 1, 1) := by decide +kernel
theorem dX4_line_1 : decode cX4_line 1 = .ok (.invokestatic 52, 3) := by decide +kernel
theorem dX4_line_4 : decode cX4_line 4 = .ok (.ifCond .eq 25, 3) := by decide +kernel
theorem dX4_line_7 : decode cX4_line 7 = .ok (.iload_n 2, 1) := by decide +kernel
theorem dX4_line_8 : decode cX4_line 8 = .ok (.invokestatic 45, 3) := by decide +kernel
theorem dX4_line_11 : decode cX4_line 11 = .ok (.ifCond .eq 18, 3) := by decide +kernel
theorem dX4_line_14 : decode cX4_line 14 = .ok (.iload_n 3, 1) := by decide +kernel
theorem dX4_line_15 : decode cX4_line 15 = .ok (.invokestatic 83, 3) := by decide +kernel
theorem dX4_line_18 : decode cX4_line 18 = .ok (.ifCond .eq 11, 3) := by decide +kernel
theorem dX4_line_21 : decode cX4_line 21 = .ok (.iload 4, 2) := by decide +kernel
theorem dX4_line_23 : decode cX4_line 23 = .ok (.invokestatic 83, 3) := by decide +kernel
theorem dX4_line_26 : decode cX4_line 26 = .ok (.ifCond .ne 5, 3) := by decide +kernel
theorem dX4_line_29 : decode cX4_line 29 = .ok (.iconst (-1), 1) := by decide +kernel
theorem dX4_line_30 : decode cX4_line 30 = .ok (.ireturn, 1) := by decide +kernel
theorem dX4_line_31 : decode cX4_line 31 = .ok (.aload_n 0, 1) := by decide +kernel
theorem dX4_line_32 : decode cX4_line 32 = .ok (.getfield 20, 3) := by decide +kernel
theorem dX4_line_35 : decode cX4_line 35 = .ok (.getfield 86, 3) := by decide +kernel
theorem dX4_line_38 : decode cX4_line 38 = .ok (.bipush 30, 2) := by decide +kernel
theorem dX4_line_40 : decode cX4_line 40 = .ok (.if_icmp .lt 6, 3) := by decide +kernel
theorem dX4_line_43 : decode cX4_line 43 = .ok (.bipush (-3), 2) := by decide +kernel
theorem dX4_line_45 : decode cX4_line 45 = .ok (.ireturn, 1) := by decide +kernel
theorem dX4_line_46 : decode cX4_line 46 = .ok (.aload_n 0, 1) := by decide +kernel
theorem dX4_line_47 : decode cX4_line 47 = .ok (.invokevirtual 69, 3) := by decide +kernel
theorem dX4_line_50 : decode cX4_line 50 = .ok (.aload_n 0, 1) := by decide +kernel
theorem dX4_line_51 : decode cX4_line 51 = .ok (.getfield 20, 3) := by decide +kernel
theorem dX4_line_54 : decode cX4_line 54 = .ok (.iload_n 1, 1) := by decide +kernel
theorem dX4_line_55 : decode cX4_line 55 = .ok (.iload_n 2, 1) := by decide +kernel
theorem dX4_line_56 : decode cX4_line 56 = .ok (.iload_n 3, 1) := by decide +kernel
theorem dX4_line_57 : decode cX4_line 57 = .ok (.iload 4, 2) := by decide +kernel
theorem dX4_line_59 : decode cX4_line 59 = .ok (.invokevirtual 89, 3) := by decide +kernel
theorem dX4_line_62 : decode cX4_line 62 = .ok (.aload_n 0, 1) := by decide +kernel
theorem dX4_line_63 : decode cX4_line 63 = .ok (.getfield 20, 3) := by decide +kernel
theorem dX4_line_66 : decode cX4_line 66 = .ok (.getfield 86, 3) := by decide +kernel
theorem dX4_line_69 : decode cX4_line 69 = .ok (.iconst 1, 1) := by decide +kernel
theorem dX4_line_70 : decode cX4_line 70 = .ok (.isub, 1) := by decide +kernel
theorem dX4_line_71 : decode cX4_line 71 = .ok (.ireturn, 1) := by decide +kernel
def t_X4_line_46 : am_T := tb_aload 0 <|
  tb_callV 4 sp_X4_beginChange 1 <|
  tb_aload 0 <|
  tb_getR 4 1 <|
  tb_iload 1 <|
  tb_iload 2 <|
  tb_iload 3 <|
  tb_iload 4 <|
  tb_callV 1 sp_X1_addLine 5 <|
  tb_aload 0 <|
  tb_getR 4 1 <|
  tb_getI 1 4 <|
  tb_const 1 <|
  tb_bin (fun x y => x - y) <|
  tb_iret
def t_X4_line_31 : am_T := tb_aload 0 <|
  tb_getR 4 1 <|
  tb_getI 1 4 <|
  tb_const 30 <|
  tb_ic (fun x y => x < y) (t_X4_line_46) <|
  tb_const (-3) <|
  tb_iret
def t_X4_line_29 : am_T := tb_const (-1) <|
  tb_iret
def t_X4_line_0 : am_T := tb_iload 1 <|
  tb_callS sp_X4_isTime 1 <|
  tb_if (fun x => x = 0) (t_X4_line_29) <|
  tb_iload 2 <|
  tb_callS sp_X4_isPerson 1 <|
  tb_if (fun x => x = 0) (t_X4_line_29) <|
  tb_iload 3 <|
  tb_callS sp_X4_isSet 1 <|
  tb_if (fun x => x = 0) (t_X4_line_29) <|
  tb_iload 4 <|
  tb_callS sp_X4_isSet 1 <|
  tb_if (fun x => x ≠ 0) (t_X4_line_31) <|
  t_X4_line_29
def h_X4_line : am_Hd := fun h => if h = 0 then t_X4_line_0 else tb_bad
theorem h_X4_line_0 : h_X4_line 0 = t_X4_line_0 := rfl
def rm_X4_line : Room := { frames := 4, cells := 0, slots := 0, locals := 89 }
def sp_X4_line : am_sp := fun as M Q => as.length ≤ 5 ∧ am_OK h_X4_line Q 0 (am_in 5 as) M
theorem s_X4_line_46 {G : am_G} {bc bs : Nat} (X : am_Cx G cX4_line RX4 "line" rm_X4_line (some .int) 5 bc bs true) : am_S G 46 (t_X4_line_46) := by
  unfold t_X4_line_46
  refine as_aload_n (pc := 46) X dX4_line_46 rfl ?_
  refine as_callV (ci := 4) (np := 0) (ix := 69) (pc := 47) X ct_X4_beginChange (Cn := (RX4, TX4, 7)) rfl ⟨rfl, rfl⟩ aw_322 aw_324 aw_0 aw_325 aw_59 (by decide +kernel) (by decide) dX4_line_47 ?_
  refine as_aload_n (pc := 50) X dX4_line_50 rfl ?_
  refine as_getR (ci := 4) (j := 1) (pc := 51) X (Cn := RX4) (Tf := TX4) (N := 7) rfl rfl (by decide) iw_X4 aw_275 rfl dX4_line_51 ?_
  refine as_iload_n (pc := 54) X dX4_line_54 rfl ?_
  refine as_iload_n (pc := 55) X dX4_line_55 rfl ?_
  refine as_iload_n (pc := 56) X dX4_line_56 rfl ?_
  refine as_iload (pc := 57) X dX4_line_57 ?_
  refine as_callV (ci := 1) (np := 4) (ix := 89) (pc := 59) X ct_X1_addLine (Cn := (RX1, TX1, 14)) rfl ⟨rfl, rfl⟩ aw_362 aw_363 aw_364 aw_365 aw_61 (by decide +kernel) (by decide) dX4_line_59 ?_
  refine as_aload_n (pc := 62) X dX4_line_62 rfl ?_
  refine as_getR (ci := 4) (j := 1) (pc := 63) X (Cn := RX4) (Tf := TX4) (N := 7) rfl rfl (by decide) iw_X4 aw_275 rfl dX4_line_63 ?_
  refine as_getI (ci := 1) (j := 4) (pc := 66) X (Cn := RX1) (Tf := TX1) (N := 14) rfl rfl (by decide) iw_X1 aw_100 rfl dX4_line_66 ?_
  refine as_iconst (pc := 69) X dX4_line_69 (by decide) ?_
  refine as_isub (pc := 70) X dX4_line_70 ?_
  exact as_iret (pc := 71) X ⟨rfl, rfl⟩ rfl dX4_line_71
theorem s_X4_line_31 {G : am_G} {bc bs : Nat} (X : am_Cx G cX4_line RX4 "line" rm_X4_line (some .int) 5 bc bs true) : am_S G 31 (t_X4_line_31) := by
  unfold t_X4_line_31
  refine as_aload_n (pc := 31) X dX4_line_31 rfl ?_
  refine as_getR (ci := 4) (j := 1) (pc := 32) X (Cn := RX4) (Tf := TX4) (N := 7) rfl rfl (by decide) iw_X4 aw_275 rfl dX4_line_32 ?_
  refine as_getI (ci := 1) (j := 4) (pc := 35) X (Cn := RX1) (Tf := TX1) (N := 14) rfl rfl (by decide) iw_X1 aw_100 rfl dX4_line_35 ?_
  refine as_bipush (pc := 38) X dX4_line_38 (by decide) ?_
  refine as_ic_lt (pc := 40) X 46 dX4_line_40 (by decide) (s_X4_line_46 X) ?_
  refine as_bipush (pc := 43) X dX4_line_43 (by decide) ?_
  exact as_iret (pc := 45) X ⟨rfl, rfl⟩ rfl dX4_line_45
theorem s_X4_line_29 {G : am_G} {bc bs : Nat} (X : am_Cx G cX4_line RX4 "line" rm_X4_line (some .int) 5 bc bs true) : am_S G 29 (t_X4_line_29) := by
  unfold t_X4_line_29
  refine as_iconst (pc := 29) X dX4_line_29 (by decide) ?_
  exact as_iret (pc := 30) X ⟨rfl, rfl⟩ rfl dX4_line_30
theorem s_X4_line_0 {G : am_G} {bc bs : Nat} (X : am_Cx G cX4_line RX4 "line" rm_X4_line (some .int) 5 bc bs true) : am_S G 0 (t_X4_line_0) := by
  unfold t_X4_line_0
  refine as_iload_n (pc := 0) X dX4_line_0 rfl ?_
  refine as_callS (np := 1) (ix := 52) (pc := 1) X ct_X4_isTime ⟨rfl, rfl⟩ aw_306 aw_307 aw_308 aw_59 (by decide +kernel) (by decide) dX4_line_1 ?_
  refine as_if_eq (pc := 4) X 29 dX4_line_4 (by decide) (s_X4_line_29 X) ?_
  refine as_iload_n (pc := 7) X dX4_line_7 rfl ?_
  refine as_callS (np := 1) (ix := 45) (pc := 8) X ct_X4_isPerson ⟨rfl, rfl⟩ aw_300 aw_301 aw_302 aw_59 (by decide +kernel) (by decide) dX4_line_8 ?_
  refine as_if_eq (pc := 11) X 29 dX4_line_11 (by decide) (s_X4_line_29 X) ?_
  refine as_iload_n (pc := 14) X dX4_line_14 rfl ?_
  refine as_callS (np := 1) (ix := 83) (pc := 15) X ct_X4_isSet ⟨rfl, rfl⟩ aw_358 aw_359 aw_360 aw_59 (by decide +kernel) (by decide) dX4_line_15 ?_
  refine as_if_eq (pc := 18) X 29 dX4_line_18 (by decide) (s_X4_line_29 X) ?_
  refine as_iload (pc := 21) X dX4_line_21 ?_
  refine as_callS (np := 1) (ix := 83) (pc := 23) X ct_X4_isSet ⟨rfl, rfl⟩ aw_358 aw_359 aw_360 aw_59 (by decide +kernel) (by decide) dX4_line_23 ?_
  refine as_if_ne (pc := 26) X 31 dX4_line_26 (by decide) (s_X4_line_31 X) ?_
  exact s_X4_line_29 X
theorem s_X4_line {G : am_G} {bc bs : Nat} (X : am_Cx G cX4_line RX4 "line" rm_X4_line (some .int) 5 bc bs true) (h : Nat) : am_S G h (h_X4_line h) := by
  unfold h_X4_line
  split
  · next e => rw [e]; exact s_X4_line_0 X
  exact as_bad
theorem ct_X4_line : am_Ct yX4_line cX4_line 5 (some .int) rm_X4_line sp_X4_line := am_met (own := RX4) (nm := "line") (by decide) rfl rfl (Or.inr (Or.inl rfl)) (fun _ _ => h_X4_line) (fun _ _ _ X => s_X4_line X) (fun _ _ _ _ h => h)
-- X5_isTold
theorem dX5_isTold_0 : decode cX5_isTold 0 = .ok (.iload_n 0, 1) := by decide +kernel
theorem dX5_isTold_1 : decode cX5_isTold 1 = .ok (.iconst 0, 1) := by decide +kernel
theorem dX5_isTold_2 : decode cX5_isTold 2 = .ok (.ldc 64, 2) := by decide +kernel
theorem dX5_isTold_4 : decode cX5_isTold 4 = .ok (.invokestatic 60, 3) := by decide +kernel
theorem dX5_isTold_7 : decode cX5_isTold 7 = .ok (.ifCond .eq 37, 3) := by decide +kernel
theorem dX5_isTold_10 : decode cX5_isTold 10 = .ok (.iload_n 1, 1) := by decide +kernel
theorem dX5_isTold_11 : decode cX5_isTold 11 = .ok (.iconst 0, 1) := by decide +kernel
theorem dX5_isTold_12 : decode cX5_isTold 12 = .ok (.bipush 11, 2) := by decide +kernel
theorem dX5_isTold_14 : decode cX5_isTold 14 = .ok (.invokestatic 60, 3) := by decide +kernel
theorem dX5_isTold_17 : decode cX5_isTold 17 = .ok (.ifCond .eq 27, 3) := by decide +kernel
theorem dX5_isTold_20 : decode cX5_isTold 20 = .ok (.iload_n 2, 1) := by decide +kernel
theorem dX5_isTold_21 : decode cX5_isTold 21 = .ok (.iconst 0, 1) := by decide +kernel
theorem dX5_isTold_22 : decode cX5_isTold 22 = .ok (.ldc 126, 2) := by decide +kernel
theorem dX5_isTold_24 : decode cX5_isTold 24 = .ok (.invokestatic 60, 3) := by decide +kernel
theorem dX5_isTold_27 : decode cX5_isTold 27 = .ok (.ifCond .eq 17, 3) := by decide +kernel
theorem dX5_isTold_30 : decode cX5_isTold 30 = .ok (.iload_n 3, 1) := by decide +kernel
theorem dX5_isTold_31 : decode cX5_isTold 31 = .ok (.iconst 0, 1) := by decide +kernel
theorem dX5_isTold_32 : decode cX5_isTold 32 = .ok (.ldc 126, 2) := by decide +kernel
theorem dX5_isTold_34 : decode cX5_isTold 34 = .ok (.invokestatic 60, 3) := by decide +kernel
theorem dX5_isTold_37 : decode cX5_isTold 37 = .ok (.ifCond .eq 7, 3) := by decide +kernel
theorem dX5_isTold_40 : decode cX5_isTold 40 = .ok (.iconst 1, 1) := by decide +kernel
theorem dX5_isTold_41 : decode cX5_isTold 41 = .ok (.goto 4, 3) := by decide +kernel
theorem dX5_isTold_44 : decode cX5_isTold 44 = .ok (.iconst 0, 1) := by decide +kernel
theorem dX5_isTold_45 : decode cX5_isTold 45 = .ok (.ireturn, 1) := by decide +kernel
def t_X5_isTold_45 : am_T := tb_zret
def t_X5_isTold_44 : am_T := tb_const 0 <|
  t_X5_isTold_45
def t_X5_isTold_0 : am_T := tb_iload 0 <|
  tb_const 0 <|
  tb_const (100000) <|
  tb_callS sp_X5_in 3 <|
  tb_if (fun x => x = 0) (t_X5_isTold_44) <|
  tb_iload 1 <|
  tb_const 0 <|
  tb_const 11 <|
  tb_callS sp_X5_in 3 <|
  tb_if (fun x => x = 0) (t_X5_isTold_44) <|
  tb_iload 2 <|
  tb_const 0 <|
  tb_const (65535) <|
  tb_callS sp_X5_in 3 <|
  tb_if (fun x => x = 0) (t_X5_isTold_44) <|
  tb_iload 3 <|
  tb_const 0 <|
  tb_const (65535) <|
  tb_callS sp_X5_in 3 <|
  tb_if (fun x => x = 0) (t_X5_isTold_44) <|
  tb_const 1 <|
  t_X5_isTold_45
def h_X5_isTold : am_Hd := fun h => if h = 0 then t_X5_isTold_0 else tb_bad
theorem h_X5_isTold_0 : h_X5_isTold 0 = t_X5_isTold_0 := rfl
def rm_X5_isTold : Room := { frames := 1, cells := 0, slots := 0, locals := 22 }
def sp_X5_isTold : am_sp := fun as M Q => as.length ≤ 4 ∧ am_OK h_X5_isTold Q 0 (am_in 4 as) M
theorem s_X5_isTold_45 {G : am_G} {bc bs : Nat} (X : am_Cx G cX5_isTold RX5 "isTold" rm_X5_isTold (some .boolean) 4 bc bs true) : am_S G 45 (t_X5_isTold_45) := by
  unfold t_X5_isTold_45
  exact as_zret (pc := 45) X ⟨rfl, rfl⟩ rfl dX5_isTold_45
theorem s_X5_isTold_44 {G : am_G} {bc bs : Nat} (X : am_Cx G cX5_isTold RX5 "isTold" rm_X5_isTold (some .boolean) 4 bc bs true) : am_S G 44 (t_X5_isTold_44) := by
  unfold t_X5_isTold_44
  refine as_iconst (pc := 44) X dX5_isTold_44 (by decide) ?_
  exact s_X5_isTold_45 X
theorem s_X5_isTold_0 {G : am_G} {bc bs : Nat} (X : am_Cx G cX5_isTold RX5 "isTold" rm_X5_isTold (some .boolean) 4 bc bs true) : am_S G 0 (t_X5_isTold_0) := by
  unfold t_X5_isTold_0
  refine as_iload_n (pc := 0) X dX5_isTold_0 rfl ?_
  refine as_iconst (pc := 1) X dX5_isTold_1 (by decide) ?_
  refine as_ldc (pc := 2) X dX5_isTold_2 aw_809 ?_
  refine as_callS (np := 3) (ix := 60) (pc := 4) X ct_X5_in ⟨rfl, rfl⟩ aw_806 aw_807 aw_808 aw_65 (by decide +kernel) (by decide) dX5_isTold_4 ?_
  refine as_if_eq (pc := 7) X 44 dX5_isTold_7 (by decide) (s_X5_isTold_44 X) ?_
  refine as_iload_n (pc := 10) X dX5_isTold_10 rfl ?_
  refine as_iconst (pc := 11) X dX5_isTold_11 (by decide) ?_
  refine as_bipush (pc := 12) X dX5_isTold_12 (by decide) ?_
  refine as_callS (np := 3) (ix := 60) (pc := 14) X ct_X5_in ⟨rfl, rfl⟩ aw_806 aw_807 aw_808 aw_65 (by decide +kernel) (by decide) dX5_isTold_14 ?_
  refine as_if_eq (pc := 17) X 44 dX5_isTold_17 (by decide) (s_X5_isTold_44 X) ?_
  refine as_iload_n (pc := 20) X dX5_isTold_20 rfl ?_
  refine as_iconst (pc := 21) X dX5_isTold_21 (by decide) ?_
  refine as_ldc (pc := 22) X dX5_isTold_22 aw_835 ?_
  refine as_callS (np := 3) (ix := 60) (pc := 24) X ct_X5_in ⟨rfl, rfl⟩ aw_806 aw_807 aw_808 aw_65 (by decide +kernel) (by decide) dX5_isTold_24 ?_
  refine as_if_eq (pc := 27) X 44 dX5_isTold_27 (by decide) (s_X5_isTold_44 X) ?_
  refine as_iload_n (pc := 30) X dX5_isTold_30 rfl ?_
  refine as_iconst (pc := 31) X dX5_isTold_31 (by decide) ?_
  refine as_ldc (pc := 32) X dX5_isTold_32 aw_835 ?_
  refine as_callS (np := 3) (ix := 60) (pc := 34) X ct_X5_in ⟨rfl, rfl⟩ aw_806 aw_807 aw_808 aw_65 (by decide +kernel) (by decide) dX5_isTold_34 ?_
  refine as_if_eq (pc := 37) X 44 dX5_isTold_37 (by decide) (s_X5_isTold_44 X) ?_
  refine as_iconst (pc := 40) X dX5_isTold_40 (by decide) ?_
  exact as_goto (pc := 41) X 45 dX5_isTold_41 (by decide) (s_X5_isTold_45 X)
theorem s_X5_isTold {G : am_G} {bc bs : Nat} (X : am_Cx G cX5_isTold RX5 "isTold" rm_X5_isTold (some .boolean) 4 bc bs true) (h : Nat) : am_S G h (h_X5_isTold h) := by
  unfold h_X5_isTold
  split
  · next e => rw [e]; exact s_X5_isTold_0 X
  exact as_bad
theorem ct_X5_isTold : am_Ct yX5_isTold cX5_isTold 4 (some .boolean) rm_X5_isTold sp_X5_isTold := am_met (own := RX5) (nm := "isTold") (by decide) rfl rfl (Or.inr (Or.inr (Or.inl rfl))) (fun _ _ => h_X5_isTold) (fun _ _ _ X => s_X5_isTold X) (fun _ _ _ _ h => h)
-- X5_adds
theorem dX5_adds_0 : decode cX5_adds 0 = .ok (.bipush 71, 2) := by decide +kernel
theorem dX5_adds_2 : decode cX5_adds 2 = .ok (.iconst 4, 1) := by decide +kernel
theorem dX5_adds_3 : decode cX5_adds 3 = .ok (.aload_n 0, 1) := by decide +kernel
theorem dX5_adds_4 : decode cX5_adds 4 = .ok (.getfield 7, 3) := by decide +kernel
theorem dX5_adds_7 : decode cX5_adds 7 = .ok (.bipush 9, 2) := by decide +kernel
theorem dX5_adds_9 : decode cX5_adds 9 = .ok (.iaload, 1) := by decide +kernel
theorem dX5_adds_10 : decode cX5_adds 10 = .ok (.imul, 1) := by decide +kernel
theorem dX5_adds_11 : decode cX5_adds 11 = .ok (.iadd, 1) := by decide +kernel
theorem dX5_adds_12 : decode cX5_adds 12 = .ok (.istore 5, 2) := by decide +kernel
theorem dX5_adds_14 : decode cX5_adds 14 = .ok (.aload_n 0, 1) := by decide +kernel
theorem dX5_adds_15 : decode cX5_adds 15 = .ok (.getfield 7, 3) := by decide +kernel
theorem dX5_adds_18 : decode cX5_adds 18 = .ok (.iload 5, 2) := by decide +kernel
theorem dX5_adds_20 : decode cX5_adds 20 = .ok (.iconst 0, 1) := by decide +kernel
theorem dX5_adds_21 : decode cX5_adds 21 = .ok (.iadd, 1) := by decide +kernel
theorem dX5_adds_22 : decode cX5_adds 22 = .ok (.iload_n 1, 1) := by decide +kernel
theorem dX5_adds_23 : decode cX5_adds 23 = .ok (.iastore, 1) := by decide +kernel
theorem dX5_adds_24 : decode cX5_adds 24 = .ok (.aload_n 0, 1) := by decide +kernel
theorem dX5_adds_25 : decode cX5_adds 25 = .ok (.getfield 7, 3) := by decide +kernel
theorem dX5_adds_28 : decode cX5_adds 28 = .ok (.iload 5, 2) := by decide +kernel
theorem dX5_adds_30 : decode cX5_adds 30 = .ok (.iconst 1, 1) := by decide +kernel
theorem dX5_adds_31 : decode cX5_adds 31 = .ok (.iadd, 1) := by decide +kernel
theorem dX5_adds_32 : decode cX5_adds 32 = .ok (.iload_n 2, 1) := by decide +kernel
theorem dX5_adds_33 : decode cX5_adds 33 = .ok (.iastore, 1) := by decide +kernel
theorem dX5_adds_34 : decode cX5_adds 34 = .ok (.aload_n 0, 1) := by decide +kernel
theorem dX5_adds_35 : decode cX5_adds 35 = .ok (.getfield 7, 3) := by decide +kernel
theorem dX5_adds_38 : decode cX5_adds 38 = .ok (.iload 5, 2) := by decide +kernel
theorem dX5_adds_40 : decode cX5_adds 40 = .ok (.iconst 2, 1) := by decide +kernel
theorem dX5_adds_41 : decode cX5_adds 41 = .ok (.iadd, 1) := by decide +kernel
theorem dX5_adds_42 : decode cX5_adds 42 = .ok (.iload_n 3, 1) := by decide +kernel
theorem dX5_adds_43 : decode cX5_adds 43 = .ok (.iastore, 1) := by decide +kernel
theorem dX5_adds_44 : decode cX5_adds 44 = .ok (.aload_n 0, 1) := by decide +kernel
theorem dX5_adds_45 : decode cX5_adds 45 = .ok (.getfield 7, 3) := by decide +kernel
theorem dX5_adds_48 : decode cX5_adds 48 = .ok (.iload 5, 2) := by decide +kernel
theorem dX5_adds_50 : decode cX5_adds 50 = .ok (.iconst 3, 1) := by decide +kernel
theorem dX5_adds_51 : decode cX5_adds 51 = .ok (.iadd, 1) := by decide +kernel
theorem dX5_adds_52 : decode cX5_adds 52 = .ok (.iload 4, 2) := by decide +kernel
theorem dX5_adds_54 : decode cX5_adds 54 = .ok (.iastore, 1) := by decide +kernel
theorem dX5_adds_55 : decode cX5_adds 55 = .ok (.aload_n 0, 1) := by decide +kernel
theorem dX5_adds_56 : decode cX5_adds 56 = .ok (.getfield 7, 3) := by decide +kernel
theorem dX5_adds_59 : decode cX5_adds 59 = .ok (.bipush 9, 2) := by decide +kernel
theorem dX5_adds_61 : decode cX5_adds 61 = .ok (.dup2, 1) := by decide +kernel
theorem dX5_adds_62 : decode cX5_adds 62 = .ok (.iaload, 1) := by decide +kernel
theorem dX5_adds_63 : decode cX5_adds 63 = .ok (.iconst 1, 1) := by decide +kernel
theorem dX5_adds_64 : decode cX5_adds 64 = .ok (.iadd, 1) := by decide +kernel
theorem dX5_adds_65 : decode cX5_adds 65 = .ok (.iastore, 1) := by decide +kernel
theorem dX5_adds_66 : decode cX5_adds 66 = .ok (.return_, 1) := by decide +kernel
def t_X5_adds_0 : am_T := tb_const 71 <|
  tb_const 4 <|
  tb_aload 0 <|
  tb_getR 5 0 <|
  tb_const 9 <|
  tb_iald <|
  tb_bin (fun x y => x * y) <|
  tb_bin (fun x y => x + y) <|
  tb_istore 5 <|
  tb_aload 0 <|
  tb_getR 5 0 <|
  tb_iload 5 <|
  tb_const 0 <|
  tb_bin (fun x y => x + y) <|
  tb_iload 1 <|
  tb_iast <|
  tb_aload 0 <|
  tb_getR 5 0 <|
  tb_iload 5 <|
  tb_const 1 <|
  tb_bin (fun x y => x + y) <|
  tb_iload 2 <|
  tb_iast <|
  tb_aload 0 <|
  tb_getR 5 0 <|
  tb_iload 5 <|
  tb_const 2 <|
  tb_bin (fun x y => x + y) <|
  tb_iload 3 <|
  tb_iast <|
  tb_aload 0 <|
  tb_getR 5 0 <|
  tb_iload 5 <|
  tb_const 3 <|
  tb_bin (fun x y => x + y) <|
  tb_iload 4 <|
  tb_iast <|
  tb_aload 0 <|
  tb_getR 5 0 <|
  tb_const 9 <|
  tb_dup2 <|
  tb_iald <|
  tb_const 1 <|
  tb_bin (fun x y => x + y) <|
  tb_iast <|
  tb_ret
def h_X5_adds : am_Hd := fun h => if h = 0 then t_X5_adds_0 else tb_bad
theorem h_X5_adds_0 : h_X5_adds 0 = t_X5_adds_0 := rfl
def rm_X5_adds : Room := { frames := 0, cells := 0, slots := 0, locals := 0 }
def sp_X5_adds : am_sp := fun as M Q => as.length ≤ 6 ∧ am_OK h_X5_adds Q 0 (am_in 6 as) M
theorem s_X5_adds_0 {G : am_G} {bc bs : Nat} (X : am_Cx G cX5_adds RX5 "adds" rm_X5_adds none 6 bc bs true) : am_S G 0 (t_X5_adds_0) := by
  unfold t_X5_adds_0
  refine as_bipush (pc := 0) X dX5_adds_0 (by decide) ?_
  refine as_iconst (pc := 2) X dX5_adds_2 (by decide) ?_
  refine as_aload_n (pc := 3) X dX5_adds_3 rfl ?_
  refine as_getR (ci := 5) (j := 0) (pc := 4) X (Cn := RX5) (Tf := TX5) (N := 21) rfl rfl (by decide) iw_X5 aw_738 rfl dX5_adds_4 ?_
  refine as_bipush (pc := 7) X dX5_adds_7 (by decide) ?_
  refine as_iald (pc := 9) X dX5_adds_9 ?_
  refine as_imul (pc := 10) X dX5_adds_10 ?_
  refine as_iadd (pc := 11) X dX5_adds_11 ?_
  refine as_istore (pc := 12) X dX5_adds_12 ?_ (by decide)
  refine as_aload_n (pc := 14) X dX5_adds_14 rfl ?_
  refine as_getR (ci := 5) (j := 0) (pc := 15) X (Cn := RX5) (Tf := TX5) (N := 21) rfl rfl (by decide) iw_X5 aw_738 rfl dX5_adds_15 ?_
  refine as_iload (pc := 18) X dX5_adds_18 ?_
  refine as_iconst (pc := 20) X dX5_adds_20 (by decide) ?_
  refine as_iadd (pc := 21) X dX5_adds_21 ?_
  refine as_iload_n (pc := 22) X dX5_adds_22 rfl ?_
  refine as_iast (pc := 23) X dX5_adds_23 ?_
  refine as_aload_n (pc := 24) X dX5_adds_24 rfl ?_
  refine as_getR (ci := 5) (j := 0) (pc := 25) X (Cn := RX5) (Tf := TX5) (N := 21) rfl rfl (by decide) iw_X5 aw_738 rfl dX5_adds_25 ?_
  refine as_iload (pc := 28) X dX5_adds_28 ?_
  refine as_iconst (pc := 30) X dX5_adds_30 (by decide) ?_
  refine as_iadd (pc := 31) X dX5_adds_31 ?_
  refine as_iload_n (pc := 32) X dX5_adds_32 rfl ?_
  refine as_iast (pc := 33) X dX5_adds_33 ?_
  refine as_aload_n (pc := 34) X dX5_adds_34 rfl ?_
  refine as_getR (ci := 5) (j := 0) (pc := 35) X (Cn := RX5) (Tf := TX5) (N := 21) rfl rfl (by decide) iw_X5 aw_738 rfl dX5_adds_35 ?_
  refine as_iload (pc := 38) X dX5_adds_38 ?_
  refine as_iconst (pc := 40) X dX5_adds_40 (by decide) ?_
  refine as_iadd (pc := 41) X dX5_adds_41 ?_
  refine as_iload_n (pc := 42) X dX5_adds_42 rfl ?_
  refine as_iast (pc := 43) X dX5_adds_43 ?_
  refine as_aload_n (pc := 44) X dX5_adds_44 rfl ?_
  refine as_getR (ci := 5) (j := 0) (pc := 45) X (Cn := RX5) (Tf := TX5) (N := 21) rfl rfl (by decide) iw_X5 aw_738 rfl dX5_adds_45 ?_
  refine as_iload (pc := 48) X dX5_adds_48 ?_
  refine as_iconst (pc := 50) X dX5_adds_50 (by decide) ?_
  refine as_iadd (pc := 51) X dX5_adds_51 ?_
  refine as_iload (pc := 52) X dX5_adds_52 ?_
  refine as_iast (pc := 54) X dX5_adds_54 ?_
  refine as_aload_n (pc := 55) X dX5_adds_55 rfl ?_
  refine as_getR (ci := 5) (j := 0) (pc := 56) X (Cn := RX5) (Tf := TX5) (N := 21) rfl rfl (by decide) iw_X5 aw_738 rfl dX5_adds_56 ?_
  refine as_bipush (pc := 59) X dX5_adds_59 (by decide) ?_
  refine as_dup2 (pc := 61) X dX5_adds_61 ?_
  refine as_iald (pc := 62) X dX5_adds_62 ?_
  refine as_iconst (pc := 63) X dX5_adds_63 (by decide) ?_
  refine as_iadd (pc := 64) X dX5_adds_64 ?_
  refine as_iast (pc := 65) X dX5_adds_65 ?_
  exact as_ret (pc := 66) X ⟨rfl, rfl⟩ rfl dX5_adds_66
theorem s_X5_adds {G : am_G} {bc bs : Nat} (X : am_Cx G cX5_adds RX5 "adds" rm_X5_adds none 6 bc bs true) (h : Nat) : am_S G h (h_X5_adds h) := by
  unfold h_X5_adds
  split
  · next e => rw [e]; exact s_X5_adds_0 X
  exact as_bad
theorem ct_X5_adds : am_Ct yX5_adds cX5_adds 6 none rm_X5_adds sp_X5_adds := am_met (own := RX5) (nm := "adds") (by decide) rfl rfl (Or.inl rfl) (fun _ _ => h_X5_adds) (fun _ _ _ X => s_X5_adds X) (fun _ _ _ _ h => h)
-- X5_line
theorem dX5_line_0 : decode cX5_line 0 = .ok (.iload_n 1, 1) := by decide +kernel
theorem dX5_line_1 : decode cX5_line 1 = .ok (.iload_n 2, 1) := by decide +kernel
theorem dX5_line_2 : decode cX5_line 2 = .ok (.iload_n 3, 1) := by decide +kernel
theorem dX5_line_3 : decode cX5_line 3 = .ok (.iload 4, 2) := by decide +kernel
theorem dX5_line_5 : decode cX5_line 5 = .ok (.invokestatic 127, 3) := by decide +kernel
theorem dX5_line_8 : decode cX5_line 8 = .ok (.ifCond .ne 5, 3) := by decide +kernel
theorem dX5_line_11 : decode cX5_line 11 = .ok (.iconst (-1), 1) := by decide +kernel
theorem dX5_line_12 : decode cX5_line 12 = .ok (.ireturn, 1) := by decide +kernel
theorem dX5_line_13 : decode cX5_line 13 = .ok (.aload_n 0, 1) := by decide +kernel
theorem dX5_line_14 : decode cX5_line 14 = .ok (.getfield 7, 3) := by decide +kernel
theorem dX5_line_17 : decode cX5_line 17 = .ok (.bipush 9, 2) := by decide +kernel
theorem dX5_line_19 : decode cX5_line 19 = .ok (.iaload, 1) := by decide +kernel
theorem dX5_line_20 : decode cX5_line 20 = .ok (.bipush 30, 2) := by decide +kernel
theorem dX5_line_22 : decode cX5_line 22 = .ok (.if_icmp .ne 6, 3) := by decide +kernel
theorem dX5_line_25 : decode cX5_line 25 = .ok (.bipush (-3), 2) := by decide +kernel
theorem dX5_line_27 : decode cX5_line 27 = .ok (.ireturn, 1) := by decide +kernel
theorem dX5_line_28 : decode cX5_line 28 = .ok (.aload_n 0, 1) := by decide +kernel
theorem dX5_line_29 : decode cX5_line 29 = .ok (.invokevirtual 68, 3) := by decide +kernel
theorem dX5_line_32 : decode cX5_line 32 = .ok (.aload_n 0, 1) := by decide +kernel
theorem dX5_line_33 : decode cX5_line 33 = .ok (.iload_n 1, 1) := by decide +kernel
theorem dX5_line_34 : decode cX5_line 34 = .ok (.iload_n 2, 1) := by decide +kernel
theorem dX5_line_35 : decode cX5_line 35 = .ok (.iload_n 3, 1) := by decide +kernel
theorem dX5_line_36 : decode cX5_line 36 = .ok (.iload 4, 2) := by decide +kernel
theorem dX5_line_38 : decode cX5_line 38 = .ok (.invokevirtual 131, 3) := by decide +kernel
theorem dX5_line_41 : decode cX5_line 41 = .ok (.aload_n 0, 1) := by decide +kernel
theorem dX5_line_42 : decode cX5_line 42 = .ok (.getfield 7, 3) := by decide +kernel
theorem dX5_line_45 : decode cX5_line 45 = .ok (.bipush 9, 2) := by decide +kernel
theorem dX5_line_47 : decode cX5_line 47 = .ok (.iaload, 1) := by decide +kernel
theorem dX5_line_48 : decode cX5_line 48 = .ok (.iconst 1, 1) := by decide +kernel
theorem dX5_line_49 : decode cX5_line 49 = .ok (.isub, 1) := by decide +kernel
theorem dX5_line_50 : decode cX5_line 50 = .ok (.ireturn, 1) := by decide +kernel
def t_X5_line_28 : am_T := tb_aload 0 <|
  tb_callV 5 sp_X5_changes 1 <|
  tb_aload 0 <|
  tb_iload 1 <|
  tb_iload 2 <|
  tb_iload 3 <|
  tb_iload 4 <|
  tb_callV 5 sp_X5_adds 5 <|
  tb_aload 0 <|
  tb_getR 5 0 <|
  tb_const 9 <|
  tb_iald <|
  tb_const 1 <|
  tb_bin (fun x y => x - y) <|
  tb_iret
def t_X5_line_13 : am_T := tb_aload 0 <|
  tb_getR 5 0 <|
  tb_const 9 <|
  tb_iald <|
  tb_const 30 <|
  tb_ic (fun x y => x ≠ y) (t_X5_line_28) <|
  tb_const (-3) <|
  tb_iret
def t_X5_line_0 : am_T := tb_iload 1 <|
  tb_iload 2 <|
  tb_iload 3 <|
  tb_iload 4 <|
  tb_callS sp_X5_isTold 4 <|
  tb_if (fun x => x ≠ 0) (t_X5_line_13) <|
  tb_const (-1) <|
  tb_iret
def h_X5_line : am_Hd := fun h => if h = 0 then t_X5_line_0 else tb_bad
theorem h_X5_line_0 : h_X5_line 0 = t_X5_line_0 := rfl
def rm_X5_line : Room := { frames := 2, cells := 0, slots := 0, locals := 45 }
def sp_X5_line : am_sp := fun as M Q => as.length ≤ 5 ∧ am_OK h_X5_line Q 0 (am_in 5 as) M
theorem s_X5_line_28 {G : am_G} {bc bs : Nat} (X : am_Cx G cX5_line RX5 "line" rm_X5_line (some .int) 5 bc bs true) : am_S G 28 (t_X5_line_28) := by
  unfold t_X5_line_28
  refine as_aload_n (pc := 28) X dX5_line_28 rfl ?_
  refine as_callV (ci := 5) (np := 0) (ix := 68) (pc := 29) X ct_X5_changes (Cn := (RX5, TX5, 21)) rfl ⟨rfl, rfl⟩ aw_816 aw_818 aw_26 aw_819 aw_65 (by decide +kernel) (by decide) dX5_line_29 ?_
  refine as_aload_n (pc := 32) X dX5_line_32 rfl ?_
  refine as_iload_n (pc := 33) X dX5_line_33 rfl ?_
  refine as_iload_n (pc := 34) X dX5_line_34 rfl ?_
  refine as_iload_n (pc := 35) X dX5_line_35 rfl ?_
  refine as_iload (pc := 36) X dX5_line_36 ?_
  refine as_callV (ci := 5) (np := 4) (ix := 131) (pc := 38) X ct_X5_adds (Cn := (RX5, TX5, 21)) rfl ⟨rfl, rfl⟩ aw_836 aw_838 aw_27 aw_839 aw_65 (by decide +kernel) (by decide) dX5_line_38 ?_
  refine as_aload_n (pc := 41) X dX5_line_41 rfl ?_
  refine as_getR (ci := 5) (j := 0) (pc := 42) X (Cn := RX5) (Tf := TX5) (N := 21) rfl rfl (by decide) iw_X5 aw_738 rfl dX5_line_42 ?_
  refine as_bipush (pc := 45) X dX5_line_45 (by decide) ?_
  refine as_iald (pc := 47) X dX5_line_47 ?_
  refine as_iconst (pc := 48) X dX5_line_48 (by decide) ?_
  refine as_isub (pc := 49) X dX5_line_49 ?_
  exact as_iret (pc := 50) X ⟨rfl, rfl⟩ rfl dX5_line_50
theorem s_X5_line_13 {G : am_G} {bc bs : Nat} (X : am_Cx G cX5_line RX5 "line" rm_X5_line (some .int) 5 bc bs true) : am_S G 13 (t_X5_line_13) := by
  unfold t_X5_line_13
  refine as_aload_n (pc := 13) X dX5_line_13 rfl ?_
  refine as_getR (ci := 5) (j := 0) (pc := 14) X (Cn := RX5) (Tf := TX5) (N := 21) rfl rfl (by decide) iw_X5 aw_738 rfl dX5_line_14 ?_
  refine as_bipush (pc := 17) X dX5_line_17 (by decide) ?_
  refine as_iald (pc := 19) X dX5_line_19 ?_
  refine as_bipush (pc := 20) X dX5_line_20 (by decide) ?_
  refine as_ic_ne (pc := 22) X 28 dX5_line_22 (by decide) (s_X5_line_28 X) ?_
  refine as_bipush (pc := 25) X dX5_line_25 (by decide) ?_
  exact as_iret (pc := 27) X ⟨rfl, rfl⟩ rfl dX5_line_27
theorem s_X5_line_0 {G : am_G} {bc bs : Nat} (X : am_Cx G cX5_line RX5 "line" rm_X5_line (some .int) 5 bc bs true) : am_S G 0 (t_X5_line_0) := by
  unfold t_X5_line_0
  refine as_iload_n (pc := 0) X dX5_line_0 rfl ?_
  refine as_iload_n (pc := 1) X dX5_line_1 rfl ?_
  refine as_iload_n (pc := 2) X dX5_line_2 rfl ?_
  refine as_iload (pc := 3) X dX5_line_3 ?_
  refine as_callS (np := 4) (ix := 127) (pc := 5) X ct_X5_isTold ⟨rfl, rfl⟩ aw_832 aw_833 aw_834 aw_65 (by decide +kernel) (by decide) dX5_line_5 ?_
  refine as_if_ne (pc := 8) X 13 dX5_line_8 (by decide) (s_X5_line_13 X) ?_
  refine as_iconst (pc := 11) X dX5_line_11 (by decide) ?_
  exact as_iret (pc := 12) X ⟨rfl, rfl⟩ rfl dX5_line_12
theorem s_X5_line {G : am_G} {bc bs : Nat} (X : am_Cx G cX5_line RX5 "line" rm_X5_line (some .int) 5 bc bs true) (h : Nat) : am_S G h (h_X5_line h) := by
  unfold h_X5_line
  split
  · next e => rw [e]; exact s_X5_line_0 X
  exact as_bad
theorem ct_X5_line : am_Ct yX5_line cX5_line 5 (some .int) rm_X5_line sp_X5_line := am_met (own := RX5) (nm := "line") (by decide) rfl rfl (Or.inr (Or.inl rfl)) (fun _ _ => h_X5_line) (fun _ _ _ X => s_X5_line X) (fun _ _ _ _ h => h)
-- X1_isLine
theorem dX1_isLine_0 : decode cX1_isLine 0 = .ok (.iload_n 1, 1) := by decide +kernel
theorem dX1_isLine_1 : decode cX1_isLine 1 = .ok (.ifCond .lt 15, 3) := by decide +kernel
theorem dX1_isLine_4 : decode cX1_isLine 4 = .ok (.iload_n 1, 1) := by decide +kernel
theorem dX1_isLine_5 : decode cX1_isLine 5 = .ok (.aload_n 0, 1) := by decide +kernel
theorem dX1_isLine_6 : decode cX1_isLine 6 = .ok (.getfield 25, 3) := by decide +kernel
theorem dX1_isLine_9 : decode cX1_isLine 9 = .ok (.if_icmp .ge 7, 3) := by decide +kernel
theorem dX1_isLine_12 : decode cX1_isLine 12 = .ok (.iconst 1, 1) := by decide +kernel
theorem dX1_isLine_13 : decode cX1_isLine 13 = .ok (.goto 4, 3) := by decide +kernel
theorem dX1_isLine_16 : decode cX1_isLine 16 = .ok (.iconst 0, 1) := by decide +kernel
theorem dX1_isLine_17 : decode cX1_isLine 17 = .ok (.ireturn, 1) := by decide +kernel
def t_X1_isLine_17 : am_T := tb_zret
def t_X1_isLine_16 : am_T := tb_const 0 <|
  t_X1_isLine_17
def t_X1_isLine_0 : am_T := tb_iload 1 <|
  tb_if (fun x => x < 0) (t_X1_isLine_16) <|
  tb_iload 1 <|
  tb_aload 0 <|
  tb_getI 1 4 <|
  tb_ic (fun x y => y ≤ x) (t_X1_isLine_16) <|
  tb_const 1 <|
  t_X1_isLine_17
def h_X1_isLine : am_Hd := fun h => if h = 0 then t_X1_isLine_0 else tb_bad
theorem h_X1_isLine_0 : h_X1_isLine 0 = t_X1_isLine_0 := rfl
def rm_X1_isLine : Room := { frames := 0, cells := 0, slots := 0, locals := 0 }
def sp_X1_isLine : am_sp := fun as M Q => as.length ≤ 2 ∧ am_OK h_X1_isLine Q 0 (am_in 2 as) M
theorem s_X1_isLine_17 {G : am_G} {bc bs : Nat} (X : am_Cx G cX1_isLine RX1 "isLine" rm_X1_isLine (some .boolean) 2 bc bs true) : am_S G 17 (t_X1_isLine_17) := by
  unfold t_X1_isLine_17
  exact as_zret (pc := 17) X ⟨rfl, rfl⟩ rfl dX1_isLine_17
theorem s_X1_isLine_16 {G : am_G} {bc bs : Nat} (X : am_Cx G cX1_isLine RX1 "isLine" rm_X1_isLine (some .boolean) 2 bc bs true) : am_S G 16 (t_X1_isLine_16) := by
  unfold t_X1_isLine_16
  refine as_iconst (pc := 16) X dX1_isLine_16 (by decide) ?_
  exact s_X1_isLine_17 X
theorem s_X1_isLine_0 {G : am_G} {bc bs : Nat} (X : am_Cx G cX1_isLine RX1 "isLine" rm_X1_isLine (some .boolean) 2 bc bs true) : am_S G 0 (t_X1_isLine_0) := by
  unfold t_X1_isLine_0
  refine as_iload_n (pc := 0) X dX1_isLine_0 rfl ?_
  refine as_if_lt (pc := 1) X 16 dX1_isLine_1 (by decide) (s_X1_isLine_16 X) ?_
  refine as_iload_n (pc := 4) X dX1_isLine_4 rfl ?_
  refine as_aload_n (pc := 5) X dX1_isLine_5 rfl ?_
  refine as_getI (ci := 1) (j := 4) (pc := 6) X (Cn := RX1) (Tf := TX1) (N := 14) rfl rfl (by decide) iw_X1 aw_98 rfl dX1_isLine_6 ?_
  refine as_ic_ge (pc := 9) X 16 dX1_isLine_9 (by decide) (s_X1_isLine_16 X) ?_
  refine as_iconst (pc := 12) X dX1_isLine_12 (by decide) ?_
  exact as_goto (pc := 13) X 17 dX1_isLine_13 (by decide) (s_X1_isLine_17 X)
theorem s_X1_isLine {G : am_G} {bc bs : Nat} (X : am_Cx G cX1_isLine RX1 "isLine" rm_X1_isLine (some .boolean) 2 bc bs true) (h : Nat) : am_S G h (h_X1_isLine h) := by
  unfold h_X1_isLine
  split
  · next e => rw [e]; exact s_X1_isLine_0 X
  exact as_bad
theorem ct_X1_isLine : am_Ct yX1_isLine cX1_isLine 2 (some .boolean) rm_X1_isLine sp_X1_isLine := am_met (own := RX1) (nm := "isLine") (by decide) rfl rfl (Or.inr (Or.inr (Or.inl rfl))) (fun _ _ => h_X1_isLine) (fun _ _ _ X => s_X1_isLine X) (fun _ _ _ _ h => h)
