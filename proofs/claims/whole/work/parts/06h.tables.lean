-- X0_takeBack
theorem dX0_takeBack_0 : decode cX0_takeBack 0 = .ok (.aload_n 0, 1) := by decide +kernel
theorem dX0_takeBack_1 : decode cX0_takeBack 1 = .ok (.getfield 9, 3) := by decide +kernel
theorem dX0_takeBack_4 : decode cX0_takeBack 4 = .ok (.ifCond .le 32, 3) := by decide +kernel
theorem dX0_takeBack_7 : decode cX0_takeBack 7 = .ok (.aload_n 0, 1) := by decide +kernel
theorem dX0_takeBack_8 : decode cX0_takeBack 8 = .ok (.dup, 1) := by decide +kernel
theorem dX0_takeBack_9 : decode cX0_takeBack 9 = .ok (.getfield 9, 3) := by decide +kernel
theorem dX0_takeBack_12 : decode cX0_takeBack 12 = .ok (.iconst 1, 1) := by decide +kernel
theorem dX0_takeBack_13 : decode cX0_takeBack 13 = .ok (.isub, 1) := by decide +kernel
theorem dX0_takeBack_14 : decode cX0_takeBack 14 = .ok (.putfield 9, 3) := by decide +kernel
theorem dX0_takeBack_17 : decode cX0_takeBack 17 = .ok (.aload_n 0, 1) := by decide +kernel
theorem dX0_takeBack_18 : decode cX0_takeBack 18 = .ok (.getfield 17, 3) := by decide +kernel
theorem dX0_takeBack_21 : decode cX0_takeBack 21 = .ok (.aload_n 0, 1) := by decide +kernel
theorem dX0_takeBack_22 : decode cX0_takeBack 22 = .ok (.getfield 9, 3) := by decide +kernel
theorem dX0_takeBack_25 : decode cX0_takeBack 25 = .ok (.aaload, 1) := by decide +kernel
theorem dX0_takeBack_26 : decode cX0_takeBack 26 = .ok (.astore_n 2, 1) := by decide +kernel
theorem dX0_takeBack_27 : decode cX0_takeBack 27 = .ok (.aload_n 2, 1) := by decide +kernel
theorem dX0_takeBack_28 : decode cX0_takeBack 28 = .ok (.ifnull 8, 3) := by decide +kernel
theorem dX0_takeBack_31 : decode cX0_takeBack 31 = .ok (.aload_n 1, 1) := by decide +kernel
theorem dX0_takeBack_32 : decode cX0_takeBack 32 = .ok (.aload_n 2, 1) := by decide +kernel
theorem dX0_takeBack_33 : decode cX0_takeBack 33 = .ok (.invokevirtual 25, 3) := by decide +kernel
theorem dX0_takeBack_36 : decode cX0_takeBack 36 = .ok (.return_, 1) := by decide +kernel
def t_X0_takeBack_36 : am_T := tb_ret
def t_X0_takeBack_0 : am_T := tb_aload 0 <|
  tb_getI 0 0 <|
  tb_if (fun x => x ≤ 0) (t_X0_takeBack_36) <|
  tb_aload 0 <|
  tb_dup <|
  tb_getI 0 0 <|
  tb_const 1 <|
  tb_bin (fun x y => x - y) <|
  tb_putI 0 0 <|
  tb_aload 0 <|
  tb_getR 0 1 <|
  tb_aload 0 <|
  tb_getI 0 0 <|
  tb_aald <|
  tb_astore 2 <|
  tb_aload 2 <|
  tb_nn <|
  tb_aload 1 <|
  tb_aload 2 <|
  tb_callV 1 sp_X1_copyFrom 2 <|
  t_X0_takeBack_36
def h_X0_takeBack : am_Hd := fun h => if h = 0 then t_X0_takeBack_0 else tb_bad
theorem h_X0_takeBack_0 : h_X0_takeBack 0 = t_X0_takeBack_0 := rfl
def rm_X0_takeBack : Room := { frames := 2, cells := 0, slots := 0, locals := 47 }
def sp_X0_takeBack : am_sp := fun as M Q => as.length ≤ 3 ∧ am_OK h_X0_takeBack Q 0 (am_in 3 as) M
theorem s_X0_takeBack_36 {G : am_G} {bc bs : Nat} (X : am_Cx G cX0_takeBack RX0 "takeBack" rm_X0_takeBack none 3 bc bs true) : am_S G 36 (t_X0_takeBack_36) := by
  unfold t_X0_takeBack_36
  exact as_ret (pc := 36) X ⟨rfl, rfl⟩ rfl dX0_takeBack_36
theorem s_X0_takeBack_0 {G : am_G} {bc bs : Nat} (X : am_Cx G cX0_takeBack RX0 "takeBack" rm_X0_takeBack none 3 bc bs true) : am_S G 0 (t_X0_takeBack_0) := by
  unfold t_X0_takeBack_0
  refine as_aload_n (pc := 0) X dX0_takeBack_0 rfl ?_
  refine as_getI (ci := 0) (j := 0) (pc := 1) X (Cn := RX0) (Tf := TX0) (N := 2) rfl rfl (by decide) iw_X0 aw_230 rfl dX0_takeBack_1 ?_
  refine as_if_le (pc := 4) X 36 dX0_takeBack_4 (by decide) (s_X0_takeBack_36 X) ?_
  refine as_aload_n (pc := 7) X dX0_takeBack_7 rfl ?_
  refine as_dup (pc := 8) X dX0_takeBack_8 ?_
  refine as_getI (ci := 0) (j := 0) (pc := 9) X (Cn := RX0) (Tf := TX0) (N := 2) rfl rfl (by decide) iw_X0 aw_230 rfl dX0_takeBack_9 ?_
  refine as_iconst (pc := 12) X dX0_takeBack_12 (by decide) ?_
  refine as_isub (pc := 13) X dX0_takeBack_13 ?_
  refine as_putI (ci := 0) (j := 0) (pc := 14) X (Cn := RX0) (Tf := TX0) (N := 2) rfl rfl (by decide) iw_X0 aw_230 tyX0 tyX0_ok nmX0 rfl rfl (by decide +kernel) dX0_takeBack_14 ?_
  refine as_aload_n (pc := 17) X dX0_takeBack_17 rfl ?_
  refine as_getR (ci := 0) (j := 1) (pc := 18) X (Cn := RX0) (Tf := TX0) (N := 2) rfl rfl (by decide) iw_X0 aw_232 rfl dX0_takeBack_18 ?_
  refine as_aload_n (pc := 21) X dX0_takeBack_21 rfl ?_
  refine as_getI (ci := 0) (j := 0) (pc := 22) X (Cn := RX0) (Tf := TX0) (N := 2) rfl rfl (by decide) iw_X0 aw_230 rfl dX0_takeBack_22 ?_
  refine as_aald (pc := 25) X dX0_takeBack_25 ?_
  refine as_astore_n (pc := 26) X dX0_takeBack_26 rfl ?_ (by decide)
  refine as_aload_n (pc := 27) X dX0_takeBack_27 rfl ?_
  refine as_nn (pc := 28) X dX0_takeBack_28 ?_
  refine as_aload_n (pc := 31) X dX0_takeBack_31 rfl ?_
  refine as_aload_n (pc := 32) X dX0_takeBack_32 rfl ?_
  refine as_callV (ci := 1) (np := 1) (ix := 25) (pc := 33) X ct_X1_copyFrom (Cn := (RX1, TX1, 14)) rfl ⟨rfl, rfl⟩ aw_334 aw_335 aw_336 aw_337 aw_61 (by decide +kernel) (by decide) dX0_takeBack_33 ?_
  exact s_X0_takeBack_36 X
theorem s_X0_takeBack {G : am_G} {bc bs : Nat} (X : am_Cx G cX0_takeBack RX0 "takeBack" rm_X0_takeBack none 3 bc bs true) (h : Nat) : am_S G h (h_X0_takeBack h) := by
  unfold h_X0_takeBack
  split
  · next e => rw [e]; exact s_X0_takeBack_0 X
  exact as_bad
theorem ct_X0_takeBack : am_Ct yX0_takeBack cX0_takeBack 3 none rm_X0_takeBack sp_X0_takeBack := am_met (own := RX0) (nm := "takeBack") (by decide) rfl rfl (Or.inl rfl) (fun _ _ => h_X0_takeBack) (fun _ _ _ X => s_X0_takeBack X) (fun _ _ _ _ h => h)
-- X4_undo
theorem dX4_undo_0 : decode cX4_undo 0 = .ok (.aload_n 0, 1) := by decide +kernel
theorem dX4_undo_1 : decode cX4_undo 1 = .ok (.getfield 28, 3) := by decide +kernel
theorem dX4_undo_4 : decode cX4_undo 4 = .ok (.getfield 170, 3) := by decide +kernel
theorem dX4_undo_7 : decode cX4_undo 7 = .ok (.ifCond .ne 6, 3) := by decide +kernel
theorem dX4_undo_10 : decode cX4_undo 10 = .ok (.bipush (-2), 2) := by decide +kernel
theorem dX4_undo_12 : decode cX4_undo 12 = .ok (.ireturn, 1) := by decide +kernel
theorem dX4_undo_13 : decode cX4_undo 13 = .ok (.aload_n 0, 1) := by decide +kernel
theorem dX4_undo_14 : decode cX4_undo 14 = .ok (.getfield 28, 3) := by decide +kernel
theorem dX4_undo_17 : decode cX4_undo 17 = .ok (.aload_n 0, 1) := by decide +kernel
theorem dX4_undo_18 : decode cX4_undo 18 = .ok (.getfield 20, 3) := by decide +kernel
theorem dX4_undo_21 : decode cX4_undo 21 = .ok (.invokevirtual 176, 3) := by decide +kernel
theorem dX4_undo_24 : decode cX4_undo 24 = .ok (.aload_n 0, 1) := by decide +kernel
theorem dX4_undo_25 : decode cX4_undo 25 = .ok (.iconst 1, 1) := by decide +kernel
theorem dX4_undo_26 : decode cX4_undo 26 = .ok (.putfield 21, 3) := by decide +kernel
theorem dX4_undo_29 : decode cX4_undo 29 = .ok (.aload_n 0, 1) := by decide +kernel
theorem dX4_undo_30 : decode cX4_undo 30 = .ok (.getfield 28, 3) := by decide +kernel
theorem dX4_undo_33 : decode cX4_undo 33 = .ok (.getfield 170, 3) := by decide +kernel
theorem dX4_undo_36 : decode cX4_undo 36 = .ok (.ireturn, 1) := by decide +kernel
def t_X4_undo_13 : am_T := tb_aload 0 <|
  tb_getR 4 3 <|
  tb_aload 0 <|
  tb_getR 4 1 <|
  tb_callV 0 sp_X0_takeBack 2 <|
  tb_aload 0 <|
  tb_const 1 <|
  tb_putN .boolean 4 2 <|
  tb_aload 0 <|
  tb_getR 4 3 <|
  tb_getI 0 0 <|
  tb_iret
def t_X4_undo_0 : am_T := tb_aload 0 <|
  tb_getR 4 3 <|
  tb_getI 0 0 <|
  tb_if (fun x => x ≠ 0) (t_X4_undo_13) <|
  tb_const (-2) <|
  tb_iret
def h_X4_undo : am_Hd := fun h => if h = 0 then t_X4_undo_0 else tb_bad
theorem h_X4_undo_0 : h_X4_undo 0 = t_X4_undo_0 := rfl
def rm_X4_undo : Room := { frames := 3, cells := 0, slots := 0, locals := 69 }
def sp_X4_undo : am_sp := fun as M Q => as.length ≤ 1 ∧ am_OK h_X4_undo Q 0 (am_in 1 as) M
theorem s_X4_undo_13 {G : am_G} {bc bs : Nat} (X : am_Cx G cX4_undo RX4 "undo" rm_X4_undo (some .int) 1 bc bs true) : am_S G 13 (t_X4_undo_13) := by
  unfold t_X4_undo_13
  refine as_aload_n (pc := 13) X dX4_undo_13 rfl ?_
  refine as_getR (ci := 4) (j := 3) (pc := 14) X (Cn := RX4) (Tf := TX4) (N := 7) rfl rfl (by decide) iw_X4 aw_277 rfl dX4_undo_14 ?_
  refine as_aload_n (pc := 17) X dX4_undo_17 rfl ?_
  refine as_getR (ci := 4) (j := 1) (pc := 18) X (Cn := RX4) (Tf := TX4) (N := 7) rfl rfl (by decide) iw_X4 aw_275 rfl dX4_undo_18 ?_
  refine as_callV (ci := 0) (np := 1) (ix := 176) (pc := 21) X ct_X0_takeBack (Cn := (RX0, TX0, 2)) rfl ⟨rfl, rfl⟩ aw_548 aw_549 aw_550 aw_551 aw_63 (by decide +kernel) (by decide) dX4_undo_21 ?_
  refine as_aload_n (pc := 24) X dX4_undo_24 rfl ?_
  refine as_iconst (pc := 25) X dX4_undo_25 (by decide) ?_
  refine as_putN (ci := 4) (j := 2) (pc := 26) X (Cn := RX4) (Tf := TX4) (N := 7) rfl rfl (by decide) iw_X4 aw_276 tyX4 tyX4_ok nmX4 rfl (ty := .boolean) rfl (by decide +kernel) dX4_undo_26 ?_
  refine as_aload_n (pc := 29) X dX4_undo_29 rfl ?_
  refine as_getR (ci := 4) (j := 3) (pc := 30) X (Cn := RX4) (Tf := TX4) (N := 7) rfl rfl (by decide) iw_X4 aw_277 rfl dX4_undo_30 ?_
  refine as_getI (ci := 0) (j := 0) (pc := 33) X (Cn := RX0) (Tf := TX0) (N := 2) rfl rfl (by decide) iw_X0 aw_231 rfl dX4_undo_33 ?_
  exact as_iret (pc := 36) X ⟨rfl, rfl⟩ rfl dX4_undo_36
theorem s_X4_undo_0 {G : am_G} {bc bs : Nat} (X : am_Cx G cX4_undo RX4 "undo" rm_X4_undo (some .int) 1 bc bs true) : am_S G 0 (t_X4_undo_0) := by
  unfold t_X4_undo_0
  refine as_aload_n (pc := 0) X dX4_undo_0 rfl ?_
  refine as_getR (ci := 4) (j := 3) (pc := 1) X (Cn := RX4) (Tf := TX4) (N := 7) rfl rfl (by decide) iw_X4 aw_277 rfl dX4_undo_1 ?_
  refine as_getI (ci := 0) (j := 0) (pc := 4) X (Cn := RX0) (Tf := TX0) (N := 2) rfl rfl (by decide) iw_X0 aw_231 rfl dX4_undo_4 ?_
  refine as_if_ne (pc := 7) X 13 dX4_undo_7 (by decide) (s_X4_undo_13 X) ?_
  refine as_bipush (pc := 10) X dX4_undo_10 (by decide) ?_
  exact as_iret (pc := 12) X ⟨rfl, rfl⟩ rfl dX4_undo_12
theorem s_X4_undo {G : am_G} {bc bs : Nat} (X : am_Cx G cX4_undo RX4 "undo" rm_X4_undo (some .int) 1 bc bs true) (h : Nat) : am_S G h (h_X4_undo h) := by
  unfold h_X4_undo
  split
  · next e => rw [e]; exact s_X4_undo_0 X
  exact as_bad
theorem ct_X4_undo : am_Ct yX4_undo cX4_undo 1 (some .int) rm_X4_undo sp_X4_undo := am_met (own := RX4) (nm := "undo") (by decide) rfl rfl (Or.inr (Or.inl rfl)) (fun _ _ => h_X4_undo) (fun _ _ _ X => s_X4_undo X) (fun _ _ _ _ h => h)
-- X5_undo
theorem dX5_undo_0 : decode cX5_undo 0 = .ok (.aload_n 0, 1) := by decide +kernel
theorem dX5_undo_1 : decode cX5_undo 1 = .ok (.getfield 52, 3) := by decide +kernel
theorem dX5_undo_4 : decode cX5_undo 4 = .ok (.ifCond .ne 6, 3) := by decide +kernel
theorem dX5_undo_7 : decode cX5_undo 7 = .ok (.bipush (-2), 2) := by decide +kernel
theorem dX5_undo_9 : decode cX5_undo 9 = .ok (.ireturn, 1) := by decide +kernel
theorem dX5_undo_10 : decode cX5_undo 10 = .ok (.aload_n 0, 1) := by decide +kernel
theorem dX5_undo_11 : decode cX5_undo 11 = .ok (.dup, 1) := by decide +kernel
theorem dX5_undo_12 : decode cX5_undo 12 = .ok (.getfield 52, 3) := by decide +kernel
theorem dX5_undo_15 : decode cX5_undo 15 = .ok (.iconst 1, 1) := by decide +kernel
theorem dX5_undo_16 : decode cX5_undo 16 = .ok (.isub, 1) := by decide +kernel
theorem dX5_undo_17 : decode cX5_undo 17 = .ok (.putfield 52, 3) := by decide +kernel
theorem dX5_undo_20 : decode cX5_undo 20 = .ok (.iconst 0, 1) := by decide +kernel
theorem dX5_undo_21 : decode cX5_undo 21 = .ok (.istore_n 1, 1) := by decide +kernel
theorem dX5_undo_22 : decode cX5_undo 22 = .ok (.iload_n 1, 1) := by decide +kernel
theorem dX5_undo_23 : decode cX5_undo 23 = .ok (.sipush 227, 3) := by decide +kernel
theorem dX5_undo_26 : decode cX5_undo 26 = .ok (.if_icmp .ge 30, 3) := by decide +kernel
theorem dX5_undo_29 : decode cX5_undo 29 = .ok (.aload_n 0, 1) := by decide +kernel
theorem dX5_undo_30 : decode cX5_undo 30 = .ok (.getfield 7, 3) := by decide +kernel
theorem dX5_undo_33 : decode cX5_undo 33 = .ok (.iload_n 1, 1) := by decide +kernel
theorem dX5_undo_34 : decode cX5_undo 34 = .ok (.aload_n 0, 1) := by decide +kernel
theorem dX5_undo_35 : decode cX5_undo 35 = .ok (.getfield 16, 3) := by decide +kernel
theorem dX5_undo_38 : decode cX5_undo 38 = .ok (.sipush 227, 3) := by decide +kernel
theorem dX5_undo_41 : decode cX5_undo 41 = .ok (.aload_n 0, 1) := by decide +kernel
theorem dX5_undo_42 : decode cX5_undo 42 = .ok (.getfield 52, 3) := by decide +kernel
theorem dX5_undo_45 : decode cX5_undo 45 = .ok (.imul, 1) := by decide +kernel
theorem dX5_undo_46 : decode cX5_undo 46 = .ok (.iload_n 1, 1) := by decide +kernel
theorem dX5_undo_47 : decode cX5_undo 47 = .ok (.iadd, 1) := by decide +kernel
theorem dX5_undo_48 : decode cX5_undo 48 = .ok (.iaload, 1) := by decide +kernel
theorem dX5_undo_49 : decode cX5_undo 49 = .ok (.iastore, 1) := by decide +kernel
theorem dX5_undo_50 : decode cX5_undo 50 = .ok (.iinc 1 1, 3) := by decide +kernel
theorem dX5_undo_53 : decode cX5_undo 53 = .ok (.goto (-31), 3) := by decide +kernel
theorem dX5_undo_56 : decode cX5_undo 56 = .ok (.aload_n 0, 1) := by decide +kernel
theorem dX5_undo_57 : decode cX5_undo 57 = .ok (.getfield 52, 3) := by decide +kernel
theorem dX5_undo_60 : decode cX5_undo 60 = .ok (.ireturn, 1) := by decide +kernel
def t_X5_undo_56 : am_T := tb_aload 0 <|
  tb_getI 5 3 <|
  tb_iret
def t_X5_undo_22 : am_T := tb_iload 1 <|
  tb_const 227 <|
  tb_ic (fun x y => y ≤ x) (t_X5_undo_56) <|
  tb_aload 0 <|
  tb_getR 5 0 <|
  tb_iload 1 <|
  tb_aload 0 <|
  tb_getR 5 2 <|
  tb_const 227 <|
  tb_aload 0 <|
  tb_getI 5 3 <|
  tb_bin (fun x y => x * y) <|
  tb_iload 1 <|
  tb_bin (fun x y => x + y) <|
  tb_iald <|
  tb_iast <|
  tb_iinc 1 1 <|
  tb_head 22
def t_X5_undo_10 : am_T := tb_aload 0 <|
  tb_dup <|
  tb_getI 5 3 <|
  tb_const 1 <|
  tb_bin (fun x y => x - y) <|
  tb_putI 5 3 <|
  tb_const 0 <|
  tb_istore 1 <|
  tb_head 22
def t_X5_undo_0 : am_T := tb_aload 0 <|
  tb_getI 5 3 <|
  tb_if (fun x => x ≠ 0) (t_X5_undo_10) <|
  tb_const (-2) <|
  tb_iret
def h_X5_undo : am_Hd := fun h => if h = 0 then t_X5_undo_0 else if h = 22 then t_X5_undo_22 else tb_bad
theorem h_X5_undo_0 : h_X5_undo 0 = t_X5_undo_0 := rfl
theorem h_X5_undo_22 : h_X5_undo 22 = t_X5_undo_22 := rfl
def rm_X5_undo : Room := { frames := 0, cells := 0, slots := 0, locals := 0 }
def sp_X5_undo : am_sp := fun as M Q => as.length ≤ 2 ∧ am_OK h_X5_undo Q 0 (am_in 2 as) M
theorem s_X5_undo_56 {G : am_G} {bc bs : Nat} (X : am_Cx G cX5_undo RX5 "undo" rm_X5_undo (some .int) 2 bc bs true) : am_S G 56 (t_X5_undo_56) := by
  unfold t_X5_undo_56
  refine as_aload_n (pc := 56) X dX5_undo_56 rfl ?_
  refine as_getI (ci := 5) (j := 3) (pc := 57) X (Cn := RX5) (Tf := TX5) (N := 21) rfl rfl (by decide) iw_X5 aw_741 rfl dX5_undo_57 ?_
  exact as_iret (pc := 60) X ⟨rfl, rfl⟩ rfl dX5_undo_60
theorem s_X5_undo_22 {G : am_G} {bc bs : Nat} (X : am_Cx G cX5_undo RX5 "undo" rm_X5_undo (some .int) 2 bc bs true) : am_S G 22 (t_X5_undo_22) := by
  unfold t_X5_undo_22
  refine as_iload_n (pc := 22) X dX5_undo_22 rfl ?_
  refine as_sipush (pc := 23) X dX5_undo_23 (by decide) ?_
  refine as_ic_ge (pc := 26) X 56 dX5_undo_26 (by decide) (s_X5_undo_56 X) ?_
  refine as_aload_n (pc := 29) X dX5_undo_29 rfl ?_
  refine as_getR (ci := 5) (j := 0) (pc := 30) X (Cn := RX5) (Tf := TX5) (N := 21) rfl rfl (by decide) iw_X5 aw_738 rfl dX5_undo_30 ?_
  refine as_iload_n (pc := 33) X dX5_undo_33 rfl ?_
  refine as_aload_n (pc := 34) X dX5_undo_34 rfl ?_
  refine as_getR (ci := 5) (j := 2) (pc := 35) X (Cn := RX5) (Tf := TX5) (N := 21) rfl rfl (by decide) iw_X5 aw_740 rfl dX5_undo_35 ?_
  refine as_sipush (pc := 38) X dX5_undo_38 (by decide) ?_
  refine as_aload_n (pc := 41) X dX5_undo_41 rfl ?_
  refine as_getI (ci := 5) (j := 3) (pc := 42) X (Cn := RX5) (Tf := TX5) (N := 21) rfl rfl (by decide) iw_X5 aw_741 rfl dX5_undo_42 ?_
  refine as_imul (pc := 45) X dX5_undo_45 ?_
  refine as_iload_n (pc := 46) X dX5_undo_46 rfl ?_
  refine as_iadd (pc := 47) X dX5_undo_47 ?_
  refine as_iald (pc := 48) X dX5_undo_48 ?_
  refine as_iast (pc := 49) X dX5_undo_49 ?_
  refine as_iinc (pc := 50) X dX5_undo_50 (by decide) (by decide) ?_
  exact as_goto (pc := 53) X 22 dX5_undo_53 (by decide) (as_head)
theorem s_X5_undo_10 {G : am_G} {bc bs : Nat} (X : am_Cx G cX5_undo RX5 "undo" rm_X5_undo (some .int) 2 bc bs true) : am_S G 10 (t_X5_undo_10) := by
  unfold t_X5_undo_10
  refine as_aload_n (pc := 10) X dX5_undo_10 rfl ?_
  refine as_dup (pc := 11) X dX5_undo_11 ?_
  refine as_getI (ci := 5) (j := 3) (pc := 12) X (Cn := RX5) (Tf := TX5) (N := 21) rfl rfl (by decide) iw_X5 aw_741 rfl dX5_undo_12 ?_
  refine as_iconst (pc := 15) X dX5_undo_15 (by decide) ?_
  refine as_isub (pc := 16) X dX5_undo_16 ?_
  refine as_putI (ci := 5) (j := 3) (pc := 17) X (Cn := RX5) (Tf := TX5) (N := 21) rfl rfl (by decide) iw_X5 aw_741 tyX5 tyX5_ok nmX5 rfl rfl (by decide +kernel) dX5_undo_17 ?_
  refine as_iconst (pc := 20) X dX5_undo_20 (by decide) ?_
  refine as_istore_n (pc := 21) X dX5_undo_21 rfl ?_ (by decide)
  exact as_head
theorem s_X5_undo_0 {G : am_G} {bc bs : Nat} (X : am_Cx G cX5_undo RX5 "undo" rm_X5_undo (some .int) 2 bc bs true) : am_S G 0 (t_X5_undo_0) := by
  unfold t_X5_undo_0
  refine as_aload_n (pc := 0) X dX5_undo_0 rfl ?_
  refine as_getI (ci := 5) (j := 3) (pc := 1) X (Cn := RX5) (Tf := TX5) (N := 21) rfl rfl (by decide) iw_X5 aw_741 rfl dX5_undo_1 ?_
  refine as_if_ne (pc := 4) X 10 dX5_undo_4 (by decide) (s_X5_undo_10 X) ?_
  refine as_bipush (pc := 7) X dX5_undo_7 (by decide) ?_
  exact as_iret (pc := 9) X ⟨rfl, rfl⟩ rfl dX5_undo_9
theorem s_X5_undo {G : am_G} {bc bs : Nat} (X : am_Cx G cX5_undo RX5 "undo" rm_X5_undo (some .int) 2 bc bs true) (h : Nat) : am_S G h (h_X5_undo h) := by
  unfold h_X5_undo
  split
  · next e => rw [e]; exact s_X5_undo_0 X
  split
  · next e => rw [e]; exact s_X5_undo_22 X
  exact as_bad
theorem ct_X5_undo : am_Ct yX5_undo cX5_undo 2 (some .int) rm_X5_undo sp_X5_undo := am_met (own := RX5) (nm := "undo") (by decide) rfl rfl (Or.inr (Or.inl rfl)) (fun _ _ => h_X5_undo) (fun _ _ _ X => s_X5_undo X) (fun _ _ _ _ h => h)
-- X1_canBeFixed
theorem dX1_canBeFixed_0 : decode cX1_canBeFixed 0 = .ok (.iload_n 1, 1) := by decide +kernel
theorem dX1_canBeFixed_1 : decode cX1_canBeFixed 1 = .ok (.ifCond .eq 14, 3) := by decide +kernel
theorem dX1_canBeFixed_4 : decode cX1_canBeFixed 4 = .ok (.aload_n 0, 1) := by decide +kernel
theorem dX1_canBeFixed_5 : decode cX1_canBeFixed 5 = .ok (.iload_n 3, 1) := by decide +kernel
theorem dX1_canBeFixed_6 : decode cX1_canBeFixed 6 = .ok (.iload_n 2, 1) := by decide +kernel
theorem dX1_canBeFixed_7 : decode cX1_canBeFixed 7 = .ok (.invokevirtual 79, 3) := by decide +kernel
theorem dX1_canBeFixed_10 : decode cX1_canBeFixed 10 = .ok (.ifCond .ne 5, 3) := by decide +kernel
theorem dX1_canBeFixed_13 : decode cX1_canBeFixed 13 = .ok (.iconst 0, 1) := by decide +kernel
theorem dX1_canBeFixed_14 : decode cX1_canBeFixed 14 = .ok (.ireturn, 1) := by decide +kernel
theorem dX1_canBeFixed_15 : decode cX1_canBeFixed 15 = .ok (.aload_n 0, 1) := by decide +kernel
theorem dX1_canBeFixed_16 : decode cX1_canBeFixed 16 = .ok (.iload_n 1, 1) := by decide +kernel
theorem dX1_canBeFixed_17 : decode cX1_canBeFixed 17 = .ok (.iload_n 2, 1) := by decide +kernel
theorem dX1_canBeFixed_18 : decode cX1_canBeFixed 18 = .ok (.iload_n 3, 1) := by decide +kernel
theorem dX1_canBeFixed_19 : decode cX1_canBeFixed 19 = .ok (.invokevirtual 82, 3) := by decide +kernel
theorem dX1_canBeFixed_22 : decode cX1_canBeFixed 22 = .ok (.iconst (-1), 1) := by decide +kernel
theorem dX1_canBeFixed_23 : decode cX1_canBeFixed 23 = .ok (.if_icmp .ne 7, 3) := by decide +kernel
theorem dX1_canBeFixed_26 : decode cX1_canBeFixed 26 = .ok (.iconst 1, 1) := by decide +kernel
theorem dX1_canBeFixed_27 : decode cX1_canBeFixed 27 = .ok (.goto 4, 3) := by decide +kernel
theorem dX1_canBeFixed_30 : decode cX1_canBeFixed 30 = .ok (.iconst 0, 1) := by decide +kernel
theorem dX1_canBeFixed_31 : decode cX1_canBeFixed 31 = .ok (.ireturn, 1) := by decide +kernel
def t_X1_canBeFixed_31 : am_T := tb_zret
def t_X1_canBeFixed_30 : am_T := tb_const 0 <|
  t_X1_canBeFixed_31
def t_X1_canBeFixed_15 : am_T := tb_aload 0 <|
  tb_iload 1 <|
  tb_iload 2 <|
  tb_iload 3 <|
  tb_callV 1 sp_X1_fixLike 4 <|
  tb_const (-1) <|
  tb_ic (fun x y => x ≠ y) (t_X1_canBeFixed_30) <|
  tb_const 1 <|
  t_X1_canBeFixed_31
def t_X1_canBeFixed_0 : am_T := tb_iload 1 <|
  tb_if (fun x => x = 0) (t_X1_canBeFixed_15) <|
  tb_aload 0 <|
  tb_iload 3 <|
  tb_iload 2 <|
  tb_callV 1 sp_X1_isEarlier 3 <|
  tb_if (fun x => x ≠ 0) (t_X1_canBeFixed_15) <|
  tb_const 0 <|
  tb_zret
def h_X1_canBeFixed : am_Hd := fun h => if h = 0 then t_X1_canBeFixed_0 else tb_bad
theorem h_X1_canBeFixed_0 : h_X1_canBeFixed 0 = t_X1_canBeFixed_0 := rfl
def rm_X1_canBeFixed : Room := { frames := 1, cells := 0, slots := 0, locals := 24 }
def sp_X1_canBeFixed : am_sp := fun as M Q => as.length ≤ 4 ∧ am_OK h_X1_canBeFixed Q 0 (am_in 4 as) M
theorem s_X1_canBeFixed_31 {G : am_G} {bc bs : Nat} (X : am_Cx G cX1_canBeFixed RX1 "canBeFixed" rm_X1_canBeFixed (some .boolean) 4 bc bs true) : am_S G 31 (t_X1_canBeFixed_31) := by
  unfold t_X1_canBeFixed_31
  exact as_zret (pc := 31) X ⟨rfl, rfl⟩ rfl dX1_canBeFixed_31
theorem s_X1_canBeFixed_30 {G : am_G} {bc bs : Nat} (X : am_Cx G cX1_canBeFixed RX1 "canBeFixed" rm_X1_canBeFixed (some .boolean) 4 bc bs true) : am_S G 30 (t_X1_canBeFixed_30) := by
  unfold t_X1_canBeFixed_30
  refine as_iconst (pc := 30) X dX1_canBeFixed_30 (by decide) ?_
  exact s_X1_canBeFixed_31 X
theorem s_X1_canBeFixed_15 {G : am_G} {bc bs : Nat} (X : am_Cx G cX1_canBeFixed RX1 "canBeFixed" rm_X1_canBeFixed (some .boolean) 4 bc bs true) : am_S G 15 (t_X1_canBeFixed_15) := by
  unfold t_X1_canBeFixed_15
  refine as_aload_n (pc := 15) X dX1_canBeFixed_15 rfl ?_
  refine as_iload_n (pc := 16) X dX1_canBeFixed_16 rfl ?_
  refine as_iload_n (pc := 17) X dX1_canBeFixed_17 rfl ?_
  refine as_iload_n (pc := 18) X dX1_canBeFixed_18 rfl ?_
  refine as_callV (ci := 1) (np := 3) (ix := 82) (pc := 19) X ct_X1_fixLike (Cn := (RX1, TX1, 14)) rfl ⟨rfl, rfl⟩ aw_561 aw_512 aw_513 aw_514 aw_61 (by decide +kernel) (by decide) dX1_canBeFixed_19 ?_
  refine as_iconst (pc := 22) X dX1_canBeFixed_22 (by decide) ?_
  refine as_ic_ne (pc := 23) X 30 dX1_canBeFixed_23 (by decide) (s_X1_canBeFixed_30 X) ?_
  refine as_iconst (pc := 26) X dX1_canBeFixed_26 (by decide) ?_
  exact as_goto (pc := 27) X 31 dX1_canBeFixed_27 (by decide) (s_X1_canBeFixed_31 X)
theorem s_X1_canBeFixed_0 {G : am_G} {bc bs : Nat} (X : am_Cx G cX1_canBeFixed RX1 "canBeFixed" rm_X1_canBeFixed (some .boolean) 4 bc bs true) : am_S G 0 (t_X1_canBeFixed_0) := by
  unfold t_X1_canBeFixed_0
  refine as_iload_n (pc := 0) X dX1_canBeFixed_0 rfl ?_
  refine as_if_eq (pc := 1) X 15 dX1_canBeFixed_1 (by decide) (s_X1_canBeFixed_15 X) ?_
  refine as_aload_n (pc := 4) X dX1_canBeFixed_4 rfl ?_
  refine as_iload_n (pc := 5) X dX1_canBeFixed_5 rfl ?_
  refine as_iload_n (pc := 6) X dX1_canBeFixed_6 rfl ?_
  refine as_callV (ci := 1) (np := 2) (ix := 79) (pc := 7) X ct_X1_isEarlier (Cn := (RX1, TX1, 14)) rfl ⟨rfl, rfl⟩ aw_560 aw_498 aw_499 aw_500 aw_61 (by decide +kernel) (by decide) dX1_canBeFixed_7 ?_
  refine as_if_ne (pc := 10) X 15 dX1_canBeFixed_10 (by decide) (s_X1_canBeFixed_15 X) ?_
  refine as_iconst (pc := 13) X dX1_canBeFixed_13 (by decide) ?_
  exact as_zret (pc := 14) X ⟨rfl, rfl⟩ rfl dX1_canBeFixed_14
theorem s_X1_canBeFixed {G : am_G} {bc bs : Nat} (X : am_Cx G cX1_canBeFixed RX1 "canBeFixed" rm_X1_canBeFixed (some .boolean) 4 bc bs true) (h : Nat) : am_S G h (h_X1_canBeFixed h) := by
  unfold h_X1_canBeFixed
  split
  · next e => rw [e]; exact s_X1_canBeFixed_0 X
  exact as_bad
theorem ct_X1_canBeFixed : am_Ct yX1_canBeFixed cX1_canBeFixed 4 (some .boolean) rm_X1_canBeFixed sp_X1_canBeFixed := am_met (own := RX1) (nm := "canBeFixed") (by decide) rfl rfl (Or.inr (Or.inr (Or.inl rfl))) (fun _ _ => h_X1_canBeFixed) (fun _ _ _ X => s_X1_canBeFixed X) (fun _ _ _ _ h => h)
-- X1_addFix
theorem dX1_addFix_0 : decode cX1_addFix 0 = .ok (.aload_n 0, 1) := by decide +kernel
theorem dX1_addFix_1 : decode cX1_addFix 1 = .ok (.getfield 40, 3) := by decide +kernel
theorem dX1_addFix_4 : decode cX1_addFix 4 = .ok (.bipush 12, 2) := by decide +kernel
theorem dX1_addFix_6 : decode cX1_addFix 6 = .ok (.if_icmp .ge 43, 3) := by decide +kernel
theorem dX1_addFix_9 : decode cX1_addFix 9 = .ok (.aload_n 0, 1) := by decide +kernel
theorem dX1_addFix_10 : decode cX1_addFix 10 = .ok (.getfield 43, 3) := by decide +kernel
theorem dX1_addFix_13 : decode cX1_addFix 13 = .ok (.aload_n 0, 1) := by decide +kernel
theorem dX1_addFix_14 : decode cX1_addFix 14 = .ok (.getfield 40, 3) := by decide +kernel
theorem dX1_addFix_17 : decode cX1_addFix 17 = .ok (.iload_n 1, 1) := by decide +kernel
theorem dX1_addFix_18 : decode cX1_addFix 18 = .ok (.iastore, 1) := by decide +kernel
theorem dX1_addFix_19 : decode cX1_addFix 19 = .ok (.aload_n 0, 1) := by decide +kernel
theorem dX1_addFix_20 : decode cX1_addFix 20 = .ok (.getfield 46, 3) := by decide +kernel
theorem dX1_addFix_23 : decode cX1_addFix 23 = .ok (.aload_n 0, 1) := by decide +kernel
theorem dX1_addFix_24 : decode cX1_addFix 24 = .ok (.getfield 40, 3) := by decide +kernel
theorem dX1_addFix_27 : decode cX1_addFix 27 = .ok (.iload_n 2, 1) := by decide +kernel
theorem dX1_addFix_28 : decode cX1_addFix 28 = .ok (.iastore, 1) := by decide +kernel
theorem dX1_addFix_29 : decode cX1_addFix 29 = .ok (.aload_n 0, 1) := by decide +kernel
theorem dX1_addFix_30 : decode cX1_addFix 30 = .ok (.getfield 49, 3) := by decide +kernel
theorem dX1_addFix_33 : decode cX1_addFix 33 = .ok (.aload_n 0, 1) := by decide +kernel
theorem dX1_addFix_34 : decode cX1_addFix 34 = .ok (.getfield 40, 3) := by decide +kernel
theorem dX1_addFix_37 : decode cX1_addFix 37 = .ok (.iload_n 3, 1) := by decide +kernel
theorem dX1_addFix_38 : decode cX1_addFix 38 = .ok (.iastore, 1) := by decide +kernel
theorem dX1_addFix_39 : decode cX1_addFix 39 = .ok (.aload_n 0, 1) := by decide +kernel
theorem dX1_addFix_40 : decode cX1_addFix 40 = .ok (.dup, 1) := by decide +kernel
theorem dX1_addFix_41 : decode cX1_addFix 41 = .ok (.getfield 40, 3) := by decide +kernel
theorem dX1_addFix_44 : decode cX1_addFix 44 = .ok (.iconst 1, 1) := by decide +kernel
theorem dX1_addFix_45 : decode cX1_addFix 45 = .ok (.iadd, 1) := by decide +kernel
theorem dX1_addFix_46 : decode cX1_addFix 46 = .ok (.putfield 40, 3) := by decide +kernel
theorem dX1_addFix_49 : decode cX1_addFix 49 = .ok (.return_, 1) := by decide +kernel
def t_X1_addFix_49 : am_T := tb_ret
def t_X1_addFix_0 : am_T := tb_aload 0 <|
  tb_getI 1 9 <|
  tb_const 12 <|
  tb_ic (fun x y => y ≤ x) (t_X1_addFix_49) <|
  tb_aload 0 <|
  tb_getR 1 10 <|
  tb_aload 0 <|
  tb_getI 1 9 <|
  tb_iload 1 <|
  tb_iast <|
  tb_aload 0 <|
  tb_getR 1 11 <|
  tb_aload 0 <|
  tb_getI 1 9 <|
  tb_iload 2 <|
  tb_iast <|
  tb_aload 0 <|
  tb_getR 1 12 <|
  tb_aload 0 <|
  tb_getI 1 9 <|
  tb_iload 3 <|
  tb_iast <|
  tb_aload 0 <|
  tb_dup <|
  tb_getI 1 9 <|
  tb_const 1 <|
  tb_bin (fun x y => x + y) <|
  tb_putI 1 9 <|
  t_X1_addFix_49
def h_X1_addFix : am_Hd := fun h => if h = 0 then t_X1_addFix_0 else tb_bad
theorem h_X1_addFix_0 : h_X1_addFix 0 = t_X1_addFix_0 := rfl
def rm_X1_addFix : Room := { frames := 0, cells := 0, slots := 0, locals := 0 }
def sp_X1_addFix : am_sp := fun as M Q => as.length ≤ 4 ∧ am_OK h_X1_addFix Q 0 (am_in 4 as) M
theorem s_X1_addFix_49 {G : am_G} {bc bs : Nat} (X : am_Cx G cX1_addFix RX1 "addFix" rm_X1_addFix none 4 bc bs true) : am_S G 49 (t_X1_addFix_49) := by
  unfold t_X1_addFix_49
  exact as_ret (pc := 49) X ⟨rfl, rfl⟩ rfl dX1_addFix_49
theorem s_X1_addFix_0 {G : am_G} {bc bs : Nat} (X : am_Cx G cX1_addFix RX1 "addFix" rm_X1_addFix none 4 bc bs true) : am_S G 0 (t_X1_addFix_0) := by
  unfold t_X1_addFix_0
  refine as_aload_n (pc := 0) X dX1_addFix_0 rfl ?_
  refine as_getI (ci := 1) (j := 9) (pc := 1) X (Cn := RX1) (Tf := TX1) (N := 14) rfl rfl (by decide) iw_X1 aw_113 rfl dX1_addFix_1 ?_
  refine as_bipush (pc := 4) X dX1_addFix_4 (by decide) ?_
  refine as_ic_ge (pc := 6) X 49 dX1_addFix_6 (by decide) (s_X1_addFix_49 X) ?_
  refine as_aload_n (pc := 9) X dX1_addFix_9 rfl ?_
  refine as_getR (ci := 1) (j := 10) (pc := 10) X (Cn := RX1) (Tf := TX1) (N := 14) rfl rfl (by decide) iw_X1 aw_117 rfl dX1_addFix_10 ?_
  refine as_aload_n (pc := 13) X dX1_addFix_13 rfl ?_
  refine as_getI (ci := 1) (j := 9) (pc := 14) X (Cn := RX1) (Tf := TX1) (N := 14) rfl rfl (by decide) iw_X1 aw_113 rfl dX1_addFix_14 ?_
  refine as_iload_n (pc := 17) X dX1_addFix_17 rfl ?_
  refine as_iast (pc := 18) X dX1_addFix_18 ?_
  refine as_aload_n (pc := 19) X dX1_addFix_19 rfl ?_
  refine as_getR (ci := 1) (j := 11) (pc := 20) X (Cn := RX1) (Tf := TX1) (N := 14) rfl rfl (by decide) iw_X1 aw_120 rfl dX1_addFix_20 ?_
  refine as_aload_n (pc := 23) X dX1_addFix_23 rfl ?_
  refine as_getI (ci := 1) (j := 9) (pc := 24) X (Cn := RX1) (Tf := TX1) (N := 14) rfl rfl (by decide) iw_X1 aw_113 rfl dX1_addFix_24 ?_
  refine as_iload_n (pc := 27) X dX1_addFix_27 rfl ?_
  refine as_iast (pc := 28) X dX1_addFix_28 ?_
  refine as_aload_n (pc := 29) X dX1_addFix_29 rfl ?_
  refine as_getR (ci := 1) (j := 12) (pc := 30) X (Cn := RX1) (Tf := TX1) (N := 14) rfl rfl (by decide) iw_X1 aw_123 rfl dX1_addFix_30 ?_
  refine as_aload_n (pc := 33) X dX1_addFix_33 rfl ?_
  refine as_getI (ci := 1) (j := 9) (pc := 34) X (Cn := RX1) (Tf := TX1) (N := 14) rfl rfl (by decide) iw_X1 aw_113 rfl dX1_addFix_34 ?_
  refine as_iload_n (pc := 37) X dX1_addFix_37 rfl ?_
  refine as_iast (pc := 38) X dX1_addFix_38 ?_
  refine as_aload_n (pc := 39) X dX1_addFix_39 rfl ?_
  refine as_dup (pc := 40) X dX1_addFix_40 ?_
  refine as_getI (ci := 1) (j := 9) (pc := 41) X (Cn := RX1) (Tf := TX1) (N := 14) rfl rfl (by decide) iw_X1 aw_113 rfl dX1_addFix_41 ?_
  refine as_iconst (pc := 44) X dX1_addFix_44 (by decide) ?_
  refine as_iadd (pc := 45) X dX1_addFix_45 ?_
  refine as_putI (ci := 1) (j := 9) (pc := 46) X (Cn := RX1) (Tf := TX1) (N := 14) rfl rfl (by decide) iw_X1 aw_113 tyX1 tyX1_ok nmX1 rfl rfl (by decide +kernel) dX1_addFix_46 ?_
  exact s_X1_addFix_49 X
theorem s_X1_addFix {G : am_G} {bc bs : Nat} (X : am_Cx G cX1_addFix RX1 "addFix" rm_X1_addFix none 4 bc bs true) (h : Nat) : am_S G h (h_X1_addFix h) := by
  unfold h_X1_addFix
  split
  · next e => rw [e]; exact s_X1_addFix_0 X
  exact as_bad
theorem ct_X1_addFix : am_Ct yX1_addFix cX1_addFix 4 none rm_X1_addFix sp_X1_addFix := am_met (own := RX1) (nm := "addFix") (by decide) rfl rfl (Or.inl rfl) (fun _ _ => h_X1_addFix) (fun _ _ _ X => s_X1_addFix X) (fun _ _ _ _ h => h)
-- X4_correct
theorem dX4_correct_0 : decode cX4_correct 0 = .ok (.iload_n 1, 1) := by decide +kernel
theorem dX4_correct_1 : decode cX4_correct 1 = .ok (.ifCond .lt 19, 3) := by decide +kernel
theorem dX4_correct_4 : decode cX4_correct 4 = .ok (.iload_n 1, 1) := by decide +kernel
theorem dX4_correct_5 : decode cX4_correct 5 = .ok (.iconst 2, 1) := by decide +kernel
theorem dX4_correct_6 : decode cX4_correct 6 = .ok (.if_icmp .gt 14, 3) := by decide +kernel
theorem dX4_correct_9 : decode cX4_correct 9 = .ok (.aload_n 0, 1) := by decide +kernel
theorem dX4_correct_10 : decode cX4_correct 10 = .ok (.getfield 20, 3) := by decide +kernel
theorem dX4_correct_13 : decode cX4_correct 13 = .ok (.iload_n 2, 1) := by decide +kernel
theorem dX4_correct_14 : decode cX4_correct 14 = .ok (.invokevirtual 93, 3) := by decide +kernel
theorem dX4_correct_17 : decode cX4_correct 17 = .ok (.ifCond .ne 5, 3) := by decide +kernel
theorem dX4_correct_20 : decode cX4_correct 20 = .ok (.iconst (-1), 1) := by decide +kernel
theorem dX4_correct_21 : decode cX4_correct 21 = .ok (.ireturn, 1) := by decide +kernel
theorem dX4_correct_22 : decode cX4_correct 22 = .ok (.iload_n 1, 1) := by decide +kernel
theorem dX4_correct_23 : decode cX4_correct 23 = .ok (.ifCond .ne 7, 3) := by decide +kernel
theorem dX4_correct_26 : decode cX4_correct 26 = .ok (.iconst (-1), 1) := by decide +kernel
theorem dX4_correct_27 : decode cX4_correct 27 = .ok (.goto 4, 3) := by decide +kernel
theorem dX4_correct_30 : decode cX4_correct 30 = .ok (.iload_n 3, 1) := by decide +kernel
theorem dX4_correct_31 : decode cX4_correct 31 = .ok (.istore 4, 2) := by decide +kernel
theorem dX4_correct_33 : decode cX4_correct 33 = .ok (.iload_n 1, 1) := by decide +kernel
theorem dX4_correct_34 : decode cX4_correct 34 = .ok (.ifCond .eq 17, 3) := by decide +kernel
theorem dX4_correct_37 : decode cX4_correct 37 = .ok (.aload_n 0, 1) := by decide +kernel
theorem dX4_correct_38 : decode cX4_correct 38 = .ok (.getfield 20, 3) := by decide +kernel
theorem dX4_correct_41 : decode cX4_correct 41 = .ok (.iload 4, 2) := by decide +kernel
theorem dX4_correct_43 : decode cX4_correct 43 = .ok (.invokevirtual 93, 3) := by decide +kernel
theorem dX4_correct_46 : decode cX4_correct 46 = .ok (.ifCond .ne 5, 3) := by decide +kernel
theorem dX4_correct_49 : decode cX4_correct 49 = .ok (.iconst (-1), 1) := by decide +kernel
theorem dX4_correct_50 : decode cX4_correct 50 = .ok (.ireturn, 1) := by decide +kernel
theorem dX4_correct_51 : decode cX4_correct 51 = .ok (.aload_n 0, 1) := by decide +kernel
theorem dX4_correct_52 : decode cX4_correct 52 = .ok (.getfield 20, 3) := by decide +kernel
theorem dX4_correct_55 : decode cX4_correct 55 = .ok (.iload_n 1, 1) := by decide +kernel
theorem dX4_correct_56 : decode cX4_correct 56 = .ok (.iload_n 2, 1) := by decide +kernel
theorem dX4_correct_57 : decode cX4_correct 57 = .ok (.iload 4, 2) := by decide +kernel
theorem dX4_correct_59 : decode cX4_correct 59 = .ok (.invokevirtual 180, 3) := by decide +kernel
theorem dX4_correct_62 : decode cX4_correct 62 = .ok (.ifCond .ne 6, 3) := by decide +kernel
theorem dX4_correct_65 : decode cX4_correct 65 = .ok (.bipush (-2), 2) := by decide +kernel
theorem dX4_correct_67 : decode cX4_correct 67 = .ok (.ireturn, 1) := by decide +kernel
theorem dX4_correct_68 : decode cX4_correct 68 = .ok (.aload_n 0, 1) := by decide +kernel
theorem dX4_correct_69 : decode cX4_correct 69 = .ok (.getfield 20, 3) := by decide +kernel
theorem dX4_correct_72 : decode cX4_correct 72 = .ok (.getfield 100, 3) := by decide +kernel
theorem dX4_correct_75 : decode cX4_correct 75 = .ok (.bipush 12, 2) := by decide +kernel
theorem dX4_correct_77 : decode cX4_correct 77 = .ok (.if_icmp .lt 6, 3) := by decide +kernel
theorem dX4_correct_80 : decode cX4_correct 80 = .ok (.bipush (-3), 2) := by decide +kernel
theorem dX4_correct_82 : decode cX4_correct 82 = .ok (.ireturn, 1) := by decide +kernel
theorem dX4_correct_83 : decode cX4_correct 83 = .ok (.aload_n 0, 1) := by decide +kernel
theorem dX4_correct_84 : decode cX4_correct 84 = .ok (.invokevirtual 69, 3) := by decide +kernel
theorem dX4_correct_87 : decode cX4_correct 87 = .ok (.aload_n 0, 1) := by decide +kernel
theorem dX4_correct_88 : decode cX4_correct 88 = .ok (.getfield 20, 3) := by decide +kernel
theorem dX4_correct_91 : decode cX4_correct 91 = .ok (.iload_n 1, 1) := by decide +kernel
theorem dX4_correct_92 : decode cX4_correct 92 = .ok (.iload_n 2, 1) := by decide +kernel
theorem dX4_correct_93 : decode cX4_correct 93 = .ok (.iload 4, 2) := by decide +kernel
theorem dX4_correct_95 : decode cX4_correct 95 = .ok (.invokevirtual 184, 3) := by decide +kernel
theorem dX4_correct_98 : decode cX4_correct 98 = .ok (.aload_n 0, 1) := by decide +kernel
theorem dX4_correct_99 : decode cX4_correct 99 = .ok (.getfield 20, 3) := by decide +kernel
theorem dX4_correct_102 : decode cX4_correct 102 = .ok (.getfield 100, 3) := by decide +kernel
theorem dX4_correct_105 : decode cX4_correct 105 = .ok (.ireturn, 1) := by decide +kernel
def t_X4_correct_83 : am_T := tb_aload 0 <|
  tb_callV 4 sp_X4_beginChange 1 <|
  tb_aload 0 <|
  tb_getR 4 1 <|
  tb_iload 1 <|
  tb_iload 2 <|
  tb_iload 4 <|
  tb_callV 1 sp_X1_addFix 4 <|
  tb_aload 0 <|
  tb_getR 4 1 <|
  tb_getI 1 9 <|
  tb_iret
def t_X4_correct_68 : am_T := tb_aload 0 <|
  tb_getR 4 1 <|
  tb_getI 1 9 <|
  tb_const 12 <|
  tb_ic (fun x y => x < y) (t_X4_correct_83) <|
  tb_const (-3) <|
  tb_iret
def t_X4_correct_51 : am_T := tb_aload 0 <|
  tb_getR 4 1 <|
  tb_iload 1 <|
  tb_iload 2 <|
  tb_iload 4 <|
  tb_callV 1 sp_X1_canBeFixed 4 <|
  tb_if (fun x => x ≠ 0) (t_X4_correct_68) <|
  tb_const (-2) <|
  tb_iret
def t_X4_correct_31 : am_T := tb_istore 4 <|
  tb_iload 1 <|
  tb_if (fun x => x = 0) (t_X4_correct_51) <|
  tb_aload 0 <|
  tb_getR 4 1 <|
  tb_iload 4 <|
  tb_callV 1 sp_X1_isLine 2 <|
  tb_if (fun x => x ≠ 0) (t_X4_correct_51) <|
  tb_const (-1) <|
  tb_iret
def t_X4_correct_30 : am_T := tb_iload 3 <|
  t_X4_correct_31
def t_X4_correct_22 : am_T := tb_iload 1 <|
  tb_if (fun x => x ≠ 0) (t_X4_correct_30) <|
  tb_const (-1) <|
  t_X4_correct_31
def t_X4_correct_20 : am_T := tb_const (-1) <|
  tb_iret
def t_X4_correct_0 : am_T := tb_iload 1 <|
  tb_if (fun x => x < 0) (t_X4_correct_20) <|
  tb_iload 1 <|
  tb_const 2 <|
  tb_ic (fun x y => y < x) (t_X4_correct_20) <|
  tb_aload 0 <|
  tb_getR 4 1 <|
  tb_iload 2 <|
  tb_callV 1 sp_X1_isLine 2 <|
  tb_if (fun x => x ≠ 0) (t_X4_correct_22) <|
  t_X4_correct_20
def h_X4_correct : am_Hd := fun h => if h = 0 then t_X4_correct_0 else tb_bad
theorem h_X4_correct_0 : h_X4_correct 0 = t_X4_correct_0 := rfl
def rm_X4_correct : Room := { frames := 4, cells := 0, slots := 0, locals := 89 }
def sp_X4_correct : am_sp := fun as M Q => as.length ≤ 5 ∧ am_OK h_X4_correct Q 0 (am_in 5 as) M
theorem s_X4_correct_83 {G : am_G} {bc bs : Nat} (X : am_Cx G cX4_correct RX4 "correct" rm_X4_correct (some .int) 5 bc bs true) : am_S G 83 (t_X4_correct_83) := by
  unfold t_X4_correct_83
  refine as_aload_n (pc := 83) X dX4_correct_83 rfl ?_
  refine as_callV (ci := 4) (np := 0) (ix := 69) (pc := 84) X ct_X4_beginChange (Cn := (RX4, TX4, 7)) rfl ⟨rfl, rfl⟩ aw_322 aw_324 aw_0 aw_325 aw_59 (by decide +kernel) (by decide) dX4_correct_84 ?_
  refine as_aload_n (pc := 87) X dX4_correct_87 rfl ?_
  refine as_getR (ci := 4) (j := 1) (pc := 88) X (Cn := RX4) (Tf := TX4) (N := 7) rfl rfl (by decide) iw_X4 aw_275 rfl dX4_correct_88 ?_
  refine as_iload_n (pc := 91) X dX4_correct_91 rfl ?_
  refine as_iload_n (pc := 92) X dX4_correct_92 rfl ?_
  refine as_iload (pc := 93) X dX4_correct_93 ?_
  refine as_callV (ci := 1) (np := 3) (ix := 184) (pc := 95) X ct_X1_addFix (Cn := (RX1, TX1, 14)) rfl ⟨rfl, rfl⟩ aw_562 aw_563 aw_564 aw_565 aw_61 (by decide +kernel) (by decide) dX4_correct_95 ?_
  refine as_aload_n (pc := 98) X dX4_correct_98 rfl ?_
  refine as_getR (ci := 4) (j := 1) (pc := 99) X (Cn := RX4) (Tf := TX4) (N := 7) rfl rfl (by decide) iw_X4 aw_275 rfl dX4_correct_99 ?_
  refine as_getI (ci := 1) (j := 9) (pc := 102) X (Cn := RX1) (Tf := TX1) (N := 14) rfl rfl (by decide) iw_X1 aw_114 rfl dX4_correct_102 ?_
  exact as_iret (pc := 105) X ⟨rfl, rfl⟩ rfl dX4_correct_105
theorem s_X4_correct_68 {G : am_G} {bc bs : Nat} (X : am_Cx G cX4_correct RX4 "correct" rm_X4_correct (some .int) 5 bc bs true) : am_S G 68 (t_X4_correct_68) := by
  unfold t_X4_correct_68
  refine as_aload_n (pc := 68) X dX4_correct_68 rfl ?_
  refine as_getR (ci := 4) (j := 1) (pc := 69) X (Cn := RX4) (Tf := TX4) (N := 7) rfl rfl (by decide) iw_X4 aw_275 rfl dX4_correct_69 ?_
  refine as_getI (ci := 1) (j := 9) (pc := 72) X (Cn := RX1) (Tf := TX1) (N := 14) rfl rfl (by decide) iw_X1 aw_114 rfl dX4_correct_72 ?_
  refine as_bipush (pc := 75) X dX4_correct_75 (by decide) ?_
  refine as_ic_lt (pc := 77) X 83 dX4_correct_77 (by decide) (s_X4_correct_83 X) ?_
  refine as_bipush (pc := 80) X dX4_correct_80 (by decide) ?_
  exact as_iret (pc := 82) X ⟨rfl, rfl⟩ rfl dX4_correct_82
theorem s_X4_correct_51 {G : am_G} {bc bs : Nat} (X : am_Cx G cX4_correct RX4 "correct" rm_X4_correct (some .int) 5 bc bs true) : am_S G 51 (t_X4_correct_51) := by
  unfold t_X4_correct_51
  refine as_aload_n (pc := 51) X dX4_correct_51 rfl ?_
  refine as_getR (ci := 4) (j := 1) (pc := 52) X (Cn := RX4) (Tf := TX4) (N := 7) rfl rfl (by decide) iw_X4 aw_275 rfl dX4_correct_52 ?_
  refine as_iload_n (pc := 55) X dX4_correct_55 rfl ?_
  refine as_iload_n (pc := 56) X dX4_correct_56 rfl ?_
  refine as_iload (pc := 57) X dX4_correct_57 ?_
  refine as_callV (ci := 1) (np := 3) (ix := 180) (pc := 59) X ct_X1_canBeFixed (Cn := (RX1, TX1, 14)) rfl ⟨rfl, rfl⟩ aw_556 aw_557 aw_558 aw_559 aw_61 (by decide +kernel) (by decide) dX4_correct_59 ?_
  refine as_if_ne (pc := 62) X 68 dX4_correct_62 (by decide) (s_X4_correct_68 X) ?_
  refine as_bipush (pc := 65) X dX4_correct_65 (by decide) ?_
  exact as_iret (pc := 67) X ⟨rfl, rfl⟩ rfl dX4_correct_67
theorem s_X4_correct_31 {G : am_G} {bc bs : Nat} (X : am_Cx G cX4_correct RX4 "correct" rm_X4_correct (some .int) 5 bc bs true) : am_S G 31 (t_X4_correct_31) := by
  unfold t_X4_correct_31
  refine as_istore (pc := 31) X dX4_correct_31 ?_ (by decide)
  refine as_iload_n (pc := 33) X dX4_correct_33 rfl ?_
  refine as_if_eq (pc := 34) X 51 dX4_correct_34 (by decide) (s_X4_correct_51 X) ?_
  refine as_aload_n (pc := 37) X dX4_correct_37 rfl ?_
  refine as_getR (ci := 4) (j := 1) (pc := 38) X (Cn := RX4) (Tf := TX4) (N := 7) rfl rfl (by decide) iw_X4 aw_275 rfl dX4_correct_38 ?_
  refine as_iload (pc := 41) X dX4_correct_41 ?_
  refine as_callV (ci := 1) (np := 1) (ix := 93) (pc := 43) X ct_X1_isLine (Cn := (RX1, TX1, 14)) rfl ⟨rfl, rfl⟩ aw_370 aw_371 aw_372 aw_373 aw_61 (by decide +kernel) (by decide) dX4_correct_43 ?_
  refine as_if_ne (pc := 46) X 51 dX4_correct_46 (by decide) (s_X4_correct_51 X) ?_
  refine as_iconst (pc := 49) X dX4_correct_49 (by decide) ?_
  exact as_iret (pc := 50) X ⟨rfl, rfl⟩ rfl dX4_correct_50
theorem s_X4_correct_30 {G : am_G} {bc bs : Nat} (X : am_Cx G cX4_correct RX4 "correct" rm_X4_correct (some .int) 5 bc bs true) : am_S G 30 (t_X4_correct_30) := by
  unfold t_X4_correct_30
  refine as_iload_n (pc := 30) X dX4_correct_30 rfl ?_
  exact s_X4_correct_31 X
theorem s_X4_correct_22 {G : am_G} {bc bs : Nat} (X : am_Cx G cX4_correct RX4 "correct" rm_X4_correct (some .int) 5 bc bs true) : am_S G 22 (t_X4_correct_22) := by
  unfold t_X4_correct_22
  refine as_iload_n (pc := 22) X dX4_correct_22 rfl ?_
  refine as_if_ne (pc := 23) X 30 dX4_correct_23 (by decide) (s_X4_correct_30 X) ?_
  refine as_iconst (pc := 26) X dX4_correct_26 (by decide) ?_
  exact as_goto (pc := 27) X 31 dX4_correct_27 (by decide) (s_X4_correct_31 X)
theorem s_X4_correct_20 {G : am_G} {bc bs : Nat} (X : am_Cx G cX4_correct RX4 "correct" rm_X4_correct (some .int) 5 bc bs true) : am_S G 20 (t_X4_correct_20) := by
  unfold t_X4_correct_20
  refine as_iconst (pc := 20) X dX4_correct_20 (by decide) ?_
  exact as_iret (pc := 21) X ⟨rfl, rfl⟩ rfl dX4_correct_21
theorem s_X4_correct_0 {G : am_G} {bc bs : Nat} (X : am_Cx G cX4_correct RX4 "correct" rm_X4_correct (some .int) 5 bc bs true) : am_S G 0 (t_X4_correct_0) := by
  unfold t_X4_correct_0
  refine as_iload_n (pc := 0) X dX4_correct_0 rfl ?_
  refine as_if_lt (pc := 1) X 20 dX4_correct_1 (by decide) (s_X4_correct_20 X) ?_
  refine as_iload_n (pc := 4) X dX4_correct_4 rfl ?_
  refine as_iconst (pc := 5) X dX4_correct_5 (by decide) ?_
  refine as_ic_gt (pc := 6) X 20 dX4_correct_6 (by decide) (s_X4_correct_20 X) ?_
  refine as_aload_n (pc := 9) X dX4_correct_9 rfl ?_
  refine as_getR (ci := 4) (j := 1) (pc := 10) X (Cn := RX4) (Tf := TX4) (N := 7) rfl rfl (by decide) iw_X4 aw_275 rfl dX4_correct_10 ?_
  refine as_iload_n (pc := 13) X dX4_correct_13 rfl ?_
  refine as_callV (ci := 1) (np := 1) (ix := 93) (pc := 14) X ct_X1_isLine (Cn := (RX1, TX1, 14)) rfl ⟨rfl, rfl⟩ aw_370 aw_371 aw_372 aw_373 aw_61 (by decide +kernel) (by decide) dX4_correct_14 ?_
  refine as_if_ne (pc := 17) X 22 dX4_correct_17 (by decide) (s_X4_correct_22 X) ?_
  exact s_X4_correct_20 X
theorem s_X4_correct {G : am_G} {bc bs : Nat} (X : am_Cx G cX4_correct RX4 "correct" rm_X4_correct (some .int) 5 bc bs true) (h : Nat) : am_S G h (h_X4_correct h) := by
  unfold h_X4_correct
  split
  · next e => rw [e]; exact s_X4_correct_0 X
  exact as_bad
theorem ct_X4_correct : am_Ct yX4_correct cX4_correct 5 (some .int) rm_X4_correct sp_X4_correct := am_met (own := RX4) (nm := "correct") (by decide) rfl rfl (Or.inr (Or.inl rfl)) (fun _ _ => h_X4_correct) (fun _ _ _ X => s_X4_correct X) (fun _ _ _ _ h => h)
-- X5_isEarlier
theorem dX5_isEarlier_0 : decode cX5_isEarlier 0 = .ok (.aload_n 0, 1) := by decide +kernel
theorem dX5_isEarlier_1 : decode cX5_isEarlier 1 = .ok (.getfield 7, 3) := by decide +kernel
theorem dX5_isEarlier_4 : decode cX5_isEarlier 4 = .ok (.iload_n 2, 1) := by decide +kernel
theorem dX5_isEarlier_5 : decode cX5_isEarlier 5 = .ok (.iconst 0, 1) := by decide +kernel
theorem dX5_isEarlier_6 : decode cX5_isEarlier 6 = .ok (.invokestatic 71, 3) := by decide +kernel
theorem dX5_isEarlier_9 : decode cX5_isEarlier 9 = .ok (.aload_n 0, 1) := by decide +kernel
theorem dX5_isEarlier_10 : decode cX5_isEarlier 10 = .ok (.getfield 7, 3) := by decide +kernel
theorem dX5_isEarlier_13 : decode cX5_isEarlier 13 = .ok (.iload_n 1, 1) := by decide +kernel
theorem dX5_isEarlier_14 : decode cX5_isEarlier 14 = .ok (.iconst 0, 1) := by decide +kernel
theorem dX5_isEarlier_15 : decode cX5_isEarlier 15 = .ok (.invokestatic 71, 3) := by decide +kernel
theorem dX5_isEarlier_18 : decode cX5_isEarlier 18 = .ok (.isub, 1) := by decide +kernel
theorem dX5_isEarlier_19 : decode cX5_isEarlier 19 = .ok (.istore_n 3, 1) := by decide +kernel
theorem dX5_isEarlier_20 : decode cX5_isEarlier 20 = .ok (.iload_n 3, 1) := by decide +kernel
theorem dX5_isEarlier_21 : decode cX5_isEarlier 21 = .ok (.ifCond .gt 12, 3) := by decide +kernel
theorem dX5_isEarlier_24 : decode cX5_isEarlier 24 = .ok (.iload_n 3, 1) := by decide +kernel
theorem dX5_isEarlier_25 : decode cX5_isEarlier 25 = .ok (.ifCond .ne 12, 3) := by decide +kernel
theorem dX5_isEarlier_28 : decode cX5_isEarlier 28 = .ok (.iload_n 1, 1) := by decide +kernel
theorem dX5_isEarlier_29 : decode cX5_isEarlier 29 = .ok (.iload_n 2, 1) := by decide +kernel
theorem dX5_isEarlier_30 : decode cX5_isEarlier 30 = .ok (.if_icmp .ge 7, 3) := by decide +kernel
theorem dX5_isEarlier_33 : decode cX5_isEarlier 33 = .ok (.iconst 1, 1) := by decide +kernel
theorem dX5_isEarlier_34 : decode cX5_isEarlier 34 = .ok (.goto 4, 3) := by decide +kernel
theorem dX5_isEarlier_37 : decode cX5_isEarlier 37 = .ok (.iconst 0, 1) := by decide +kernel
theorem dX5_isEarlier_38 : decode cX5_isEarlier 38 = .ok (.ireturn, 1) := by decide +kernel
def t_X5_isEarlier_38 : am_T := tb_zret
def t_X5_isEarlier_37 : am_T := tb_const 0 <|
  t_X5_isEarlier_38
def t_X5_isEarlier_33 : am_T := tb_const 1 <|
  t_X5_isEarlier_38
def t_X5_isEarlier_0 : am_T := tb_aload 0 <|
  tb_getR 5 0 <|
  tb_iload 2 <|
  tb_const 0 <|
  tb_callS sp_X5_of 3 <|
  tb_aload 0 <|
  tb_getR 5 0 <|
  tb_iload 1 <|
  tb_const 0 <|
  tb_callS sp_X5_of 3 <|
  tb_bin (fun x y => x - y) <|
  tb_istore 3 <|
  tb_iload 3 <|
  tb_if (fun x => 0 < x) (t_X5_isEarlier_33) <|
  tb_iload 3 <|
  tb_if (fun x => x ≠ 0) (t_X5_isEarlier_37) <|
  tb_iload 1 <|
  tb_iload 2 <|
  tb_ic (fun x y => y ≤ x) (t_X5_isEarlier_37) <|
  t_X5_isEarlier_33
def h_X5_isEarlier : am_Hd := fun h => if h = 0 then t_X5_isEarlier_0 else tb_bad
theorem h_X5_isEarlier_0 : h_X5_isEarlier 0 = t_X5_isEarlier_0 := rfl
def rm_X5_isEarlier : Room := { frames := 1, cells := 0, slots := 0, locals := 22 }
def sp_X5_isEarlier : am_sp := fun as M Q => as.length ≤ 4 ∧ am_OK h_X5_isEarlier Q 0 (am_in 4 as) M
theorem s_X5_isEarlier_38 {G : am_G} {bc bs : Nat} (X : am_Cx G cX5_isEarlier RX5 "isEarlier" rm_X5_isEarlier (some .boolean) 4 bc bs true) : am_S G 38 (t_X5_isEarlier_38) := by
  unfold t_X5_isEarlier_38
  exact as_zret (pc := 38) X ⟨rfl, rfl⟩ rfl dX5_isEarlier_38
theorem s_X5_isEarlier_37 {G : am_G} {bc bs : Nat} (X : am_Cx G cX5_isEarlier RX5 "isEarlier" rm_X5_isEarlier (some .boolean) 4 bc bs true) : am_S G 37 (t_X5_isEarlier_37) := by
  unfold t_X5_isEarlier_37
  refine as_iconst (pc := 37) X dX5_isEarlier_37 (by decide) ?_
  exact s_X5_isEarlier_38 X
theorem s_X5_isEarlier_33 {G : am_G} {bc bs : Nat} (X : am_Cx G cX5_isEarlier RX5 "isEarlier" rm_X5_isEarlier (some .boolean) 4 bc bs true) : am_S G 33 (t_X5_isEarlier_33) := by
  unfold t_X5_isEarlier_33
  refine as_iconst (pc := 33) X dX5_isEarlier_33 (by decide) ?_
  exact as_goto (pc := 34) X 38 dX5_isEarlier_34 (by decide) (s_X5_isEarlier_38 X)
theorem s_X5_isEarlier_0 {G : am_G} {bc bs : Nat} (X : am_Cx G cX5_isEarlier RX5 "isEarlier" rm_X5_isEarlier (some .boolean) 4 bc bs true) : am_S G 0 (t_X5_isEarlier_0) := by
  unfold t_X5_isEarlier_0
  refine as_aload_n (pc := 0) X dX5_isEarlier_0 rfl ?_
  refine as_getR (ci := 5) (j := 0) (pc := 1) X (Cn := RX5) (Tf := TX5) (N := 21) rfl rfl (by decide) iw_X5 aw_738 rfl dX5_isEarlier_1 ?_
  refine as_iload_n (pc := 4) X dX5_isEarlier_4 rfl ?_
  refine as_iconst (pc := 5) X dX5_isEarlier_5 (by decide) ?_
  refine as_callS (np := 3) (ix := 71) (pc := 6) X ct_X5_of ⟨rfl, rfl⟩ aw_873 aw_874 aw_875 aw_65 (by decide +kernel) (by decide) dX5_isEarlier_6 ?_
  refine as_aload_n (pc := 9) X dX5_isEarlier_9 rfl ?_
  refine as_getR (ci := 5) (j := 0) (pc := 10) X (Cn := RX5) (Tf := TX5) (N := 21) rfl rfl (by decide) iw_X5 aw_738 rfl dX5_isEarlier_10 ?_
  refine as_iload_n (pc := 13) X dX5_isEarlier_13 rfl ?_
  refine as_iconst (pc := 14) X dX5_isEarlier_14 (by decide) ?_
  refine as_callS (np := 3) (ix := 71) (pc := 15) X ct_X5_of ⟨rfl, rfl⟩ aw_873 aw_874 aw_875 aw_65 (by decide +kernel) (by decide) dX5_isEarlier_15 ?_
  refine as_isub (pc := 18) X dX5_isEarlier_18 ?_
  refine as_istore_n (pc := 19) X dX5_isEarlier_19 rfl ?_ (by decide)
  refine as_iload_n (pc := 20) X dX5_isEarlier_20 rfl ?_
  refine as_if_gt (pc := 21) X 33 dX5_isEarlier_21 (by decide) (s_X5_isEarlier_33 X) ?_
  refine as_iload_n (pc := 24) X dX5_isEarlier_24 rfl ?_
  refine as_if_ne (pc := 25) X 37 dX5_isEarlier_25 (by decide) (s_X5_isEarlier_37 X) ?_
  refine as_iload_n (pc := 28) X dX5_isEarlier_28 rfl ?_
  refine as_iload_n (pc := 29) X dX5_isEarlier_29 rfl ?_
  refine as_ic_ge (pc := 30) X 37 dX5_isEarlier_30 (by decide) (s_X5_isEarlier_37 X) ?_
  exact s_X5_isEarlier_33 X
theorem s_X5_isEarlier {G : am_G} {bc bs : Nat} (X : am_Cx G cX5_isEarlier RX5 "isEarlier" rm_X5_isEarlier (some .boolean) 4 bc bs true) (h : Nat) : am_S G h (h_X5_isEarlier h) := by
  unfold h_X5_isEarlier
  split
  · next e => rw [e]; exact s_X5_isEarlier_0 X
  exact as_bad
theorem ct_X5_isEarlier : am_Ct yX5_isEarlier cX5_isEarlier 4 (some .boolean) rm_X5_isEarlier sp_X5_isEarlier := am_met (own := RX5) (nm := "isEarlier") (by decide) rfl rfl (Or.inr (Or.inr (Or.inl rfl))) (fun _ _ => h_X5_isEarlier) (fun _ _ _ X => s_X5_isEarlier X) (fun _ _ _ _ h => h)
-- X5_canTell
theorem dX5_canTell_0 : decode cX5_canTell 0 = .ok (.iload_n 1, 1) := by decide +kernel
theorem dX5_canTell_1 : decode cX5_canTell 1 = .ok (.ifCond .eq 12, 3) := by decide +kernel
theorem dX5_canTell_4 : decode cX5_canTell 4 = .ok (.aload_n 0, 1) := by decide +kernel
theorem dX5_canTell_5 : decode cX5_canTell 5 = .ok (.iload_n 3, 1) := by decide +kernel
theorem dX5_canTell_6 : decode cX5_canTell 6 = .ok (.iload_n 2, 1) := by decide +kernel
theorem dX5_canTell_7 : decode cX5_canTell 7 = .ok (.invokevirtual 168, 3) := by decide +kernel
theorem dX5_canTell_10 : decode cX5_canTell 10 = .ok (.ifCond .eq 22, 3) := by decide +kernel
theorem dX5_canTell_13 : decode cX5_canTell 13 = .ok (.aload_n 0, 1) := by decide +kernel
theorem dX5_canTell_14 : decode cX5_canTell 14 = .ok (.getfield 7, 3) := by decide +kernel
theorem dX5_canTell_17 : decode cX5_canTell 17 = .ok (.iload_n 1, 1) := by decide +kernel
theorem dX5_canTell_18 : decode cX5_canTell 18 = .ok (.iload_n 2, 1) := by decide +kernel
theorem dX5_canTell_19 : decode cX5_canTell 19 = .ok (.iload_n 3, 1) := by decide +kernel
theorem dX5_canTell_20 : decode cX5_canTell 20 = .ok (.invokestatic 92, 3) := by decide +kernel
theorem dX5_canTell_23 : decode cX5_canTell 23 = .ok (.bipush (-4), 2) := by decide +kernel
theorem dX5_canTell_25 : decode cX5_canTell 25 = .ok (.if_icmp .ne 7, 3) := by decide +kernel
theorem dX5_canTell_28 : decode cX5_canTell 28 = .ok (.iconst 1, 1) := by decide +kernel
theorem dX5_canTell_29 : decode cX5_canTell 29 = .ok (.goto 4, 3) := by decide +kernel
theorem dX5_canTell_32 : decode cX5_canTell 32 = .ok (.iconst 0, 1) := by decide +kernel
theorem dX5_canTell_33 : decode cX5_canTell 33 = .ok (.ireturn, 1) := by decide +kernel
def t_X5_canTell_33 : am_T := tb_zret
def t_X5_canTell_32 : am_T := tb_const 0 <|
  t_X5_canTell_33
def t_X5_canTell_13 : am_T := tb_aload 0 <|
  tb_getR 5 0 <|
  tb_iload 1 <|
  tb_iload 2 <|
  tb_iload 3 <|
  tb_callS sp_X5_find 4 <|
  tb_const (-4) <|
  tb_ic (fun x y => x ≠ y) (t_X5_canTell_32) <|
  tb_const 1 <|
  t_X5_canTell_33
def t_X5_canTell_0 : am_T := tb_iload 1 <|
  tb_if (fun x => x = 0) (t_X5_canTell_13) <|
  tb_aload 0 <|
  tb_iload 3 <|
  tb_iload 2 <|
  tb_callV 5 sp_X5_isEarlier 3 <|
  tb_if (fun x => x = 0) (t_X5_canTell_32) <|
  t_X5_canTell_13
def h_X5_canTell : am_Hd := fun h => if h = 0 then t_X5_canTell_0 else tb_bad
theorem h_X5_canTell_0 : h_X5_canTell 0 = t_X5_canTell_0 := rfl
def rm_X5_canTell : Room := { frames := 2, cells := 0, slots := 0, locals := 48 }
def sp_X5_canTell : am_sp := fun as M Q => as.length ≤ 4 ∧ am_OK h_X5_canTell Q 0 (am_in 4 as) M
theorem s_X5_canTell_33 {G : am_G} {bc bs : Nat} (X : am_Cx G cX5_canTell RX5 "canTell" rm_X5_canTell (some .boolean) 4 bc bs true) : am_S G 33 (t_X5_canTell_33) := by
  unfold t_X5_canTell_33
  exact as_zret (pc := 33) X ⟨rfl, rfl⟩ rfl dX5_canTell_33
theorem s_X5_canTell_32 {G : am_G} {bc bs : Nat} (X : am_Cx G cX5_canTell RX5 "canTell" rm_X5_canTell (some .boolean) 4 bc bs true) : am_S G 32 (t_X5_canTell_32) := by
  unfold t_X5_canTell_32
  refine as_iconst (pc := 32) X dX5_canTell_32 (by decide) ?_
  exact s_X5_canTell_33 X
theorem s_X5_canTell_13 {G : am_G} {bc bs : Nat} (X : am_Cx G cX5_canTell RX5 "canTell" rm_X5_canTell (some .boolean) 4 bc bs true) : am_S G 13 (t_X5_canTell_13) := by
  unfold t_X5_canTell_13
  refine as_aload_n (pc := 13) X dX5_canTell_13 rfl ?_
  refine as_getR (ci := 5) (j := 0) (pc := 14) X (Cn := RX5) (Tf := TX5) (N := 21) rfl rfl (by decide) iw_X5 aw_738 rfl dX5_canTell_14 ?_
  refine as_iload_n (pc := 17) X dX5_canTell_17 rfl ?_
  refine as_iload_n (pc := 18) X dX5_canTell_18 rfl ?_
  refine as_iload_n (pc := 19) X dX5_canTell_19 rfl ?_
  refine as_callS (np := 4) (ix := 92) (pc := 20) X ct_X5_find ⟨rfl, rfl⟩ aw_901 aw_902 aw_903 aw_65 (by decide +kernel) (by decide) dX5_canTell_20 ?_
  refine as_bipush (pc := 23) X dX5_canTell_23 (by decide) ?_
  refine as_ic_ne (pc := 25) X 32 dX5_canTell_25 (by decide) (s_X5_canTell_32 X) ?_
  refine as_iconst (pc := 28) X dX5_canTell_28 (by decide) ?_
  exact as_goto (pc := 29) X 33 dX5_canTell_29 (by decide) (s_X5_canTell_33 X)
theorem s_X5_canTell_0 {G : am_G} {bc bs : Nat} (X : am_Cx G cX5_canTell RX5 "canTell" rm_X5_canTell (some .boolean) 4 bc bs true) : am_S G 0 (t_X5_canTell_0) := by
  unfold t_X5_canTell_0
  refine as_iload_n (pc := 0) X dX5_canTell_0 rfl ?_
  refine as_if_eq (pc := 1) X 13 dX5_canTell_1 (by decide) (s_X5_canTell_13 X) ?_
  refine as_aload_n (pc := 4) X dX5_canTell_4 rfl ?_
  refine as_iload_n (pc := 5) X dX5_canTell_5 rfl ?_
  refine as_iload_n (pc := 6) X dX5_canTell_6 rfl ?_
  refine as_callV (ci := 5) (np := 2) (ix := 168) (pc := 7) X ct_X5_isEarlier (Cn := (RX5, TX5, 21)) rfl ⟨rfl, rfl⟩ aw_966 aw_968 aw_43 aw_969 aw_65 (by decide +kernel) (by decide) dX5_canTell_7 ?_
  refine as_if_eq (pc := 10) X 32 dX5_canTell_10 (by decide) (s_X5_canTell_32 X) ?_
  exact s_X5_canTell_13 X
theorem s_X5_canTell {G : am_G} {bc bs : Nat} (X : am_Cx G cX5_canTell RX5 "canTell" rm_X5_canTell (some .boolean) 4 bc bs true) (h : Nat) : am_S G h (h_X5_canTell h) := by
  unfold h_X5_canTell
  split
  · next e => rw [e]; exact s_X5_canTell_0 X
  exact as_bad
theorem ct_X5_canTell : am_Ct yX5_canTell cX5_canTell 4 (some .boolean) rm_X5_canTell sp_X5_canTell := am_met (own := RX5) (nm := "canTell") (by decide) rfl rfl (Or.inr (Or.inr (Or.inl rfl))) (fun _ _ => h_X5_canTell) (fun _ _ _ X => s_X5_canTell X) (fun _ _ _ _ h => h)
-- X5_tells
theorem dX5_tells_0 : decode cX5_tells 0 = .ok (.sipush 191, 3) := by decide +kernel
theorem dX5_tells_3 : decode cX5_tells 3 = .ok (.iconst 3, 1) := by decide +kernel
theorem dX5_tells_4 : decode cX5_tells 4 = .ok (.aload_n 0, 1) := by decide +kernel
theorem dX5_tells_5 : decode cX5_tells 5 = .ok (.getfield 7, 3) := by decide +kernel
theorem dX5_tells_8 : decode cX5_tells 8 = .ok (.bipush 10, 2) := by decide +kernel
theorem dX5_tells_10 : decode cX5_tells 10 = .ok (.iaload, 1) := by decide +kernel
theorem dX5_tells_11 : decode cX5_tells 11 = .ok (.imul, 1) := by decide +kernel
theorem dX5_tells_12 : decode cX5_tells 12 = .ok (.iadd, 1) := by decide +kernel
theorem dX5_tells_13 : decode cX5_tells 13 = .ok (.istore 4, 2) := by decide +kernel
theorem dX5_tells_15 : decode cX5_tells 15 = .ok (.aload_n 0, 1) := by decide +kernel
theorem dX5_tells_16 : decode cX5_tells 16 = .ok (.getfield 7, 3) := by decide +kernel
theorem dX5_tells_19 : decode cX5_tells 19 = .ok (.iload 4, 2) := by decide +kernel
theorem dX5_tells_21 : decode cX5_tells 21 = .ok (.iload_n 1, 1) := by decide +kernel
theorem dX5_tells_22 : decode cX5_tells 22 = .ok (.iastore, 1) := by decide +kernel
theorem dX5_tells_23 : decode cX5_tells 23 = .ok (.aload_n 0, 1) := by decide +kernel
theorem dX5_tells_24 : decode cX5_tells 24 = .ok (.getfield 7, 3) := by decide +kernel
theorem dX5_tells_27 : decode cX5_tells 27 = .ok (.iload 4, 2) := by decide +kernel
theorem dX5_tells_29 : decode cX5_tells 29 = .ok (.iconst 1, 1) := by decide +kernel
theorem dX5_tells_30 : decode cX5_tells 30 = .ok (.iadd, 1) := by decide +kernel
theorem dX5_tells_31 : decode cX5_tells 31 = .ok (.iload_n 2, 1) := by decide +kernel
theorem dX5_tells_32 : decode cX5_tells 32 = .ok (.iastore, 1) := by decide +kernel
theorem dX5_tells_33 : decode cX5_tells 33 = .ok (.aload_n 0, 1) := by decide +kernel
theorem dX5_tells_34 : decode cX5_tells 34 = .ok (.getfield 7, 3) := by decide +kernel
theorem dX5_tells_37 : decode cX5_tells 37 = .ok (.iload 4, 2) := by decide +kernel
theorem dX5_tells_39 : decode cX5_tells 39 = .ok (.iconst 2, 1) := by decide +kernel
theorem dX5_tells_40 : decode cX5_tells 40 = .ok (.iadd, 1) := by decide +kernel
theorem dX5_tells_41 : decode cX5_tells 41 = .ok (.iload_n 1, 1) := by decide +kernel
theorem dX5_tells_42 : decode cX5_tells 42 = .ok (.ifCond .ne 8, 3) := by decide +kernel
theorem dX5_tells_45 : decode cX5_tells 45 = .ok (.bipush (-4), 2) := by decide +kernel
theorem dX5_tells_47 : decode cX5_tells 47 = .ok (.goto 4, 3) := by decide +kernel
theorem dX5_tells_50 : decode cX5_tells 50 = .ok (.iload_n 3, 1) := by decide +kernel
theorem dX5_tells_51 : decode cX5_tells 51 = .ok (.iastore, 1) := by decide +kernel
theorem dX5_tells_52 : decode cX5_tells 52 = .ok (.aload_n 0, 1) := by decide +kernel
theorem dX5_tells_53 : decode cX5_tells 53 = .ok (.getfield 7, 3) := by decide +kernel
theorem dX5_tells_56 : decode cX5_tells 56 = .ok (.bipush 10, 2) := by decide +kernel
theorem dX5_tells_58 : decode cX5_tells 58 = .ok (.dup2, 1) := by decide +kernel
theorem dX5_tells_59 : decode cX5_tells 59 = .ok (.iaload, 1) := by decide +kernel
theorem dX5_tells_60 : decode cX5_tells 60 = .ok (.iconst 1, 1) := by decide +kernel
theorem dX5_tells_61 : decode cX5_tells 61 = .ok (.iadd, 1) := by decide +kernel
theorem dX5_tells_62 : decode cX5_tells 62 = .ok (.iastore, 1) := by decide +kernel
theorem dX5_tells_63 : decode cX5_tells 63 = .ok (.return_, 1) := by decide +kernel
def t_X5_tells_51 : am_T := tb_iast <|
  tb_aload 0 <|
  tb_getR 5 0 <|
  tb_const 10 <|
  tb_dup2 <|
  tb_iald <|
  tb_const 1 <|
  tb_bin (fun x y => x + y) <|
  tb_iast <|
  tb_ret
def t_X5_tells_50 : am_T := tb_iload 3 <|
  t_X5_tells_51
def t_X5_tells_0 : am_T := tb_const 191 <|
  tb_const 3 <|
  tb_aload 0 <|
  tb_getR 5 0 <|
  tb_const 10 <|
  tb_iald <|
  tb_bin (fun x y => x * y) <|
  tb_bin (fun x y => x + y) <|
  tb_istore 4 <|
  tb_aload 0 <|
  tb_getR 5 0 <|
  tb_iload 4 <|
  tb_iload 1 <|
  tb_iast <|
  tb_aload 0 <|
  tb_getR 5 0 <|
  tb_iload 4 <|
  tb_const 1 <|
  tb_bin (fun x y => x + y) <|
  tb_iload 2 <|
  tb_iast <|
  tb_aload 0 <|
  tb_getR 5 0 <|
  tb_iload 4 <|
  tb_const 2 <|
  tb_bin (fun x y => x + y) <|
  tb_iload 1 <|
  tb_if (fun x => x ≠ 0) (t_X5_tells_50) <|
  tb_const (-4) <|
  t_X5_tells_51
def h_X5_tells : am_Hd := fun h => if h = 0 then t_X5_tells_0 else tb_bad
theorem h_X5_tells_0 : h_X5_tells 0 = t_X5_tells_0 := rfl
def rm_X5_tells : Room := { frames := 0, cells := 0, slots := 0, locals := 0 }
def sp_X5_tells : am_sp := fun as M Q => as.length ≤ 5 ∧ am_OK h_X5_tells Q 0 (am_in 5 as) M
theorem s_X5_tells_51 {G : am_G} {bc bs : Nat} (X : am_Cx G cX5_tells RX5 "tells" rm_X5_tells none 5 bc bs true) : am_S G 51 (t_X5_tells_51) := by
  unfold t_X5_tells_51
  refine as_iast (pc := 51) X dX5_tells_51 ?_
  refine as_aload_n (pc := 52) X dX5_tells_52 rfl ?_
  refine as_getR (ci := 5) (j := 0) (pc := 53) X (Cn := RX5) (Tf := TX5) (N := 21) rfl rfl (by decide) iw_X5 aw_738 rfl dX5_tells_53 ?_
  refine as_bipush (pc := 56) X dX5_tells_56 (by decide) ?_
  refine as_dup2 (pc := 58) X dX5_tells_58 ?_
  refine as_iald (pc := 59) X dX5_tells_59 ?_
  refine as_iconst (pc := 60) X dX5_tells_60 (by decide) ?_
  refine as_iadd (pc := 61) X dX5_tells_61 ?_
  refine as_iast (pc := 62) X dX5_tells_62 ?_
  exact as_ret (pc := 63) X ⟨rfl, rfl⟩ rfl dX5_tells_63
theorem s_X5_tells_50 {G : am_G} {bc bs : Nat} (X : am_Cx G cX5_tells RX5 "tells" rm_X5_tells none 5 bc bs true) : am_S G 50 (t_X5_tells_50) := by
  unfold t_X5_tells_50
  refine as_iload_n (pc := 50) X dX5_tells_50 rfl ?_
  exact s_X5_tells_51 X
theorem s_X5_tells_0 {G : am_G} {bc bs : Nat} (X : am_Cx G cX5_tells RX5 "tells" rm_X5_tells none 5 bc bs true) : am_S G 0 (t_X5_tells_0) := by
  unfold t_X5_tells_0
  refine as_sipush (pc := 0) X dX5_tells_0 (by decide) ?_
  refine as_iconst (pc := 3) X dX5_tells_3 (by decide) ?_
  refine as_aload_n (pc := 4) X dX5_tells_4 rfl ?_
  refine as_getR (ci := 5) (j := 0) (pc := 5) X (Cn := RX5) (Tf := TX5) (N := 21) rfl rfl (by decide) iw_X5 aw_738 rfl dX5_tells_5 ?_
  refine as_bipush (pc := 8) X dX5_tells_8 (by decide) ?_
  refine as_iald (pc := 10) X dX5_tells_10 ?_
  refine as_imul (pc := 11) X dX5_tells_11 ?_
  refine as_iadd (pc := 12) X dX5_tells_12 ?_
  refine as_istore (pc := 13) X dX5_tells_13 ?_ (by decide)
  refine as_aload_n (pc := 15) X dX5_tells_15 rfl ?_
  refine as_getR (ci := 5) (j := 0) (pc := 16) X (Cn := RX5) (Tf := TX5) (N := 21) rfl rfl (by decide) iw_X5 aw_738 rfl dX5_tells_16 ?_
  refine as_iload (pc := 19) X dX5_tells_19 ?_
  refine as_iload_n (pc := 21) X dX5_tells_21 rfl ?_
  refine as_iast (pc := 22) X dX5_tells_22 ?_
  refine as_aload_n (pc := 23) X dX5_tells_23 rfl ?_
  refine as_getR (ci := 5) (j := 0) (pc := 24) X (Cn := RX5) (Tf := TX5) (N := 21) rfl rfl (by decide) iw_X5 aw_738 rfl dX5_tells_24 ?_
  refine as_iload (pc := 27) X dX5_tells_27 ?_
  refine as_iconst (pc := 29) X dX5_tells_29 (by decide) ?_
  refine as_iadd (pc := 30) X dX5_tells_30 ?_
  refine as_iload_n (pc := 31) X dX5_tells_31 rfl ?_
  refine as_iast (pc := 32) X dX5_tells_32 ?_
  refine as_aload_n (pc := 33) X dX5_tells_33 rfl ?_
  refine as_getR (ci := 5) (j := 0) (pc := 34) X (Cn := RX5) (Tf := TX5) (N := 21) rfl rfl (by decide) iw_X5 aw_738 rfl dX5_tells_34 ?_
  refine as_iload (pc := 37) X dX5_tells_37 ?_
  refine as_iconst (pc := 39) X dX5_tells_39 (by decide) ?_
  refine as_iadd (pc := 40) X dX5_tells_40 ?_
  refine as_iload_n (pc := 41) X dX5_tells_41 rfl ?_
  refine as_if_ne (pc := 42) X 50 dX5_tells_42 (by decide) (s_X5_tells_50 X) ?_
  refine as_bipush (pc := 45) X dX5_tells_45 (by decide) ?_
  exact as_goto (pc := 47) X 51 dX5_tells_47 (by decide) (s_X5_tells_51 X)
theorem s_X5_tells {G : am_G} {bc bs : Nat} (X : am_Cx G cX5_tells RX5 "tells" rm_X5_tells none 5 bc bs true) (h : Nat) : am_S G h (h_X5_tells h) := by
  unfold h_X5_tells
  split
  · next e => rw [e]; exact s_X5_tells_0 X
  exact as_bad
theorem ct_X5_tells : am_Ct yX5_tells cX5_tells 5 none rm_X5_tells sp_X5_tells := am_met (own := RX5) (nm := "tells") (by decide) rfl rfl (Or.inl rfl) (fun _ _ => h_X5_tells) (fun _ _ _ X => s_X5_tells X) (fun _ _ _ _ h => h)
-- X5_correct
theorem dX5_correct_0 : decode cX5_correct 0 = .ok (.iload_n 1, 1) := by decide +kernel
theorem dX5_correct_1 : decode cX5_correct 1 = .ok (.iconst 0, 1) := by decide +kernel
theorem dX5_correct_2 : decode cX5_correct 2 = .ok (.iconst 2, 1) := by decide +kernel
theorem dX5_correct_3 : decode cX5_correct 3 = .ok (.invokestatic 60, 3) := by decide +kernel
theorem dX5_correct_6 : decode cX5_correct 6 = .ok (.ifCond .eq 23, 3) := by decide +kernel
theorem dX5_correct_9 : decode cX5_correct 9 = .ok (.aload_n 0, 1) := by decide +kernel
theorem dX5_correct_10 : decode cX5_correct 10 = .ok (.iload_n 2, 1) := by decide +kernel
theorem dX5_correct_11 : decode cX5_correct 11 = .ok (.invokevirtual 138, 3) := by decide +kernel
theorem dX5_correct_14 : decode cX5_correct 14 = .ok (.ifCond .eq 15, 3) := by decide +kernel
theorem dX5_correct_17 : decode cX5_correct 17 = .ok (.iload_n 1, 1) := by decide +kernel
theorem dX5_correct_18 : decode cX5_correct 18 = .ok (.ifCond .eq 13, 3) := by decide +kernel
theorem dX5_correct_21 : decode cX5_correct 21 = .ok (.aload_n 0, 1) := by decide +kernel
theorem dX5_correct_22 : decode cX5_correct 22 = .ok (.iload_n 3, 1) := by decide +kernel
theorem dX5_correct_23 : decode cX5_correct 23 = .ok (.invokevirtual 138, 3) := by decide +kernel
theorem dX5_correct_26 : decode cX5_correct 26 = .ok (.ifCond .ne 5, 3) := by decide +kernel
theorem dX5_correct_29 : decode cX5_correct 29 = .ok (.iconst (-1), 1) := by decide +kernel
theorem dX5_correct_30 : decode cX5_correct 30 = .ok (.ireturn, 1) := by decide +kernel
theorem dX5_correct_31 : decode cX5_correct 31 = .ok (.aload_n 0, 1) := by decide +kernel
theorem dX5_correct_32 : decode cX5_correct 32 = .ok (.iload_n 1, 1) := by decide +kernel
theorem dX5_correct_33 : decode cX5_correct 33 = .ok (.iload_n 2, 1) := by decide +kernel
theorem dX5_correct_34 : decode cX5_correct 34 = .ok (.iload_n 3, 1) := by decide +kernel
theorem dX5_correct_35 : decode cX5_correct 35 = .ok (.invokevirtual 171, 3) := by decide +kernel
theorem dX5_correct_38 : decode cX5_correct 38 = .ok (.ifCond .ne 6, 3) := by decide +kernel
theorem dX5_correct_41 : decode cX5_correct 41 = .ok (.bipush (-2), 2) := by decide +kernel
theorem dX5_correct_43 : decode cX5_correct 43 = .ok (.ireturn, 1) := by decide +kernel
theorem dX5_correct_44 : decode cX5_correct 44 = .ok (.aload_n 0, 1) := by decide +kernel
theorem dX5_correct_45 : decode cX5_correct 45 = .ok (.getfield 7, 3) := by decide +kernel
theorem dX5_correct_48 : decode cX5_correct 48 = .ok (.bipush 10, 2) := by decide +kernel
theorem dX5_correct_50 : decode cX5_correct 50 = .ok (.iaload, 1) := by decide +kernel
theorem dX5_correct_51 : decode cX5_correct 51 = .ok (.bipush 12, 2) := by decide +kernel
theorem dX5_correct_53 : decode cX5_correct 53 = .ok (.if_icmp .ne 6, 3) := by decide +kernel
theorem dX5_correct_56 : decode cX5_correct 56 = .ok (.bipush (-3), 2) := by decide +kernel
theorem dX5_correct_58 : decode cX5_correct 58 = .ok (.ireturn, 1) := by decide +kernel
theorem dX5_correct_59 : decode cX5_correct 59 = .ok (.aload_n 0, 1) := by decide +kernel
theorem dX5_correct_60 : decode cX5_correct 60 = .ok (.invokevirtual 68, 3) := by decide +kernel
theorem dX5_correct_63 : decode cX5_correct 63 = .ok (.aload_n 0, 1) := by decide +kernel
theorem dX5_correct_64 : decode cX5_correct 64 = .ok (.iload_n 1, 1) := by decide +kernel
theorem dX5_correct_65 : decode cX5_correct 65 = .ok (.iload_n 2, 1) := by decide +kernel
theorem dX5_correct_66 : decode cX5_correct 66 = .ok (.iload_n 3, 1) := by decide +kernel
theorem dX5_correct_67 : decode cX5_correct 67 = .ok (.invokevirtual 174, 3) := by decide +kernel
theorem dX5_correct_70 : decode cX5_correct 70 = .ok (.aload_n 0, 1) := by decide +kernel
theorem dX5_correct_71 : decode cX5_correct 71 = .ok (.getfield 7, 3) := by decide +kernel
theorem dX5_correct_74 : decode cX5_correct 74 = .ok (.bipush 10, 2) := by decide +kernel
theorem dX5_correct_76 : decode cX5_correct 76 = .ok (.iaload, 1) := by decide +kernel
theorem dX5_correct_77 : decode cX5_correct 77 = .ok (.ireturn, 1) := by decide +kernel
def t_X5_correct_59 : am_T := tb_aload 0 <|
  tb_callV 5 sp_X5_changes 1 <|
  tb_aload 0 <|
  tb_iload 1 <|
  tb_iload 2 <|
  tb_iload 3 <|
  tb_callV 5 sp_X5_tells 4 <|
  tb_aload 0 <|
  tb_getR 5 0 <|
  tb_const 10 <|
  tb_iald <|
  tb_iret
def t_X5_correct_44 : am_T := tb_aload 0 <|
  tb_getR 5 0 <|
  tb_const 10 <|
  tb_iald <|
  tb_const 12 <|
  tb_ic (fun x y => x ≠ y) (t_X5_correct_59) <|
  tb_const (-3) <|
  tb_iret
def t_X5_correct_31 : am_T := tb_aload 0 <|
  tb_iload 1 <|
  tb_iload 2 <|
  tb_iload 3 <|
  tb_callV 5 sp_X5_canTell 4 <|
  tb_if (fun x => x ≠ 0) (t_X5_correct_44) <|
  tb_const (-2) <|
  tb_iret
def t_X5_correct_29 : am_T := tb_const (-1) <|
  tb_iret
def t_X5_correct_0 : am_T := tb_iload 1 <|
  tb_const 0 <|
  tb_const 2 <|
  tb_callS sp_X5_in 3 <|
  tb_if (fun x => x = 0) (t_X5_correct_29) <|
  tb_aload 0 <|
  tb_iload 2 <|
  tb_callV 5 sp_X5_isLine 2 <|
  tb_if (fun x => x = 0) (t_X5_correct_29) <|
  tb_iload 1 <|
  tb_if (fun x => x = 0) (t_X5_correct_31) <|
  tb_aload 0 <|
  tb_iload 3 <|
  tb_callV 5 sp_X5_isLine 2 <|
  tb_if (fun x => x ≠ 0) (t_X5_correct_31) <|
  t_X5_correct_29
def h_X5_correct : am_Hd := fun h => if h = 0 then t_X5_correct_0 else tb_bad
theorem h_X5_correct_0 : h_X5_correct 0 = t_X5_correct_0 := rfl
def rm_X5_correct : Room := { frames := 3, cells := 0, slots := 0, locals := 71 }
def sp_X5_correct : am_sp := fun as M Q => as.length ≤ 4 ∧ am_OK h_X5_correct Q 0 (am_in 4 as) M
theorem s_X5_correct_59 {G : am_G} {bc bs : Nat} (X : am_Cx G cX5_correct RX5 "correct" rm_X5_correct (some .int) 4 bc bs true) : am_S G 59 (t_X5_correct_59) := by
  unfold t_X5_correct_59
  refine as_aload_n (pc := 59) X dX5_correct_59 rfl ?_
  refine as_callV (ci := 5) (np := 0) (ix := 68) (pc := 60) X ct_X5_changes (Cn := (RX5, TX5, 21)) rfl ⟨rfl, rfl⟩ aw_816 aw_818 aw_26 aw_819 aw_65 (by decide +kernel) (by decide) dX5_correct_60 ?_
  refine as_aload_n (pc := 63) X dX5_correct_63 rfl ?_
  refine as_iload_n (pc := 64) X dX5_correct_64 rfl ?_
  refine as_iload_n (pc := 65) X dX5_correct_65 rfl ?_
  refine as_iload_n (pc := 66) X dX5_correct_66 rfl ?_
  refine as_callV (ci := 5) (np := 3) (ix := 174) (pc := 67) X ct_X5_tells (Cn := (RX5, TX5, 21)) rfl ⟨rfl, rfl⟩ aw_970 aw_972 aw_44 aw_973 aw_65 (by decide +kernel) (by decide) dX5_correct_67 ?_
  refine as_aload_n (pc := 70) X dX5_correct_70 rfl ?_
  refine as_getR (ci := 5) (j := 0) (pc := 71) X (Cn := RX5) (Tf := TX5) (N := 21) rfl rfl (by decide) iw_X5 aw_738 rfl dX5_correct_71 ?_
  refine as_bipush (pc := 74) X dX5_correct_74 (by decide) ?_
  refine as_iald (pc := 76) X dX5_correct_76 ?_
  exact as_iret (pc := 77) X ⟨rfl, rfl⟩ rfl dX5_correct_77
theorem s_X5_correct_44 {G : am_G} {bc bs : Nat} (X : am_Cx G cX5_correct RX5 "correct" rm_X5_correct (some .int) 4 bc bs true) : am_S G 44 (t_X5_correct_44) := by
  unfold t_X5_correct_44
  refine as_aload_n (pc := 44) X dX5_correct_44 rfl ?_
  refine as_getR (ci := 5) (j := 0) (pc := 45) X (Cn := RX5) (Tf := TX5) (N := 21) rfl rfl (by decide) iw_X5 aw_738 rfl dX5_correct_45 ?_
  refine as_bipush (pc := 48) X dX5_correct_48 (by decide) ?_
  refine as_iald (pc := 50) X dX5_correct_50 ?_
  refine as_bipush (pc := 51) X dX5_correct_51 (by decide) ?_
  refine as_ic_ne (pc := 53) X 59 dX5_correct_53 (by decide) (s_X5_correct_59 X) ?_
  refine as_bipush (pc := 56) X dX5_correct_56 (by decide) ?_
  exact as_iret (pc := 58) X ⟨rfl, rfl⟩ rfl dX5_correct_58
theorem s_X5_correct_31 {G : am_G} {bc bs : Nat} (X : am_Cx G cX5_correct RX5 "correct" rm_X5_correct (some .int) 4 bc bs true) : am_S G 31 (t_X5_correct_31) := by
  unfold t_X5_correct_31
  refine as_aload_n (pc := 31) X dX5_correct_31 rfl ?_
  refine as_iload_n (pc := 32) X dX5_correct_32 rfl ?_
  refine as_iload_n (pc := 33) X dX5_correct_33 rfl ?_
  refine as_iload_n (pc := 34) X dX5_correct_34 rfl ?_
  refine as_callV (ci := 5) (np := 3) (ix := 171) (pc := 35) X ct_X5_canTell (Cn := (RX5, TX5, 21)) rfl ⟨rfl, rfl⟩ aw_962 aw_964 aw_42 aw_965 aw_65 (by decide +kernel) (by decide) dX5_correct_35 ?_
  refine as_if_ne (pc := 38) X 44 dX5_correct_38 (by decide) (s_X5_correct_44 X) ?_
  refine as_bipush (pc := 41) X dX5_correct_41 (by decide) ?_
  exact as_iret (pc := 43) X ⟨rfl, rfl⟩ rfl dX5_correct_43
theorem s_X5_correct_29 {G : am_G} {bc bs : Nat} (X : am_Cx G cX5_correct RX5 "correct" rm_X5_correct (some .int) 4 bc bs true) : am_S G 29 (t_X5_correct_29) := by
  unfold t_X5_correct_29
  refine as_iconst (pc := 29) X dX5_correct_29 (by decide) ?_
  exact as_iret (pc := 30) X ⟨rfl, rfl⟩ rfl dX5_correct_30
theorem s_X5_correct_0 {G : am_G} {bc bs : Nat} (X : am_Cx G cX5_correct RX5 "correct" rm_X5_correct (some .int) 4 bc bs true) : am_S G 0 (t_X5_correct_0) := by
  unfold t_X5_correct_0
  refine as_iload_n (pc := 0) X dX5_correct_0 rfl ?_
  refine as_iconst (pc := 1) X dX5_correct_1 (by decide) ?_
  refine as_iconst (pc := 2) X dX5_correct_2 (by decide) ?_
  refine as_callS (np := 3) (ix := 60) (pc := 3) X ct_X5_in ⟨rfl, rfl⟩ aw_806 aw_807 aw_808 aw_65 (by decide +kernel) (by decide) dX5_correct_3 ?_
  refine as_if_eq (pc := 6) X 29 dX5_correct_6 (by decide) (s_X5_correct_29 X) ?_
  refine as_aload_n (pc := 9) X dX5_correct_9 rfl ?_
  refine as_iload_n (pc := 10) X dX5_correct_10 rfl ?_
  refine as_callV (ci := 5) (np := 1) (ix := 138) (pc := 11) X ct_X5_isLine (Cn := (RX5, TX5, 21)) rfl ⟨rfl, rfl⟩ aw_844 aw_846 aw_28 aw_847 aw_65 (by decide +kernel) (by decide) dX5_correct_11 ?_
  refine as_if_eq (pc := 14) X 29 dX5_correct_14 (by decide) (s_X5_correct_29 X) ?_
  refine as_iload_n (pc := 17) X dX5_correct_17 rfl ?_
  refine as_if_eq (pc := 18) X 31 dX5_correct_18 (by decide) (s_X5_correct_31 X) ?_
  refine as_aload_n (pc := 21) X dX5_correct_21 rfl ?_
  refine as_iload_n (pc := 22) X dX5_correct_22 rfl ?_
  refine as_callV (ci := 5) (np := 1) (ix := 138) (pc := 23) X ct_X5_isLine (Cn := (RX5, TX5, 21)) rfl ⟨rfl, rfl⟩ aw_844 aw_846 aw_28 aw_847 aw_65 (by decide +kernel) (by decide) dX5_correct_23 ?_
  refine as_if_ne (pc := 26) X 31 dX5_correct_26 (by decide) (s_X5_correct_31 X) ?_
  exact s_X5_correct_29 X
theorem s_X5_correct {G : am_G} {bc bs : Nat} (X : am_Cx G cX5_correct RX5 "correct" rm_X5_correct (some .int) 4 bc bs true) (h : Nat) : am_S G h (h_X5_correct h) := by
  unfold h_X5_correct
  split
  · next e => rw [e]; exact s_X5_correct_0 X
  exact as_bad
theorem ct_X5_correct : am_Ct yX5_correct cX5_correct 4 (some .int) rm_X5_correct sp_X5_correct := am_met (own := RX5) (nm := "correct") (by decide) rfl rfl (Or.inr (Or.inl rfl)) (fun _ _ => h_X5_correct) (fun _ _ _ X => s_X5_correct X) (fun _ _ _ _ h => h)
-- X1_isFix
theorem dX1_isFix_0 : decode cX1_isFix 0 = .ok (.iload_n 1, 1) := by decide +kernel
theorem dX1_isFix_1 : decode cX1_isFix 1 = .ok (.ifCond .lt 15, 3) := by decide +kernel
theorem dX1_isFix_4 : decode cX1_isFix 4 = .ok (.iload_n 1, 1) := by decide +kernel
theorem dX1_isFix_5 : decode cX1_isFix 5 = .ok (.aload_n 0, 1) := by decide +kernel
theorem dX1_isFix_6 : decode cX1_isFix 6 = .ok (.getfield 40, 3) := by decide +kernel
theorem dX1_isFix_9 : decode cX1_isFix 9 = .ok (.if_icmp .ge 7, 3) := by decide +kernel
theorem dX1_isFix_12 : decode cX1_isFix 12 = .ok (.iconst 1, 1) := by decide +kernel
theorem dX1_isFix_13 : decode cX1_isFix 13 = .ok (.goto 4, 3) := by decide +kernel
theorem dX1_isFix_16 : decode cX1_isFix 16 = .ok (.iconst 0, 1) := by decide +kernel
theorem dX1_isFix_17 : decode cX1_isFix 17 = .ok (.ireturn, 1) := by decide +kernel
def t_X1_isFix_17 : am_T := tb_zret
def t_X1_isFix_16 : am_T := tb_const 0 <|
  t_X1_isFix_17
def t_X1_isFix_0 : am_T := tb_iload 1 <|
  tb_if (fun x => x < 0) (t_X1_isFix_16) <|
  tb_iload 1 <|
  tb_aload 0 <|
  tb_getI 1 9 <|
  tb_ic (fun x y => y ≤ x) (t_X1_isFix_16) <|
  tb_const 1 <|
  t_X1_isFix_17
def h_X1_isFix : am_Hd := fun h => if h = 0 then t_X1_isFix_0 else tb_bad
theorem h_X1_isFix_0 : h_X1_isFix 0 = t_X1_isFix_0 := rfl
def rm_X1_isFix : Room := { frames := 0, cells := 0, slots := 0, locals := 0 }
def sp_X1_isFix : am_sp := fun as M Q => as.length ≤ 2 ∧ am_OK h_X1_isFix Q 0 (am_in 2 as) M
theorem s_X1_isFix_17 {G : am_G} {bc bs : Nat} (X : am_Cx G cX1_isFix RX1 "isFix" rm_X1_isFix (some .boolean) 2 bc bs true) : am_S G 17 (t_X1_isFix_17) := by
  unfold t_X1_isFix_17
  exact as_zret (pc := 17) X ⟨rfl, rfl⟩ rfl dX1_isFix_17
theorem s_X1_isFix_16 {G : am_G} {bc bs : Nat} (X : am_Cx G cX1_isFix RX1 "isFix" rm_X1_isFix (some .boolean) 2 bc bs true) : am_S G 16 (t_X1_isFix_16) := by
  unfold t_X1_isFix_16
  refine as_iconst (pc := 16) X dX1_isFix_16 (by decide) ?_
  exact s_X1_isFix_17 X
theorem s_X1_isFix_0 {G : am_G} {bc bs : Nat} (X : am_Cx G cX1_isFix RX1 "isFix" rm_X1_isFix (some .boolean) 2 bc bs true) : am_S G 0 (t_X1_isFix_0) := by
  unfold t_X1_isFix_0
  refine as_iload_n (pc := 0) X dX1_isFix_0 rfl ?_
  refine as_if_lt (pc := 1) X 16 dX1_isFix_1 (by decide) (s_X1_isFix_16 X) ?_
  refine as_iload_n (pc := 4) X dX1_isFix_4 rfl ?_
  refine as_aload_n (pc := 5) X dX1_isFix_5 rfl ?_
  refine as_getI (ci := 1) (j := 9) (pc := 6) X (Cn := RX1) (Tf := TX1) (N := 14) rfl rfl (by decide) iw_X1 aw_113 rfl dX1_isFix_6 ?_
  refine as_ic_ge (pc := 9) X 16 dX1_isFix_9 (by decide) (s_X1_isFix_16 X) ?_
  refine as_iconst (pc := 12) X dX1_isFix_12 (by decide) ?_
  exact as_goto (pc := 13) X 17 dX1_isFix_13 (by decide) (s_X1_isFix_17 X)
theorem s_X1_isFix {G : am_G} {bc bs : Nat} (X : am_Cx G cX1_isFix RX1 "isFix" rm_X1_isFix (some .boolean) 2 bc bs true) (h : Nat) : am_S G h (h_X1_isFix h) := by
  unfold h_X1_isFix
  split
  · next e => rw [e]; exact s_X1_isFix_0 X
  exact as_bad
theorem ct_X1_isFix : am_Ct yX1_isFix cX1_isFix 2 (some .boolean) rm_X1_isFix sp_X1_isFix := am_met (own := RX1) (nm := "isFix") (by decide) rfl rfl (Or.inr (Or.inr (Or.inl rfl))) (fun _ _ => h_X1_isFix) (fun _ _ _ X => s_X1_isFix X) (fun _ _ _ _ h => h)
-- X4_withdraw
theorem dX4_withdraw_0 : decode cX4_withdraw 0 = .ok (.aload_n 0, 1) := by decide +kernel
theorem dX4_withdraw_1 : decode cX4_withdraw 1 = .ok (.getfield 20, 3) := by decide +kernel
theorem dX4_withdraw_4 : decode cX4_withdraw 4 = .ok (.iload_n 1, 1) := by decide +kernel
theorem dX4_withdraw_5 : decode cX4_withdraw 5 = .ok (.invokevirtual 187, 3) := by decide +kernel
theorem dX4_withdraw_8 : decode cX4_withdraw 8 = .ok (.ifCond .ne 5, 3) := by decide +kernel
theorem dX4_withdraw_11 : decode cX4_withdraw 11 = .ok (.iconst (-1), 1) := by decide +kernel
theorem dX4_withdraw_12 : decode cX4_withdraw 12 = .ok (.ireturn, 1) := by decide +kernel
theorem dX4_withdraw_13 : decode cX4_withdraw 13 = .ok (.aload_n 0, 1) := by decide +kernel
theorem dX4_withdraw_14 : decode cX4_withdraw 14 = .ok (.invokevirtual 69, 3) := by decide +kernel
theorem dX4_withdraw_17 : decode cX4_withdraw 17 = .ok (.aload_n 0, 1) := by decide +kernel
theorem dX4_withdraw_18 : decode cX4_withdraw 18 = .ok (.getfield 20, 3) := by decide +kernel
theorem dX4_withdraw_21 : decode cX4_withdraw 21 = .ok (.iload_n 1, 1) := by decide +kernel
theorem dX4_withdraw_22 : decode cX4_withdraw 22 = .ok (.invokevirtual 190, 3) := by decide +kernel
theorem dX4_withdraw_25 : decode cX4_withdraw 25 = .ok (.aload_n 0, 1) := by decide +kernel
theorem dX4_withdraw_26 : decode cX4_withdraw 26 = .ok (.getfield 20, 3) := by decide +kernel
theorem dX4_withdraw_29 : decode cX4_withdraw 29 = .ok (.getfield 100, 3) := by decide +kernel
theorem dX4_withdraw_32 : decode cX4_withdraw 32 = .ok (.ireturn, 1) := by decide +kernel
def t_X4_withdraw_13 : am_T := tb_aload 0 <|
  tb_callV 4 sp_X4_beginChange 1 <|
  tb_aload 0 <|
  tb_getR 4 1 <|
  tb_iload 1 <|
  tb_callV 1 sp_X1_removeFix 2 <|
  tb_aload 0 <|
  tb_getR 4 1 <|
  tb_getI 1 9 <|
  tb_iret
def t_X4_withdraw_0 : am_T := tb_aload 0 <|
  tb_getR 4 1 <|
  tb_iload 1 <|
  tb_callV 1 sp_X1_isFix 2 <|
  tb_if (fun x => x ≠ 0) (t_X4_withdraw_13) <|
  tb_const (-1) <|
  tb_iret
def h_X4_withdraw : am_Hd := fun h => if h = 0 then t_X4_withdraw_0 else tb_bad
theorem h_X4_withdraw_0 : h_X4_withdraw 0 = t_X4_withdraw_0 := rfl
def rm_X4_withdraw : Room := { frames := 4, cells := 0, slots := 0, locals := 89 }
def sp_X4_withdraw : am_sp := fun as M Q => as.length ≤ 2 ∧ am_OK h_X4_withdraw Q 0 (am_in 2 as) M
theorem s_X4_withdraw_13 {G : am_G} {bc bs : Nat} (X : am_Cx G cX4_withdraw RX4 "withdraw" rm_X4_withdraw (some .int) 2 bc bs true) : am_S G 13 (t_X4_withdraw_13) := by
  unfold t_X4_withdraw_13
  refine as_aload_n (pc := 13) X dX4_withdraw_13 rfl ?_
  refine as_callV (ci := 4) (np := 0) (ix := 69) (pc := 14) X ct_X4_beginChange (Cn := (RX4, TX4, 7)) rfl ⟨rfl, rfl⟩ aw_322 aw_324 aw_0 aw_325 aw_59 (by decide +kernel) (by decide) dX4_withdraw_14 ?_
  refine as_aload_n (pc := 17) X dX4_withdraw_17 rfl ?_
  refine as_getR (ci := 4) (j := 1) (pc := 18) X (Cn := RX4) (Tf := TX4) (N := 7) rfl rfl (by decide) iw_X4 aw_275 rfl dX4_withdraw_18 ?_
  refine as_iload_n (pc := 21) X dX4_withdraw_21 rfl ?_
  refine as_callV (ci := 1) (np := 1) (ix := 190) (pc := 22) X ct_X1_removeFix (Cn := (RX1, TX1, 14)) rfl ⟨rfl, rfl⟩ aw_574 aw_379 aw_380 aw_381 aw_61 (by decide +kernel) (by decide) dX4_withdraw_22 ?_
  refine as_aload_n (pc := 25) X dX4_withdraw_25 rfl ?_
  refine as_getR (ci := 4) (j := 1) (pc := 26) X (Cn := RX4) (Tf := TX4) (N := 7) rfl rfl (by decide) iw_X4 aw_275 rfl dX4_withdraw_26 ?_
  refine as_getI (ci := 1) (j := 9) (pc := 29) X (Cn := RX1) (Tf := TX1) (N := 14) rfl rfl (by decide) iw_X1 aw_114 rfl dX4_withdraw_29 ?_
  exact as_iret (pc := 32) X ⟨rfl, rfl⟩ rfl dX4_withdraw_32
theorem s_X4_withdraw_0 {G : am_G} {bc bs : Nat} (X : am_Cx G cX4_withdraw RX4 "withdraw" rm_X4_withdraw (some .int) 2 bc bs true) : am_S G 0 (t_X4_withdraw_0) := by
  unfold t_X4_withdraw_0
  refine as_aload_n (pc := 0) X dX4_withdraw_0 rfl ?_
  refine as_getR (ci := 4) (j := 1) (pc := 1) X (Cn := RX4) (Tf := TX4) (N := 7) rfl rfl (by decide) iw_X4 aw_275 rfl dX4_withdraw_1 ?_
  refine as_iload_n (pc := 4) X dX4_withdraw_4 rfl ?_
  refine as_callV (ci := 1) (np := 1) (ix := 187) (pc := 5) X ct_X1_isFix (Cn := (RX1, TX1, 14)) rfl ⟨rfl, rfl⟩ aw_570 aw_571 aw_572 aw_573 aw_61 (by decide +kernel) (by decide) dX4_withdraw_5 ?_
  refine as_if_ne (pc := 8) X 13 dX4_withdraw_8 (by decide) (s_X4_withdraw_13 X) ?_
  refine as_iconst (pc := 11) X dX4_withdraw_11 (by decide) ?_
  exact as_iret (pc := 12) X ⟨rfl, rfl⟩ rfl dX4_withdraw_12
theorem s_X4_withdraw {G : am_G} {bc bs : Nat} (X : am_Cx G cX4_withdraw RX4 "withdraw" rm_X4_withdraw (some .int) 2 bc bs true) (h : Nat) : am_S G h (h_X4_withdraw h) := by
  unfold h_X4_withdraw
  split
  · next e => rw [e]; exact s_X4_withdraw_0 X
  exact as_bad
theorem ct_X4_withdraw : am_Ct yX4_withdraw cX4_withdraw 2 (some .int) rm_X4_withdraw sp_X4_withdraw := am_met (own := RX4) (nm := "withdraw") (by decide) rfl rfl (Or.inr (Or.inl rfl)) (fun _ _ => h_X4_withdraw) (fun _ _ _ X => s_X4_withdraw X) (fun _ _ _ _ h => h)
-- X5_withdraw
theorem dX5_withdraw_0 : decode cX5_withdraw 0 = .ok (.iload_n 1, 1) := by decide +kernel
theorem dX5_withdraw_1 : decode cX5_withdraw 1 = .ok (.iconst 0, 1) := by decide +kernel
theorem dX5_withdraw_2 : decode cX5_withdraw 2 = .ok (.aload_n 0, 1) := by decide +kernel
theorem dX5_withdraw_3 : decode cX5_withdraw 3 = .ok (.getfield 7, 3) := by decide +kernel
theorem dX5_withdraw_6 : decode cX5_withdraw 6 = .ok (.bipush 10, 2) := by decide +kernel
theorem dX5_withdraw_8 : decode cX5_withdraw 8 = .ok (.iaload, 1) := by decide +kernel
theorem dX5_withdraw_9 : decode cX5_withdraw 9 = .ok (.iconst 1, 1) := by decide +kernel
theorem dX5_withdraw_10 : decode cX5_withdraw 10 = .ok (.isub, 1) := by decide +kernel
theorem dX5_withdraw_11 : decode cX5_withdraw 11 = .ok (.invokestatic 60, 3) := by decide +kernel
theorem dX5_withdraw_14 : decode cX5_withdraw 14 = .ok (.ifCond .ne 5, 3) := by decide +kernel
theorem dX5_withdraw_17 : decode cX5_withdraw 17 = .ok (.iconst (-1), 1) := by decide +kernel
theorem dX5_withdraw_18 : decode cX5_withdraw 18 = .ok (.ireturn, 1) := by decide +kernel
theorem dX5_withdraw_19 : decode cX5_withdraw 19 = .ok (.aload_n 0, 1) := by decide +kernel
theorem dX5_withdraw_20 : decode cX5_withdraw 20 = .ok (.invokevirtual 68, 3) := by decide +kernel
theorem dX5_withdraw_23 : decode cX5_withdraw 23 = .ok (.aload_n 0, 1) := by decide +kernel
theorem dX5_withdraw_24 : decode cX5_withdraw 24 = .ok (.getfield 7, 3) := by decide +kernel
theorem dX5_withdraw_27 : decode cX5_withdraw 27 = .ok (.iload_n 1, 1) := by decide +kernel
theorem dX5_withdraw_28 : decode cX5_withdraw 28 = .ok (.invokestatic 135, 3) := by decide +kernel
theorem dX5_withdraw_31 : decode cX5_withdraw 31 = .ok (.aload_n 0, 1) := by decide +kernel
theorem dX5_withdraw_32 : decode cX5_withdraw 32 = .ok (.getfield 7, 3) := by decide +kernel
theorem dX5_withdraw_35 : decode cX5_withdraw 35 = .ok (.bipush 10, 2) := by decide +kernel
theorem dX5_withdraw_37 : decode cX5_withdraw 37 = .ok (.iaload, 1) := by decide +kernel
theorem dX5_withdraw_38 : decode cX5_withdraw 38 = .ok (.ireturn, 1) := by decide +kernel
def t_X5_withdraw_19 : am_T := tb_aload 0 <|
  tb_callV 5 sp_X5_changes 1 <|
  tb_aload 0 <|
  tb_getR 5 0 <|
  tb_iload 1 <|
  tb_callS sp_X5_goes 2 <|
  tb_aload 0 <|
  tb_getR 5 0 <|
  tb_const 10 <|
  tb_iald <|
  tb_iret
def t_X5_withdraw_0 : am_T := tb_iload 1 <|
  tb_const 0 <|
  tb_aload 0 <|
  tb_getR 5 0 <|
  tb_const 10 <|
  tb_iald <|
  tb_const 1 <|
  tb_bin (fun x y => x - y) <|
  tb_callS sp_X5_in 3 <|
  tb_if (fun x => x ≠ 0) (t_X5_withdraw_19) <|
  tb_const (-1) <|
  tb_iret
def h_X5_withdraw : am_Hd := fun h => if h = 0 then t_X5_withdraw_0 else tb_bad
theorem h_X5_withdraw_0 : h_X5_withdraw 0 = t_X5_withdraw_0 := rfl
def rm_X5_withdraw : Room := { frames := 1, cells := 0, slots := 0, locals := 22 }
def sp_X5_withdraw : am_sp := fun as M Q => as.length ≤ 2 ∧ am_OK h_X5_withdraw Q 0 (am_in 2 as) M
theorem s_X5_withdraw_19 {G : am_G} {bc bs : Nat} (X : am_Cx G cX5_withdraw RX5 "withdraw" rm_X5_withdraw (some .int) 2 bc bs true) : am_S G 19 (t_X5_withdraw_19) := by
  unfold t_X5_withdraw_19
  refine as_aload_n (pc := 19) X dX5_withdraw_19 rfl ?_
  refine as_callV (ci := 5) (np := 0) (ix := 68) (pc := 20) X ct_X5_changes (Cn := (RX5, TX5, 21)) rfl ⟨rfl, rfl⟩ aw_816 aw_818 aw_26 aw_819 aw_65 (by decide +kernel) (by decide) dX5_withdraw_20 ?_
  refine as_aload_n (pc := 23) X dX5_withdraw_23 rfl ?_
  refine as_getR (ci := 5) (j := 0) (pc := 24) X (Cn := RX5) (Tf := TX5) (N := 21) rfl rfl (by decide) iw_X5 aw_738 rfl dX5_withdraw_24 ?_
  refine as_iload_n (pc := 27) X dX5_withdraw_27 rfl ?_
  refine as_callS (np := 2) (ix := 135) (pc := 28) X ct_X5_goes ⟨rfl, rfl⟩ aw_854 aw_855 aw_856 aw_65 (by decide +kernel) (by decide) dX5_withdraw_28 ?_
  refine as_aload_n (pc := 31) X dX5_withdraw_31 rfl ?_
  refine as_getR (ci := 5) (j := 0) (pc := 32) X (Cn := RX5) (Tf := TX5) (N := 21) rfl rfl (by decide) iw_X5 aw_738 rfl dX5_withdraw_32 ?_
  refine as_bipush (pc := 35) X dX5_withdraw_35 (by decide) ?_
  refine as_iald (pc := 37) X dX5_withdraw_37 ?_
  exact as_iret (pc := 38) X ⟨rfl, rfl⟩ rfl dX5_withdraw_38
theorem s_X5_withdraw_0 {G : am_G} {bc bs : Nat} (X : am_Cx G cX5_withdraw RX5 "withdraw" rm_X5_withdraw (some .int) 2 bc bs true) : am_S G 0 (t_X5_withdraw_0) := by
  unfold t_X5_withdraw_0
  refine as_iload_n (pc := 0) X dX5_withdraw_0 rfl ?_
  refine as_iconst (pc := 1) X dX5_withdraw_1 (by decide) ?_
  refine as_aload_n (pc := 2) X dX5_withdraw_2 rfl ?_
  refine as_getR (ci := 5) (j := 0) (pc := 3) X (Cn := RX5) (Tf := TX5) (N := 21) rfl rfl (by decide) iw_X5 aw_738 rfl dX5_withdraw_3 ?_
  refine as_bipush (pc := 6) X dX5_withdraw_6 (by decide) ?_
  refine as_iald (pc := 8) X dX5_withdraw_8 ?_
  refine as_iconst (pc := 9) X dX5_withdraw_9 (by decide) ?_
  refine as_isub (pc := 10) X dX5_withdraw_10 ?_
  refine as_callS (np := 3) (ix := 60) (pc := 11) X ct_X5_in ⟨rfl, rfl⟩ aw_806 aw_807 aw_808 aw_65 (by decide +kernel) (by decide) dX5_withdraw_11 ?_
  refine as_if_ne (pc := 14) X 19 dX5_withdraw_14 (by decide) (s_X5_withdraw_19 X) ?_
  refine as_iconst (pc := 17) X dX5_withdraw_17 (by decide) ?_
  exact as_iret (pc := 18) X ⟨rfl, rfl⟩ rfl dX5_withdraw_18
theorem s_X5_withdraw {G : am_G} {bc bs : Nat} (X : am_Cx G cX5_withdraw RX5 "withdraw" rm_X5_withdraw (some .int) 2 bc bs true) (h : Nat) : am_S G h (h_X5_withdraw h) := by
  unfold h_X5_withdraw
  split
  · next e => rw [e]; exact s_X5_withdraw_0 X
  exact as_bad
theorem ct_X5_withdraw : am_Ct yX5_withdraw cX5_withdraw 2 (some .int) rm_X5_withdraw sp_X5_withdraw := am_met (own := RX5) (nm := "withdraw") (by decide) rfl rfl (Or.inr (Or.inl rfl)) (fun _ _ => h_X5_withdraw) (fun _ _ _ X => s_X5_withdraw X) (fun _ _ _ _ h => h)
-- X3_fixMatters
theorem dX3_fixMatters_0 : decode cX3_fixMatters 0 = .ok (.aload_n 0, 1) := by decide +kernel
theorem dX3_fixMatters_1 : decode cX3_fixMatters 1 = .ok (.getfield 12, 3) := by decide +kernel
theorem dX3_fixMatters_4 : decode cX3_fixMatters 4 = .ok (.getfield 131, 3) := by decide +kernel
theorem dX3_fixMatters_7 : decode cX3_fixMatters 7 = .ok (.iload_n 1, 1) := by decide +kernel
theorem dX3_fixMatters_8 : decode cX3_fixMatters 8 = .ok (.iaload, 1) := by decide +kernel
theorem dX3_fixMatters_9 : decode cX3_fixMatters 9 = .ok (.istore_n 2, 1) := by decide +kernel
theorem dX3_fixMatters_10 : decode cX3_fixMatters 10 = .ok (.aload_n 0, 1) := by decide +kernel
theorem dX3_fixMatters_11 : decode cX3_fixMatters 11 = .ok (.getfield 12, 3) := by decide +kernel
theorem dX3_fixMatters_14 : decode cX3_fixMatters 14 = .ok (.getfield 128, 3) := by decide +kernel
theorem dX3_fixMatters_17 : decode cX3_fixMatters 17 = .ok (.iload_n 1, 1) := by decide +kernel
theorem dX3_fixMatters_18 : decode cX3_fixMatters 18 = .ok (.iaload, 1) := by decide +kernel
theorem dX3_fixMatters_19 : decode cX3_fixMatters 19 = .ok (.iconst 2, 1) := by decide +kernel
theorem dX3_fixMatters_20 : decode cX3_fixMatters 20 = .ok (.if_icmp .eq 19, 3) := by decide +kernel
theorem dX3_fixMatters_23 : decode cX3_fixMatters 23 = .ok (.aload_n 0, 1) := by decide +kernel
theorem dX3_fixMatters_24 : decode cX3_fixMatters 24 = .ok (.getfield 31, 3) := by decide +kernel
theorem dX3_fixMatters_27 : decode cX3_fixMatters 27 = .ok (.iload_n 2, 1) := by decide +kernel
theorem dX3_fixMatters_28 : decode cX3_fixMatters 28 = .ok (.iaload, 1) := by decide +kernel
theorem dX3_fixMatters_29 : decode cX3_fixMatters 29 = .ok (.iload_n 1, 1) := by decide +kernel
theorem dX3_fixMatters_30 : decode cX3_fixMatters 30 = .ok (.if_icmp .ne 7, 3) := by decide +kernel
theorem dX3_fixMatters_33 : decode cX3_fixMatters 33 = .ok (.iconst 1, 1) := by decide +kernel
theorem dX3_fixMatters_34 : decode cX3_fixMatters 34 = .ok (.goto 4, 3) := by decide +kernel
theorem dX3_fixMatters_37 : decode cX3_fixMatters 37 = .ok (.iconst 0, 1) := by decide +kernel
theorem dX3_fixMatters_38 : decode cX3_fixMatters 38 = .ok (.ireturn, 1) := by decide +kernel
theorem dX3_fixMatters_39 : decode cX3_fixMatters 39 = .ok (.aload_n 0, 1) := by decide +kernel
theorem dX3_fixMatters_40 : decode cX3_fixMatters 40 = .ok (.getfield 12, 3) := by decide +kernel
theorem dX3_fixMatters_43 : decode cX3_fixMatters 43 = .ok (.getfield 134, 3) := by decide +kernel
theorem dX3_fixMatters_46 : decode cX3_fixMatters 46 = .ok (.iload_n 1, 1) := by decide +kernel
theorem dX3_fixMatters_47 : decode cX3_fixMatters 47 = .ok (.iaload, 1) := by decide +kernel
theorem dX3_fixMatters_48 : decode cX3_fixMatters 48 = .ok (.istore_n 3, 1) := by decide +kernel
theorem dX3_fixMatters_49 : decode cX3_fixMatters 49 = .ok (.aload_n 0, 1) := by decide +kernel
theorem dX3_fixMatters_50 : decode cX3_fixMatters 50 = .ok (.getfield 31, 3) := by decide +kernel
theorem dX3_fixMatters_53 : decode cX3_fixMatters 53 = .ok (.iload_n 2, 1) := by decide +kernel
theorem dX3_fixMatters_54 : decode cX3_fixMatters 54 = .ok (.iaload, 1) := by decide +kernel
theorem dX3_fixMatters_55 : decode cX3_fixMatters 55 = .ok (.iconst (-1), 1) := by decide +kernel
theorem dX3_fixMatters_56 : decode cX3_fixMatters 56 = .ok (.if_icmp .ne 44, 3) := by decide +kernel
theorem dX3_fixMatters_59 : decode cX3_fixMatters 59 = .ok (.aload_n 0, 1) := by decide +kernel
theorem dX3_fixMatters_60 : decode cX3_fixMatters 60 = .ok (.iload_n 2, 1) := by decide +kernel
theorem dX3_fixMatters_61 : decode cX3_fixMatters 61 = .ok (.iload_n 3, 1) := by decide +kernel
theorem dX3_fixMatters_62 : decode cX3_fixMatters 62 = .ok (.invokevirtual 122, 3) := by decide +kernel
theorem dX3_fixMatters_65 : decode cX3_fixMatters 65 = .ok (.ifCond .eq 35, 3) := by decide +kernel
theorem dX3_fixMatters_68 : decode cX3_fixMatters 68 = .ok (.aload_n 0, 1) := by decide +kernel
theorem dX3_fixMatters_69 : decode cX3_fixMatters 69 = .ok (.iload_n 2, 1) := by decide +kernel
theorem dX3_fixMatters_70 : decode cX3_fixMatters 70 = .ok (.iload_n 3, 1) := by decide +kernel
theorem dX3_fixMatters_71 : decode cX3_fixMatters 71 = .ok (.invokevirtual 153, 3) := by decide +kernel
theorem dX3_fixMatters_74 : decode cX3_fixMatters 74 = .ok (.ifCond .eq 26, 3) := by decide +kernel
theorem dX3_fixMatters_77 : decode cX3_fixMatters 77 = .ok (.aload_n 0, 1) := by decide +kernel
theorem dX3_fixMatters_78 : decode cX3_fixMatters 78 = .ok (.aload_n 0, 1) := by decide +kernel
theorem dX3_fixMatters_79 : decode cX3_fixMatters 79 = .ok (.getfield 34, 3) := by decide +kernel
theorem dX3_fixMatters_82 : decode cX3_fixMatters 82 = .ok (.iload_n 2, 1) := by decide +kernel
theorem dX3_fixMatters_83 : decode cX3_fixMatters 83 = .ok (.iaload, 1) := by decide +kernel
theorem dX3_fixMatters_84 : decode cX3_fixMatters 84 = .ok (.iconst 1, 1) := by decide +kernel
theorem dX3_fixMatters_85 : decode cX3_fixMatters 85 = .ok (.iload_n 3, 1) := by decide +kernel
theorem dX3_fixMatters_86 : decode cX3_fixMatters 86 = .ok (.ishl, 1) := by decide +kernel
theorem dX3_fixMatters_87 : decode cX3_fixMatters 87 = .ok (.ior, 1) := by decide +kernel
theorem dX3_fixMatters_88 : decode cX3_fixMatters 88 = .ok (.iload_n 2, 1) := by decide +kernel
theorem dX3_fixMatters_89 : decode cX3_fixMatters 89 = .ok (.invokevirtual 88, 3) := by decide +kernel
theorem dX3_fixMatters_92 : decode cX3_fixMatters 92 = .ok (.iload_n 3, 1) := by decide +kernel
theorem dX3_fixMatters_93 : decode cX3_fixMatters 93 = .ok (.if_icmp .ne 7, 3) := by decide +kernel
theorem dX3_fixMatters_96 : decode cX3_fixMatters 96 = .ok (.iconst 1, 1) := by decide +kernel
theorem dX3_fixMatters_97 : decode cX3_fixMatters 97 = .ok (.goto 4, 3) := by decide +kernel
theorem dX3_fixMatters_100 : decode cX3_fixMatters 100 = .ok (.iconst 0, 1) := by decide +kernel
theorem dX3_fixMatters_101 : decode cX3_fixMatters 101 = .ok (.ireturn, 1) := by decide +kernel
def t_X3_fixMatters_101 : am_T := tb_zret
def t_X3_fixMatters_100 : am_T := tb_const 0 <|
  t_X3_fixMatters_101
def t_X3_fixMatters_39 : am_T := tb_aload 0 <|
  tb_getR 3 0 <|
  tb_getR 1 12 <|
  tb_iload 1 <|
  tb_iald <|
  tb_istore 3 <|
  tb_aload 0 <|
  tb_getR 3 5 <|
  tb_iload 2 <|
  tb_iald <|
  tb_const (-1) <|
  tb_ic (fun x y => x ≠ y) (t_X3_fixMatters_100) <|
  tb_aload 0 <|
  tb_iload 2 <|
  tb_iload 3 <|
  tb_callV 3 sp_X3_isInWindow 3 <|
  tb_if (fun x => x = 0) (t_X3_fixMatters_100) <|
  tb_aload 0 <|
  tb_iload 2 <|
  tb_iload 3 <|
  tb_callV 3 sp_X3_isPassed 3 <|
  tb_if (fun x => x = 0) (t_X3_fixMatters_100) <|
  tb_aload 0 <|
  tb_aload 0 <|
  tb_getR 3 6 <|
  tb_iload 2 <|
  tb_iald <|
  tb_const 1 <|
  tb_iload 3 <|
  tb_bin (fun x y => x <<< (y &&& 31)) <|
  tb_bin (fun x y => x ||| y) <|
  tb_iload 2 <|
  tb_callV 3 sp_X3_bestOf 3 <|
  tb_iload 3 <|
  tb_ic (fun x y => x ≠ y) (t_X3_fixMatters_100) <|
  tb_const 1 <|
  t_X3_fixMatters_101
def t_X3_fixMatters_38 : am_T := tb_zret
def t_X3_fixMatters_37 : am_T := tb_const 0 <|
  t_X3_fixMatters_38
def t_X3_fixMatters_0 : am_T := tb_aload 0 <|
  tb_getR 3 0 <|
  tb_getR 1 11 <|
  tb_iload 1 <|
  tb_iald <|
  tb_istore 2 <|
  tb_aload 0 <|
  tb_getR 3 0 <|
  tb_getR 1 10 <|
  tb_iload 1 <|
  tb_iald <|
  tb_const 2 <|
  tb_ic (fun x y => x = y) (t_X3_fixMatters_39) <|
  tb_aload 0 <|
  tb_getR 3 5 <|
  tb_iload 2 <|
  tb_iald <|
  tb_iload 1 <|
  tb_ic (fun x y => x ≠ y) (t_X3_fixMatters_37) <|
  tb_const 1 <|
  t_X3_fixMatters_38
def h_X3_fixMatters : am_Hd := fun h => if h = 0 then t_X3_fixMatters_0 else tb_bad
theorem h_X3_fixMatters_0 : h_X3_fixMatters 0 = t_X3_fixMatters_0 := rfl
def rm_X3_fixMatters : Room := { frames := 2, cells := 0, slots := 0, locals := 47 }
def sp_X3_fixMatters : am_sp := fun as M Q => as.length ≤ 4 ∧ am_OK h_X3_fixMatters Q 0 (am_in 4 as) M
theorem s_X3_fixMatters_101 {G : am_G} {bc bs : Nat} (X : am_Cx G cX3_fixMatters RX3 "fixMatters" rm_X3_fixMatters (some .boolean) 4 bc bs true) : am_S G 101 (t_X3_fixMatters_101) := by
  unfold t_X3_fixMatters_101
  exact as_zret (pc := 101) X ⟨rfl, rfl⟩ rfl dX3_fixMatters_101
theorem s_X3_fixMatters_100 {G : am_G} {bc bs : Nat} (X : am_Cx G cX3_fixMatters RX3 "fixMatters" rm_X3_fixMatters (some .boolean) 4 bc bs true) : am_S G 100 (t_X3_fixMatters_100) := by
  unfold t_X3_fixMatters_100
  refine as_iconst (pc := 100) X dX3_fixMatters_100 (by decide) ?_
  exact s_X3_fixMatters_101 X
theorem s_X3_fixMatters_39 {G : am_G} {bc bs : Nat} (X : am_Cx G cX3_fixMatters RX3 "fixMatters" rm_X3_fixMatters (some .boolean) 4 bc bs true) : am_S G 39 (t_X3_fixMatters_39) := by
  unfold t_X3_fixMatters_39
  refine as_aload_n (pc := 39) X dX3_fixMatters_39 rfl ?_
  refine as_getR (ci := 3) (j := 0) (pc := 40) X (Cn := RX3) (Tf := TX3) (N := 17) rfl rfl (by decide) iw_X3 aw_159 rfl dX3_fixMatters_40 ?_
  refine as_getR (ci := 1) (j := 12) (pc := 43) X (Cn := RX1) (Tf := TX1) (N := 14) rfl rfl (by decide) iw_X1 aw_124 rfl dX3_fixMatters_43 ?_
  refine as_iload_n (pc := 46) X dX3_fixMatters_46 rfl ?_
  refine as_iald (pc := 47) X dX3_fixMatters_47 ?_
  refine as_istore_n (pc := 48) X dX3_fixMatters_48 rfl ?_ (by decide)
  refine as_aload_n (pc := 49) X dX3_fixMatters_49 rfl ?_
  refine as_getR (ci := 3) (j := 5) (pc := 50) X (Cn := RX3) (Tf := TX3) (N := 17) rfl rfl (by decide) iw_X3 aw_168 rfl dX3_fixMatters_50 ?_
  refine as_iload_n (pc := 53) X dX3_fixMatters_53 rfl ?_
  refine as_iald (pc := 54) X dX3_fixMatters_54 ?_
  refine as_iconst (pc := 55) X dX3_fixMatters_55 (by decide) ?_
  refine as_ic_ne (pc := 56) X 100 dX3_fixMatters_56 (by decide) (s_X3_fixMatters_100 X) ?_
  refine as_aload_n (pc := 59) X dX3_fixMatters_59 rfl ?_
  refine as_iload_n (pc := 60) X dX3_fixMatters_60 rfl ?_
  refine as_iload_n (pc := 61) X dX3_fixMatters_61 rfl ?_
  refine as_callV (ci := 3) (np := 2) (ix := 122) (pc := 62) X ct_X3_isInWindow (Cn := (RX3, TX3, 17)) rfl ⟨rfl, rfl⟩ aw_435 aw_437 aw_7 aw_438 aw_60 (by decide +kernel) (by decide) dX3_fixMatters_62 ?_
  refine as_if_eq (pc := 65) X 100 dX3_fixMatters_65 (by decide) (s_X3_fixMatters_100 X) ?_
  refine as_aload_n (pc := 68) X dX3_fixMatters_68 rfl ?_
  refine as_iload_n (pc := 69) X dX3_fixMatters_69 rfl ?_
  refine as_iload_n (pc := 70) X dX3_fixMatters_70 rfl ?_
  refine as_callV (ci := 3) (np := 2) (ix := 153) (pc := 71) X ct_X3_isPassed (Cn := (RX3, TX3, 17)) rfl ⟨rfl, rfl⟩ aw_463 aw_465 aw_12 aw_466 aw_60 (by decide +kernel) (by decide) dX3_fixMatters_71 ?_
  refine as_if_eq (pc := 74) X 100 dX3_fixMatters_74 (by decide) (s_X3_fixMatters_100 X) ?_
  refine as_aload_n (pc := 77) X dX3_fixMatters_77 rfl ?_
  refine as_aload_n (pc := 78) X dX3_fixMatters_78 rfl ?_
  refine as_getR (ci := 3) (j := 6) (pc := 79) X (Cn := RX3) (Tf := TX3) (N := 17) rfl rfl (by decide) iw_X3 aw_169 rfl dX3_fixMatters_79 ?_
  refine as_iload_n (pc := 82) X dX3_fixMatters_82 rfl ?_
  refine as_iald (pc := 83) X dX3_fixMatters_83 ?_
  refine as_iconst (pc := 84) X dX3_fixMatters_84 (by decide) ?_
  refine as_iload_n (pc := 85) X dX3_fixMatters_85 rfl ?_
  refine as_ishl (pc := 86) X dX3_fixMatters_86 ?_
  refine as_ior (pc := 87) X dX3_fixMatters_87 ?_
  refine as_iload_n (pc := 88) X dX3_fixMatters_88 rfl ?_
  refine as_callV (ci := 3) (np := 2) (ix := 88) (pc := 89) X ct_X3_bestOf (Cn := (RX3, TX3, 17)) rfl ⟨rfl, rfl⟩ aw_439 aw_441 aw_8 aw_442 aw_60 (by decide +kernel) (by decide) dX3_fixMatters_89 ?_
  refine as_iload_n (pc := 92) X dX3_fixMatters_92 rfl ?_
  refine as_ic_ne (pc := 93) X 100 dX3_fixMatters_93 (by decide) (s_X3_fixMatters_100 X) ?_
  refine as_iconst (pc := 96) X dX3_fixMatters_96 (by decide) ?_
  exact as_goto (pc := 97) X 101 dX3_fixMatters_97 (by decide) (s_X3_fixMatters_101 X)
theorem s_X3_fixMatters_38 {G : am_G} {bc bs : Nat} (X : am_Cx G cX3_fixMatters RX3 "fixMatters" rm_X3_fixMatters (some .boolean) 4 bc bs true) : am_S G 38 (t_X3_fixMatters_38) := by
  unfold t_X3_fixMatters_38
  exact as_zret (pc := 38) X ⟨rfl, rfl⟩ rfl dX3_fixMatters_38
theorem s_X3_fixMatters_37 {G : am_G} {bc bs : Nat} (X : am_Cx G cX3_fixMatters RX3 "fixMatters" rm_X3_fixMatters (some .boolean) 4 bc bs true) : am_S G 37 (t_X3_fixMatters_37) := by
  unfold t_X3_fixMatters_37
  refine as_iconst (pc := 37) X dX3_fixMatters_37 (by decide) ?_
  exact s_X3_fixMatters_38 X
theorem s_X3_fixMatters_0 {G : am_G} {bc bs : Nat} (X : am_Cx G cX3_fixMatters RX3 "fixMatters" rm_X3_fixMatters (some .boolean) 4 bc bs true) : am_S G 0 (t_X3_fixMatters_0) := by
  unfold t_X3_fixMatters_0
  refine as_aload_n (pc := 0) X dX3_fixMatters_0 rfl ?_
  refine as_getR (ci := 3) (j := 0) (pc := 1) X (Cn := RX3) (Tf := TX3) (N := 17) rfl rfl (by decide) iw_X3 aw_159 rfl dX3_fixMatters_1 ?_
  refine as_getR (ci := 1) (j := 11) (pc := 4) X (Cn := RX1) (Tf := TX1) (N := 14) rfl rfl (by decide) iw_X1 aw_121 rfl dX3_fixMatters_4 ?_
  refine as_iload_n (pc := 7) X dX3_fixMatters_7 rfl ?_
  refine as_iald (pc := 8) X dX3_fixMatters_8 ?_
  refine as_istore_n (pc := 9) X dX3_fixMatters_9 rfl ?_ (by decide)
  refine as_aload_n (pc := 10) X dX3_fixMatters_10 rfl ?_
  refine as_getR (ci := 3) (j := 0) (pc := 11) X (Cn := RX3) (Tf := TX3) (N := 17) rfl rfl (by decide) iw_X3 aw_159 rfl dX3_fixMatters_11 ?_
  refine as_getR (ci := 1) (j := 10) (pc := 14) X (Cn := RX1) (Tf := TX1) (N := 14) rfl rfl (by decide) iw_X1 aw_118 rfl dX3_fixMatters_14 ?_
  refine as_iload_n (pc := 17) X dX3_fixMatters_17 rfl ?_
  refine as_iald (pc := 18) X dX3_fixMatters_18 ?_
  refine as_iconst (pc := 19) X dX3_fixMatters_19 (by decide) ?_
  refine as_ic_eq (pc := 20) X 39 dX3_fixMatters_20 (by decide) (s_X3_fixMatters_39 X) ?_
  refine as_aload_n (pc := 23) X dX3_fixMatters_23 rfl ?_
  refine as_getR (ci := 3) (j := 5) (pc := 24) X (Cn := RX3) (Tf := TX3) (N := 17) rfl rfl (by decide) iw_X3 aw_168 rfl dX3_fixMatters_24 ?_
  refine as_iload_n (pc := 27) X dX3_fixMatters_27 rfl ?_
  refine as_iald (pc := 28) X dX3_fixMatters_28 ?_
  refine as_iload_n (pc := 29) X dX3_fixMatters_29 rfl ?_
  refine as_ic_ne (pc := 30) X 37 dX3_fixMatters_30 (by decide) (s_X3_fixMatters_37 X) ?_
  refine as_iconst (pc := 33) X dX3_fixMatters_33 (by decide) ?_
  exact as_goto (pc := 34) X 38 dX3_fixMatters_34 (by decide) (s_X3_fixMatters_38 X)
theorem s_X3_fixMatters {G : am_G} {bc bs : Nat} (X : am_Cx G cX3_fixMatters RX3 "fixMatters" rm_X3_fixMatters (some .boolean) 4 bc bs true) (h : Nat) : am_S G h (h_X3_fixMatters h) := by
  unfold h_X3_fixMatters
  split
  · next e => rw [e]; exact s_X3_fixMatters_0 X
  exact as_bad
theorem ct_X3_fixMatters : am_Ct yX3_fixMatters cX3_fixMatters 4 (some .boolean) rm_X3_fixMatters sp_X3_fixMatters := am_met (own := RX3) (nm := "fixMatters") (by decide) rfl rfl (Or.inr (Or.inr (Or.inl rfl))) (fun _ _ => h_X3_fixMatters) (fun _ _ _ X => s_X3_fixMatters X) (fun _ _ _ _ h => h)
-- X4_correction
theorem dX4_correction_0 : decode cX4_correction 0 = .ok (.aload_n 0, 1) := by decide +kernel
theorem dX4_correction_1 : decode cX4_correction 1 = .ok (.getfield 20, 3) := by decide +kernel
theorem dX4_correction_4 : decode cX4_correction 4 = .ok (.iload_n 1, 1) := by decide +kernel
theorem dX4_correction_5 : decode cX4_correction 5 = .ok (.invokevirtual 187, 3) := by decide +kernel
theorem dX4_correction_8 : decode cX4_correction 8 = .ok (.ifCond .ne 5, 3) := by decide +kernel
theorem dX4_correction_11 : decode cX4_correction 11 = .ok (.iconst (-1), 1) := by decide +kernel
theorem dX4_correction_12 : decode cX4_correction 12 = .ok (.ireturn, 1) := by decide +kernel
theorem dX4_correction_13 : decode cX4_correction 13 = .ok (.iload_n 2, 1) := by decide +kernel
theorem dX4_correction_14 : decode cX4_correction 14 = .ok (.tableswitch 80 0 3 #[30, 40, 50, 63], 30) := by decide +kernel
theorem dX4_correction_44 : decode cX4_correction 44 = .ok (.aload_n 0, 1) := by decide +kernel
theorem dX4_correction_45 : decode cX4_correction 45 = .ok (.getfield 20, 3) := by decide +kernel
theorem dX4_correction_48 : decode cX4_correction 48 = .ok (.getfield 193, 3) := by decide +kernel
theorem dX4_correction_51 : decode cX4_correction 51 = .ok (.iload_n 1, 1) := by decide +kernel
theorem dX4_correction_52 : decode cX4_correction 52 = .ok (.iaload, 1) := by decide +kernel
theorem dX4_correction_53 : decode cX4_correction 53 = .ok (.ireturn, 1) := by decide +kernel
theorem dX4_correction_54 : decode cX4_correction 54 = .ok (.aload_n 0, 1) := by decide +kernel
theorem dX4_correction_55 : decode cX4_correction 55 = .ok (.getfield 20, 3) := by decide +kernel
theorem dX4_correction_58 : decode cX4_correction 58 = .ok (.getfield 196, 3) := by decide +kernel
theorem dX4_correction_61 : decode cX4_correction 61 = .ok (.iload_n 1, 1) := by decide +kernel
theorem dX4_correction_62 : decode cX4_correction 62 = .ok (.iaload, 1) := by decide +kernel
theorem dX4_correction_63 : decode cX4_correction 63 = .ok (.ireturn, 1) := by decide +kernel
theorem dX4_correction_64 : decode cX4_correction 64 = .ok (.aload_n 0, 1) := by decide +kernel
theorem dX4_correction_65 : decode cX4_correction 65 = .ok (.getfield 20, 3) := by decide +kernel
theorem dX4_correction_68 : decode cX4_correction 68 = .ok (.getfield 199, 3) := by decide +kernel
theorem dX4_correction_71 : decode cX4_correction 71 = .ok (.iload_n 1, 1) := by decide +kernel
theorem dX4_correction_72 : decode cX4_correction 72 = .ok (.iaload, 1) := by decide +kernel
theorem dX4_correction_73 : decode cX4_correction 73 = .ok (.invokestatic 79, 3) := by decide +kernel
theorem dX4_correction_76 : decode cX4_correction 76 = .ok (.ireturn, 1) := by decide +kernel
theorem dX4_correction_77 : decode cX4_correction 77 = .ok (.aload_n 0, 1) := by decide +kernel
theorem dX4_correction_78 : decode cX4_correction 78 = .ok (.invokevirtual 116, 3) := by decide +kernel
theorem dX4_correction_81 : decode cX4_correction 81 = .ok (.iload_n 1, 1) := by decide +kernel
theorem dX4_correction_82 : decode cX4_correction 82 = .ok (.invokevirtual 202, 3) := by decide +kernel
theorem dX4_correction_85 : decode cX4_correction 85 = .ok (.ifCond .eq 7, 3) := by decide +kernel
theorem dX4_correction_88 : decode cX4_correction 88 = .ok (.iconst 1, 1) := by decide +kernel
theorem dX4_correction_89 : decode cX4_correction 89 = .ok (.goto 4, 3) := by decide +kernel
theorem dX4_correction_92 : decode cX4_correction 92 = .ok (.iconst 0, 1) := by decide +kernel
theorem dX4_correction_93 : decode cX4_correction 93 = .ok (.ireturn, 1) := by decide +kernel
theorem dX4_correction_94 : decode cX4_correction 94 = .ok (.iconst (-1), 1) := by decide +kernel
theorem dX4_correction_95 : decode cX4_correction 95 = .ok (.ireturn, 1) := by decide +kernel
def t_X4_correction_94 : am_T := tb_const (-1) <|
  tb_iret
def t_X4_correction_93 : am_T := tb_iret
def t_X4_correction_92 : am_T := tb_const 0 <|
  t_X4_correction_93
def t_X4_correction_77 : am_T := tb_aload 0 <|
  tb_callV 4 sp_X4_currentThreads 1 <|
  tb_iload 1 <|
  tb_callV 3 sp_X3_fixMatters 2 <|
  tb_if (fun x => x = 0) (t_X4_correction_92) <|
  tb_const 1 <|
  t_X4_correction_93
def t_X4_correction_64 : am_T := tb_aload 0 <|
  tb_getR 4 1 <|
  tb_getR 1 12 <|
  tb_iload 1 <|
  tb_iald <|
  tb_callS sp_X4_orNotFound 1 <|
  tb_iret
def t_X4_correction_54 : am_T := tb_aload 0 <|
  tb_getR 4 1 <|
  tb_getR 1 11 <|
  tb_iload 1 <|
  tb_iald <|
  tb_iret
def t_X4_correction_44 : am_T := tb_aload 0 <|
  tb_getR 4 1 <|
  tb_getR 1 10 <|
  tb_iload 1 <|
  tb_iald <|
  tb_iret
def w_X4_correction_14 : Nat → am_T := fun j => match j with
    | 0 => t_X4_correction_44
    | 1 => t_X4_correction_54
    | 2 => t_X4_correction_64
    | 3 => t_X4_correction_77
    | _ => tb_bad
def v_X4_correction_14 : Nat → Nat := fun j => match j with
    | 0 => 44
    | 1 => 54
    | 2 => 64
    | 3 => 77
    | _ => 0
def t_X4_correction_13 : am_T := tb_iload 2 <|
  tb_sw 0 3 w_X4_correction_14 (t_X4_correction_94)
def t_X4_correction_0 : am_T := tb_aload 0 <|
  tb_getR 4 1 <|
  tb_iload 1 <|
  tb_callV 1 sp_X1_isFix 2 <|
  tb_if (fun x => x ≠ 0) (t_X4_correction_13) <|
  tb_const (-1) <|
  tb_iret
def h_X4_correction : am_Hd := fun h => if h = 0 then t_X4_correction_0 else tb_bad
theorem h_X4_correction_0 : h_X4_correction 0 = t_X4_correction_0 := rfl
def rm_X4_correction : Room := { frames := 6, cells := 0, slots := 0, locals := 133 }
def sp_X4_correction : am_sp := fun as M Q => as.length ≤ 3 ∧ am_OK h_X4_correction Q 0 (am_in 3 as) M
theorem s_X4_correction_94 {G : am_G} {bc bs : Nat} (X : am_Cx G cX4_correction RX4 "correction" rm_X4_correction (some .int) 3 bc bs true) : am_S G 94 (t_X4_correction_94) := by
  unfold t_X4_correction_94
  refine as_iconst (pc := 94) X dX4_correction_94 (by decide) ?_
  exact as_iret (pc := 95) X ⟨rfl, rfl⟩ rfl dX4_correction_95
theorem s_X4_correction_93 {G : am_G} {bc bs : Nat} (X : am_Cx G cX4_correction RX4 "correction" rm_X4_correction (some .int) 3 bc bs true) : am_S G 93 (t_X4_correction_93) := by
  unfold t_X4_correction_93
  exact as_iret (pc := 93) X ⟨rfl, rfl⟩ rfl dX4_correction_93
theorem s_X4_correction_92 {G : am_G} {bc bs : Nat} (X : am_Cx G cX4_correction RX4 "correction" rm_X4_correction (some .int) 3 bc bs true) : am_S G 92 (t_X4_correction_92) := by
  unfold t_X4_correction_92
  refine as_iconst (pc := 92) X dX4_correction_92 (by decide) ?_
  exact s_X4_correction_93 X
theorem s_X4_correction_77 {G : am_G} {bc bs : Nat} (X : am_Cx G cX4_correction RX4 "correction" rm_X4_correction (some .int) 3 bc bs true) : am_S G 77 (t_X4_correction_77) := by
  unfold t_X4_correction_77
  refine as_aload_n (pc := 77) X dX4_correction_77 rfl ?_
  refine as_callV (ci := 4) (np := 0) (ix := 116) (pc := 78) X ct_X4_currentThreads (Cn := (RX4, TX4, 7)) rfl ⟨rfl, rfl⟩ aw_389 aw_391 aw_2 aw_392 aw_59 (by decide +kernel) (by decide) dX4_correction_78 ?_
  refine as_iload_n (pc := 81) X dX4_correction_81 rfl ?_
  refine as_callV (ci := 3) (np := 1) (ix := 202) (pc := 82) X ct_X3_fixMatters (Cn := (RX3, TX3, 17)) rfl ⟨rfl, rfl⟩ aw_579 aw_580 aw_581 aw_582 aw_60 (by decide +kernel) (by decide) dX4_correction_82 ?_
  refine as_if_eq (pc := 85) X 92 dX4_correction_85 (by decide) (s_X4_correction_92 X) ?_
  refine as_iconst (pc := 88) X dX4_correction_88 (by decide) ?_
  exact as_goto (pc := 89) X 93 dX4_correction_89 (by decide) (s_X4_correction_93 X)
theorem s_X4_correction_64 {G : am_G} {bc bs : Nat} (X : am_Cx G cX4_correction RX4 "correction" rm_X4_correction (some .int) 3 bc bs true) : am_S G 64 (t_X4_correction_64) := by
  unfold t_X4_correction_64
  refine as_aload_n (pc := 64) X dX4_correction_64 rfl ?_
  refine as_getR (ci := 4) (j := 1) (pc := 65) X (Cn := RX4) (Tf := TX4) (N := 7) rfl rfl (by decide) iw_X4 aw_275 rfl dX4_correction_65 ?_
  refine as_getR (ci := 1) (j := 12) (pc := 68) X (Cn := RX1) (Tf := TX1) (N := 14) rfl rfl (by decide) iw_X1 aw_125 rfl dX4_correction_68 ?_
  refine as_iload_n (pc := 71) X dX4_correction_71 rfl ?_
  refine as_iald (pc := 72) X dX4_correction_72 ?_
  refine as_callS (np := 1) (ix := 79) (pc := 73) X ct_X4_orNotFound ⟨rfl, rfl⟩ aw_347 aw_348 aw_349 aw_59 (by decide +kernel) (by decide) dX4_correction_73 ?_
  exact as_iret (pc := 76) X ⟨rfl, rfl⟩ rfl dX4_correction_76
theorem s_X4_correction_54 {G : am_G} {bc bs : Nat} (X : am_Cx G cX4_correction RX4 "correction" rm_X4_correction (some .int) 3 bc bs true) : am_S G 54 (t_X4_correction_54) := by
  unfold t_X4_correction_54
  refine as_aload_n (pc := 54) X dX4_correction_54 rfl ?_
  refine as_getR (ci := 4) (j := 1) (pc := 55) X (Cn := RX4) (Tf := TX4) (N := 7) rfl rfl (by decide) iw_X4 aw_275 rfl dX4_correction_55 ?_
  refine as_getR (ci := 1) (j := 11) (pc := 58) X (Cn := RX1) (Tf := TX1) (N := 14) rfl rfl (by decide) iw_X1 aw_122 rfl dX4_correction_58 ?_
  refine as_iload_n (pc := 61) X dX4_correction_61 rfl ?_
  refine as_iald (pc := 62) X dX4_correction_62 ?_
  exact as_iret (pc := 63) X ⟨rfl, rfl⟩ rfl dX4_correction_63
theorem s_X4_correction_44 {G : am_G} {bc bs : Nat} (X : am_Cx G cX4_correction RX4 "correction" rm_X4_correction (some .int) 3 bc bs true) : am_S G 44 (t_X4_correction_44) := by
  unfold t_X4_correction_44
  refine as_aload_n (pc := 44) X dX4_correction_44 rfl ?_
  refine as_getR (ci := 4) (j := 1) (pc := 45) X (Cn := RX4) (Tf := TX4) (N := 7) rfl rfl (by decide) iw_X4 aw_275 rfl dX4_correction_45 ?_
  refine as_getR (ci := 1) (j := 10) (pc := 48) X (Cn := RX1) (Tf := TX1) (N := 14) rfl rfl (by decide) iw_X1 aw_119 rfl dX4_correction_48 ?_
  refine as_iload_n (pc := 51) X dX4_correction_51 rfl ?_
  refine as_iald (pc := 52) X dX4_correction_52 ?_
  exact as_iret (pc := 53) X ⟨rfl, rfl⟩ rfl dX4_correction_53
theorem s_X4_correction_13 {G : am_G} {bc bs : Nat} (X : am_Cx G cX4_correction RX4 "correction" rm_X4_correction (some .int) 3 bc bs true) : am_S G 13 (t_X4_correction_13) := by
  unfold t_X4_correction_13
  refine as_iload_n (pc := 13) X dX4_correction_13 rfl ?_
  refine as_sw (pc := 14) X dX4_correction_14 v_X4_correction_14 94 (by decide) (fun j hj => ?_) (s_X4_correction_94 X)
  match j, hj with
  | 0, _ => exact ⟨30, rfl, by decide, s_X4_correction_44 X⟩
  | 1, _ => exact ⟨40, rfl, by decide, s_X4_correction_54 X⟩
  | 2, _ => exact ⟨50, rfl, by decide, s_X4_correction_64 X⟩
  | 3, _ => exact ⟨63, rfl, by decide, s_X4_correction_77 X⟩
  | j + 4, hj => exact absurd hj (by omega)
theorem s_X4_correction_0 {G : am_G} {bc bs : Nat} (X : am_Cx G cX4_correction RX4 "correction" rm_X4_correction (some .int) 3 bc bs true) : am_S G 0 (t_X4_correction_0) := by
  unfold t_X4_correction_0
  refine as_aload_n (pc := 0) X dX4_correction_0 rfl ?_
  refine as_getR (ci := 4) (j := 1) (pc := 1) X (Cn := RX4) (Tf := TX4) (N := 7) rfl rfl (by decide) iw_X4 aw_275 rfl dX4_correction_1 ?_
  refine as_iload_n (pc := 4) X dX4_correction_4 rfl ?_
  refine as_callV (ci := 1) (np := 1) (ix := 187) (pc := 5) X ct_X1_isFix (Cn := (RX1, TX1, 14)) rfl ⟨rfl, rfl⟩ aw_570 aw_571 aw_572 aw_573 aw_61 (by decide +kernel) (by decide) dX4_correction_5 ?_
  refine as_if_ne (pc := 8) X 13 dX4_correction_8 (by decide) (s_X4_correction_13 X) ?_
  refine as_iconst (pc := 11) X dX4_correction_11 (by decide) ?_
  exact as_iret (pc := 12) X ⟨rfl, rfl⟩ rfl dX4_correction_12
theorem s_X4_correction {G : am_G} {bc bs : Nat} (X : am_Cx G cX4_correction RX4 "correction" rm_X4_correction (some .int) 3 bc bs true) (h : Nat) : am_S G h (h_X4_correction h) := by
  unfold h_X4_correction
  split
  · next e => rw [e]; exact s_X4_correction_0 X
  exact as_bad
theorem ct_X4_correction : am_Ct yX4_correction cX4_correction 3 (some .int) rm_X4_correction sp_X4_correction := am_met (own := RX4) (nm := "correction") (by decide) rfl rfl (Or.inr (Or.inl rfl)) (fun _ _ => h_X4_correction) (fun _ _ _ X => s_X4_correction X) (fun _ _ _ _ h => h)
-- X5_doesCount
theorem dX5_doesCount_0 : decode cX5_doesCount 0 = .ok (.aload_n 0, 1) := by decide +kernel
theorem dX5_doesCount_1 : decode cX5_doesCount 1 = .ok (.getfield 7, 3) := by decide +kernel
theorem dX5_doesCount_4 : decode cX5_doesCount 4 = .ok (.iload_n 1, 1) := by decide +kernel
theorem dX5_doesCount_5 : decode cX5_doesCount 5 = .ok (.iconst 1, 1) := by decide +kernel
theorem dX5_doesCount_6 : decode cX5_doesCount 6 = .ok (.invokestatic 89, 3) := by decide +kernel
theorem dX5_doesCount_9 : decode cX5_doesCount 9 = .ok (.istore_n 2, 1) := by decide +kernel
theorem dX5_doesCount_10 : decode cX5_doesCount 10 = .ok (.aload_n 0, 1) := by decide +kernel
theorem dX5_doesCount_11 : decode cX5_doesCount 11 = .ok (.getfield 7, 3) := by decide +kernel
theorem dX5_doesCount_14 : decode cX5_doesCount 14 = .ok (.iload_n 1, 1) := by decide +kernel
theorem dX5_doesCount_15 : decode cX5_doesCount 15 = .ok (.iconst 0, 1) := by decide +kernel
theorem dX5_doesCount_16 : decode cX5_doesCount 16 = .ok (.invokestatic 89, 3) := by decide +kernel
theorem dX5_doesCount_19 : decode cX5_doesCount 19 = .ok (.iconst 2, 1) := by decide +kernel
theorem dX5_doesCount_20 : decode cX5_doesCount 20 = .ok (.if_icmp .eq 21, 3) := by decide +kernel
theorem dX5_doesCount_23 : decode cX5_doesCount 23 = .ok (.aload_n 0, 1) := by decide +kernel
theorem dX5_doesCount_24 : decode cX5_doesCount 24 = .ok (.getfield 7, 3) := by decide +kernel
theorem dX5_doesCount_27 : decode cX5_doesCount 27 = .ok (.iload_n 2, 1) := by decide +kernel
theorem dX5_doesCount_28 : decode cX5_doesCount 28 = .ok (.invokestatic 96, 3) := by decide +kernel
theorem dX5_doesCount_31 : decode cX5_doesCount 31 = .ok (.iload_n 1, 1) := by decide +kernel
theorem dX5_doesCount_32 : decode cX5_doesCount 32 = .ok (.if_icmp .ne 7, 3) := by decide +kernel
theorem dX5_doesCount_35 : decode cX5_doesCount 35 = .ok (.iconst 1, 1) := by decide +kernel
theorem dX5_doesCount_36 : decode cX5_doesCount 36 = .ok (.goto 4, 3) := by decide +kernel
theorem dX5_doesCount_39 : decode cX5_doesCount 39 = .ok (.iconst 0, 1) := by decide +kernel
theorem dX5_doesCount_40 : decode cX5_doesCount 40 = .ok (.ireturn, 1) := by decide +kernel
theorem dX5_doesCount_41 : decode cX5_doesCount 41 = .ok (.aload_n 0, 1) := by decide +kernel
theorem dX5_doesCount_42 : decode cX5_doesCount 42 = .ok (.aload_n 0, 1) := by decide +kernel
theorem dX5_doesCount_43 : decode cX5_doesCount 43 = .ok (.getfield 7, 3) := by decide +kernel
theorem dX5_doesCount_46 : decode cX5_doesCount 46 = .ok (.invokevirtual 120, 3) := by decide +kernel
theorem dX5_doesCount_49 : decode cX5_doesCount 49 = .ok (.aload_n 0, 1) := by decide +kernel
theorem dX5_doesCount_50 : decode cX5_doesCount 50 = .ok (.getfield 7, 3) := by decide +kernel
theorem dX5_doesCount_53 : decode cX5_doesCount 53 = .ok (.iload_n 2, 1) := by decide +kernel
theorem dX5_doesCount_54 : decode cX5_doesCount 54 = .ok (.invokestatic 96, 3) := by decide +kernel
theorem dX5_doesCount_57 : decode cX5_doesCount 57 = .ok (.bipush (-4), 2) := by decide +kernel
theorem dX5_doesCount_59 : decode cX5_doesCount 59 = .ok (.if_icmp .ne 29, 3) := by decide +kernel
theorem dX5_doesCount_62 : decode cX5_doesCount 62 = .ok (.aload_n 0, 1) := by decide +kernel
theorem dX5_doesCount_63 : decode cX5_doesCount 63 = .ok (.aload_n 0, 1) := by decide +kernel
theorem dX5_doesCount_64 : decode cX5_doesCount 64 = .ok (.getfield 7, 3) := by decide +kernel
theorem dX5_doesCount_67 : decode cX5_doesCount 67 = .ok (.iload_n 2, 1) := by decide +kernel
theorem dX5_doesCount_68 : decode cX5_doesCount 68 = .ok (.iload_n 1, 1) := by decide +kernel
theorem dX5_doesCount_69 : decode cX5_doesCount 69 = .ok (.invokevirtual 110, 3) := by decide +kernel
theorem dX5_doesCount_72 : decode cX5_doesCount 72 = .ok (.aload_n 0, 1) := by decide +kernel
theorem dX5_doesCount_73 : decode cX5_doesCount 73 = .ok (.getfield 7, 3) := by decide +kernel
theorem dX5_doesCount_76 : decode cX5_doesCount 76 = .ok (.iload_n 1, 1) := by decide +kernel
theorem dX5_doesCount_77 : decode cX5_doesCount 77 = .ok (.iconst 2, 1) := by decide +kernel
theorem dX5_doesCount_78 : decode cX5_doesCount 78 = .ok (.invokestatic 89, 3) := by decide +kernel
theorem dX5_doesCount_81 : decode cX5_doesCount 81 = .ok (.if_icmp .ne 7, 3) := by decide +kernel
theorem dX5_doesCount_84 : decode cX5_doesCount 84 = .ok (.iconst 1, 1) := by decide +kernel
theorem dX5_doesCount_85 : decode cX5_doesCount 85 = .ok (.goto 4, 3) := by decide +kernel
theorem dX5_doesCount_88 : decode cX5_doesCount 88 = .ok (.iconst 0, 1) := by decide +kernel
theorem dX5_doesCount_89 : decode cX5_doesCount 89 = .ok (.ireturn, 1) := by decide +kernel
def t_X5_doesCount_89 : am_T := tb_iret
def t_X5_doesCount_88 : am_T := tb_const 0 <|
  t_X5_doesCount_89
def t_X5_doesCount_41 : am_T := tb_aload 0 <|
  tb_aload 0 <|
  tb_getR 5 0 <|
  tb_callV 5 sp_X5_laysScores 2 <|
  tb_aload 0 <|
  tb_getR 5 0 <|
  tb_iload 2 <|
  tb_callS sp_X5_counting 2 <|
  tb_const (-4) <|
  tb_ic (fun x y => x ≠ y) (t_X5_doesCount_88) <|
  tb_aload 0 <|
  tb_aload 0 <|
  tb_getR 5 0 <|
  tb_iload 2 <|
  tb_iload 1 <|
  tb_callV 5 sp_X5_answerOf 4 <|
  tb_aload 0 <|
  tb_getR 5 0 <|
  tb_iload 1 <|
  tb_const 2 <|
  tb_callS sp_X5_told 3 <|
  tb_ic (fun x y => x ≠ y) (t_X5_doesCount_88) <|
  tb_const 1 <|
  t_X5_doesCount_89
def t_X5_doesCount_40 : am_T := tb_iret
def t_X5_doesCount_39 : am_T := tb_const 0 <|
  t_X5_doesCount_40
def t_X5_doesCount_0 : am_T := tb_aload 0 <|
  tb_getR 5 0 <|
  tb_iload 1 <|
  tb_const 1 <|
  tb_callS sp_X5_told 3 <|
  tb_istore 2 <|
  tb_aload 0 <|
  tb_getR 5 0 <|
  tb_iload 1 <|
  tb_const 0 <|
  tb_callS sp_X5_told 3 <|
  tb_const 2 <|
  tb_ic (fun x y => x = y) (t_X5_doesCount_41) <|
  tb_aload 0 <|
  tb_getR 5 0 <|
  tb_iload 2 <|
  tb_callS sp_X5_counting 2 <|
  tb_iload 1 <|
  tb_ic (fun x y => x ≠ y) (t_X5_doesCount_39) <|
  tb_const 1 <|
  t_X5_doesCount_40
def h_X5_doesCount : am_Hd := fun h => if h = 0 then t_X5_doesCount_0 else tb_bad
theorem h_X5_doesCount_0 : h_X5_doesCount 0 = t_X5_doesCount_0 := rfl
def rm_X5_doesCount : Room := { frames := 4, cells := 0, slots := 0, locals := 101 }
def sp_X5_doesCount : am_sp := fun as M Q => as.length ≤ 3 ∧ am_OK h_X5_doesCount Q 0 (am_in 3 as) M
theorem s_X5_doesCount_89 {G : am_G} {bc bs : Nat} (X : am_Cx G cX5_doesCount RX5 "doesCount" rm_X5_doesCount (some .int) 3 bc bs true) : am_S G 89 (t_X5_doesCount_89) := by
  unfold t_X5_doesCount_89
  exact as_iret (pc := 89) X ⟨rfl, rfl⟩ rfl dX5_doesCount_89
theorem s_X5_doesCount_88 {G : am_G} {bc bs : Nat} (X : am_Cx G cX5_doesCount RX5 "doesCount" rm_X5_doesCount (some .int) 3 bc bs true) : am_S G 88 (t_X5_doesCount_88) := by
  unfold t_X5_doesCount_88
  refine as_iconst (pc := 88) X dX5_doesCount_88 (by decide) ?_
  exact s_X5_doesCount_89 X
theorem s_X5_doesCount_41 {G : am_G} {bc bs : Nat} (X : am_Cx G cX5_doesCount RX5 "doesCount" rm_X5_doesCount (some .int) 3 bc bs true) : am_S G 41 (t_X5_doesCount_41) := by
  unfold t_X5_doesCount_41
  refine as_aload_n (pc := 41) X dX5_doesCount_41 rfl ?_
  refine as_aload_n (pc := 42) X dX5_doesCount_42 rfl ?_
  refine as_getR (ci := 5) (j := 0) (pc := 43) X (Cn := RX5) (Tf := TX5) (N := 21) rfl rfl (by decide) iw_X5 aw_738 rfl dX5_doesCount_43 ?_
  refine as_callV (ci := 5) (np := 1) (ix := 120) (pc := 46) X ct_X5_laysScores (Cn := (RX5, TX5, 21)) rfl ⟨rfl, rfl⟩ aw_865 aw_867 aw_30 aw_868 aw_65 (by decide +kernel) (by decide) dX5_doesCount_46 ?_
  refine as_aload_n (pc := 49) X dX5_doesCount_49 rfl ?_
  refine as_getR (ci := 5) (j := 0) (pc := 50) X (Cn := RX5) (Tf := TX5) (N := 21) rfl rfl (by decide) iw_X5 aw_738 rfl dX5_doesCount_50 ?_
  refine as_iload_n (pc := 53) X dX5_doesCount_53 rfl ?_
  refine as_callS (np := 2) (ix := 96) (pc := 54) X ct_X5_counting ⟨rfl, rfl⟩ aw_894 aw_895 aw_896 aw_65 (by decide +kernel) (by decide) dX5_doesCount_54 ?_
  refine as_bipush (pc := 57) X dX5_doesCount_57 (by decide) ?_
  refine as_ic_ne (pc := 59) X 88 dX5_doesCount_59 (by decide) (s_X5_doesCount_88 X) ?_
  refine as_aload_n (pc := 62) X dX5_doesCount_62 rfl ?_
  refine as_aload_n (pc := 63) X dX5_doesCount_63 rfl ?_
  refine as_getR (ci := 5) (j := 0) (pc := 64) X (Cn := RX5) (Tf := TX5) (N := 21) rfl rfl (by decide) iw_X5 aw_738 rfl dX5_doesCount_64 ?_
  refine as_iload_n (pc := 67) X dX5_doesCount_67 rfl ?_
  refine as_iload_n (pc := 68) X dX5_doesCount_68 rfl ?_
  refine as_callV (ci := 5) (np := 3) (ix := 110) (pc := 69) X ct_X5_answerOf (Cn := (RX5, TX5, 21)) rfl ⟨rfl, rfl⟩ aw_890 aw_892 aw_34 aw_893 aw_65 (by decide +kernel) (by decide) dX5_doesCount_69 ?_
  refine as_aload_n (pc := 72) X dX5_doesCount_72 rfl ?_
  refine as_getR (ci := 5) (j := 0) (pc := 73) X (Cn := RX5) (Tf := TX5) (N := 21) rfl rfl (by decide) iw_X5 aw_738 rfl dX5_doesCount_73 ?_
  refine as_iload_n (pc := 76) X dX5_doesCount_76 rfl ?_
  refine as_iconst (pc := 77) X dX5_doesCount_77 (by decide) ?_
  refine as_callS (np := 3) (ix := 89) (pc := 78) X ct_X5_told ⟨rfl, rfl⟩ aw_851 aw_852 aw_853 aw_65 (by decide +kernel) (by decide) dX5_doesCount_78 ?_
  refine as_ic_ne (pc := 81) X 88 dX5_doesCount_81 (by decide) (s_X5_doesCount_88 X) ?_
  refine as_iconst (pc := 84) X dX5_doesCount_84 (by decide) ?_
  exact as_goto (pc := 85) X 89 dX5_doesCount_85 (by decide) (s_X5_doesCount_89 X)
theorem s_X5_doesCount_40 {G : am_G} {bc bs : Nat} (X : am_Cx G cX5_doesCount RX5 "doesCount" rm_X5_doesCount (some .int) 3 bc bs true) : am_S G 40 (t_X5_doesCount_40) := by
  unfold t_X5_doesCount_40
  exact as_iret (pc := 40) X ⟨rfl, rfl⟩ rfl dX5_doesCount_40
theorem s_X5_doesCount_39 {G : am_G} {bc bs : Nat} (X : am_Cx G cX5_doesCount RX5 "doesCount" rm_X5_doesCount (some .int) 3 bc bs true) : am_S G 39 (t_X5_doesCount_39) := by
  unfold t_X5_doesCount_39
  refine as_iconst (pc := 39) X dX5_doesCount_39 (by decide) ?_
  exact s_X5_doesCount_40 X
theorem s_X5_doesCount_0 {G : am_G} {bc bs : Nat} (X : am_Cx G cX5_doesCount RX5 "doesCount" rm_X5_doesCount (some .int) 3 bc bs true) : am_S G 0 (t_X5_doesCount_0) := by
  unfold t_X5_doesCount_0
  refine as_aload_n (pc := 0) X dX5_doesCount_0 rfl ?_
  refine as_getR (ci := 5) (j := 0) (pc := 1) X (Cn := RX5) (Tf := TX5) (N := 21) rfl rfl (by decide) iw_X5 aw_738 rfl dX5_doesCount_1 ?_
  refine as_iload_n (pc := 4) X dX5_doesCount_4 rfl ?_
  refine as_iconst (pc := 5) X dX5_doesCount_5 (by decide) ?_
  refine as_callS (np := 3) (ix := 89) (pc := 6) X ct_X5_told ⟨rfl, rfl⟩ aw_851 aw_852 aw_853 aw_65 (by decide +kernel) (by decide) dX5_doesCount_6 ?_
  refine as_istore_n (pc := 9) X dX5_doesCount_9 rfl ?_ (by decide)
  refine as_aload_n (pc := 10) X dX5_doesCount_10 rfl ?_
  refine as_getR (ci := 5) (j := 0) (pc := 11) X (Cn := RX5) (Tf := TX5) (N := 21) rfl rfl (by decide) iw_X5 aw_738 rfl dX5_doesCount_11 ?_
  refine as_iload_n (pc := 14) X dX5_doesCount_14 rfl ?_
  refine as_iconst (pc := 15) X dX5_doesCount_15 (by decide) ?_
  refine as_callS (np := 3) (ix := 89) (pc := 16) X ct_X5_told ⟨rfl, rfl⟩ aw_851 aw_852 aw_853 aw_65 (by decide +kernel) (by decide) dX5_doesCount_16 ?_
  refine as_iconst (pc := 19) X dX5_doesCount_19 (by decide) ?_
  refine as_ic_eq (pc := 20) X 41 dX5_doesCount_20 (by decide) (s_X5_doesCount_41 X) ?_
  refine as_aload_n (pc := 23) X dX5_doesCount_23 rfl ?_
  refine as_getR (ci := 5) (j := 0) (pc := 24) X (Cn := RX5) (Tf := TX5) (N := 21) rfl rfl (by decide) iw_X5 aw_738 rfl dX5_doesCount_24 ?_
  refine as_iload_n (pc := 27) X dX5_doesCount_27 rfl ?_
  refine as_callS (np := 2) (ix := 96) (pc := 28) X ct_X5_counting ⟨rfl, rfl⟩ aw_894 aw_895 aw_896 aw_65 (by decide +kernel) (by decide) dX5_doesCount_28 ?_
  refine as_iload_n (pc := 31) X dX5_doesCount_31 rfl ?_
  refine as_ic_ne (pc := 32) X 39 dX5_doesCount_32 (by decide) (s_X5_doesCount_39 X) ?_
  refine as_iconst (pc := 35) X dX5_doesCount_35 (by decide) ?_
  exact as_goto (pc := 36) X 40 dX5_doesCount_36 (by decide) (s_X5_doesCount_40 X)
theorem s_X5_doesCount {G : am_G} {bc bs : Nat} (X : am_Cx G cX5_doesCount RX5 "doesCount" rm_X5_doesCount (some .int) 3 bc bs true) (h : Nat) : am_S G h (h_X5_doesCount h) := by
  unfold h_X5_doesCount
  split
  · next e => rw [e]; exact s_X5_doesCount_0 X
  exact as_bad
theorem ct_X5_doesCount : am_Ct yX5_doesCount cX5_doesCount 3 (some .int) rm_X5_doesCount sp_X5_doesCount := am_met (own := RX5) (nm := "doesCount") (by decide) rfl rfl (Or.inr (Or.inl rfl)) (fun _ _ => h_X5_doesCount) (fun _ _ _ X => s_X5_doesCount X) (fun _ _ _ _ h => h)
-- X5_correction
theorem dX5_correction_0 : decode cX5_correction 0 = .ok (.iload_n 1, 1) := by decide +kernel
theorem dX5_correction_1 : decode cX5_correction 1 = .ok (.iconst 0, 1) := by decide +kernel
theorem dX5_correction_2 : decode cX5_correction 2 = .ok (.aload_n 0, 1) := by decide +kernel
theorem dX5_correction_3 : decode cX5_correction 3 = .ok (.getfield 7, 3) := by decide +kernel
theorem dX5_correction_6 : decode cX5_correction 6 = .ok (.bipush 10, 2) := by decide +kernel
theorem dX5_correction_8 : decode cX5_correction 8 = .ok (.iaload, 1) := by decide +kernel
theorem dX5_correction_9 : decode cX5_correction 9 = .ok (.iconst 1, 1) := by decide +kernel
theorem dX5_correction_10 : decode cX5_correction 10 = .ok (.isub, 1) := by decide +kernel
theorem dX5_correction_11 : decode cX5_correction 11 = .ok (.invokestatic 60, 3) := by decide +kernel
theorem dX5_correction_14 : decode cX5_correction 14 = .ok (.ifCond .eq 12, 3) := by decide +kernel
theorem dX5_correction_17 : decode cX5_correction 17 = .ok (.iload_n 2, 1) := by decide +kernel
theorem dX5_correction_18 : decode cX5_correction 18 = .ok (.iconst 0, 1) := by decide +kernel
theorem dX5_correction_19 : decode cX5_correction 19 = .ok (.iconst 3, 1) := by decide +kernel
theorem dX5_correction_20 : decode cX5_correction 20 = .ok (.invokestatic 60, 3) := by decide +kernel
theorem dX5_correction_23 : decode cX5_correction 23 = .ok (.ifCond .ne 5, 3) := by decide +kernel
theorem dX5_correction_26 : decode cX5_correction 26 = .ok (.iconst (-1), 1) := by decide +kernel
theorem dX5_correction_27 : decode cX5_correction 27 = .ok (.ireturn, 1) := by decide +kernel
theorem dX5_correction_28 : decode cX5_correction 28 = .ok (.iload_n 2, 1) := by decide +kernel
theorem dX5_correction_29 : decode cX5_correction 29 = .ok (.iconst 3, 1) := by decide +kernel
theorem dX5_correction_30 : decode cX5_correction 30 = .ok (.if_icmp .ne 11, 3) := by decide +kernel
theorem dX5_correction_33 : decode cX5_correction 33 = .ok (.aload_n 0, 1) := by decide +kernel
theorem dX5_correction_34 : decode cX5_correction 34 = .ok (.iload_n 1, 1) := by decide +kernel
theorem dX5_correction_35 : decode cX5_correction 35 = .ok (.invokevirtual 178, 3) := by decide +kernel
theorem dX5_correction_38 : decode cX5_correction 38 = .ok (.goto 12, 3) := by decide +kernel
theorem dX5_correction_41 : decode cX5_correction 41 = .ok (.aload_n 0, 1) := by decide +kernel
theorem dX5_correction_42 : decode cX5_correction 42 = .ok (.getfield 7, 3) := by decide +kernel
theorem dX5_correction_45 : decode cX5_correction 45 = .ok (.iload_n 1, 1) := by decide +kernel
theorem dX5_correction_46 : decode cX5_correction 46 = .ok (.iload_n 2, 1) := by decide +kernel
theorem dX5_correction_47 : decode cX5_correction 47 = .ok (.invokestatic 89, 3) := by decide +kernel
theorem dX5_correction_50 : decode cX5_correction 50 = .ok (.ireturn, 1) := by decide +kernel
def t_X5_correction_50 : am_T := tb_iret
def t_X5_correction_41 : am_T := tb_aload 0 <|
  tb_getR 5 0 <|
  tb_iload 1 <|
  tb_iload 2 <|
  tb_callS sp_X5_told 3 <|
  t_X5_correction_50
def t_X5_correction_28 : am_T := tb_iload 2 <|
  tb_const 3 <|
  tb_ic (fun x y => x ≠ y) (t_X5_correction_41) <|
  tb_aload 0 <|
  tb_iload 1 <|
  tb_callV 5 sp_X5_doesCount 2 <|
  t_X5_correction_50
def t_X5_correction_26 : am_T := tb_const (-1) <|
  tb_iret
def t_X5_correction_0 : am_T := tb_iload 1 <|
  tb_const 0 <|
  tb_aload 0 <|
  tb_getR 5 0 <|
  tb_const 10 <|
  tb_iald <|
  tb_const 1 <|
  tb_bin (fun x y => x - y) <|
  tb_callS sp_X5_in 3 <|
  tb_if (fun x => x = 0) (t_X5_correction_26) <|
  tb_iload 2 <|
  tb_const 0 <|
  tb_const 3 <|
  tb_callS sp_X5_in 3 <|
  tb_if (fun x => x ≠ 0) (t_X5_correction_28) <|
  t_X5_correction_26
def h_X5_correction : am_Hd := fun h => if h = 0 then t_X5_correction_0 else tb_bad
theorem h_X5_correction_0 : h_X5_correction 0 = t_X5_correction_0 := rfl
def rm_X5_correction : Room := { frames := 5, cells := 0, slots := 0, locals := 123 }
def sp_X5_correction : am_sp := fun as M Q => as.length ≤ 3 ∧ am_OK h_X5_correction Q 0 (am_in 3 as) M
theorem s_X5_correction_50 {G : am_G} {bc bs : Nat} (X : am_Cx G cX5_correction RX5 "correction" rm_X5_correction (some .int) 3 bc bs true) : am_S G 50 (t_X5_correction_50) := by
  unfold t_X5_correction_50
  exact as_iret (pc := 50) X ⟨rfl, rfl⟩ rfl dX5_correction_50
theorem s_X5_correction_41 {G : am_G} {bc bs : Nat} (X : am_Cx G cX5_correction RX5 "correction" rm_X5_correction (some .int) 3 bc bs true) : am_S G 41 (t_X5_correction_41) := by
  unfold t_X5_correction_41
  refine as_aload_n (pc := 41) X dX5_correction_41 rfl ?_
  refine as_getR (ci := 5) (j := 0) (pc := 42) X (Cn := RX5) (Tf := TX5) (N := 21) rfl rfl (by decide) iw_X5 aw_738 rfl dX5_correction_42 ?_
  refine as_iload_n (pc := 45) X dX5_correction_45 rfl ?_
  refine as_iload_n (pc := 46) X dX5_correction_46 rfl ?_
  refine as_callS (np := 3) (ix := 89) (pc := 47) X ct_X5_told ⟨rfl, rfl⟩ aw_851 aw_852 aw_853 aw_65 (by decide +kernel) (by decide) dX5_correction_47 ?_
  exact s_X5_correction_50 X
theorem s_X5_correction_28 {G : am_G} {bc bs : Nat} (X : am_Cx G cX5_correction RX5 "correction" rm_X5_correction (some .int) 3 bc bs true) : am_S G 28 (t_X5_correction_28) := by
  unfold t_X5_correction_28
  refine as_iload_n (pc := 28) X dX5_correction_28 rfl ?_
  refine as_iconst (pc := 29) X dX5_correction_29 (by decide) ?_
  refine as_ic_ne (pc := 30) X 41 dX5_correction_30 (by decide) (s_X5_correction_41 X) ?_
  refine as_aload_n (pc := 33) X dX5_correction_33 rfl ?_
  refine as_iload_n (pc := 34) X dX5_correction_34 rfl ?_
  refine as_callV (ci := 5) (np := 1) (ix := 178) (pc := 35) X ct_X5_doesCount (Cn := (RX5, TX5, 21)) rfl ⟨rfl, rfl⟩ aw_982 aw_984 aw_45 aw_985 aw_65 (by decide +kernel) (by decide) dX5_correction_35 ?_
  exact as_goto (pc := 38) X 50 dX5_correction_38 (by decide) (s_X5_correction_50 X)
theorem s_X5_correction_26 {G : am_G} {bc bs : Nat} (X : am_Cx G cX5_correction RX5 "correction" rm_X5_correction (some .int) 3 bc bs true) : am_S G 26 (t_X5_correction_26) := by
  unfold t_X5_correction_26
  refine as_iconst (pc := 26) X dX5_correction_26 (by decide) ?_
  exact as_iret (pc := 27) X ⟨rfl, rfl⟩ rfl dX5_correction_27
theorem s_X5_correction_0 {G : am_G} {bc bs : Nat} (X : am_Cx G cX5_correction RX5 "correction" rm_X5_correction (some .int) 3 bc bs true) : am_S G 0 (t_X5_correction_0) := by
  unfold t_X5_correction_0
  refine as_iload_n (pc := 0) X dX5_correction_0 rfl ?_
  refine as_iconst (pc := 1) X dX5_correction_1 (by decide) ?_
  refine as_aload_n (pc := 2) X dX5_correction_2 rfl ?_
  refine as_getR (ci := 5) (j := 0) (pc := 3) X (Cn := RX5) (Tf := TX5) (N := 21) rfl rfl (by decide) iw_X5 aw_738 rfl dX5_correction_3 ?_
  refine as_bipush (pc := 6) X dX5_correction_6 (by decide) ?_
  refine as_iald (pc := 8) X dX5_correction_8 ?_
  refine as_iconst (pc := 9) X dX5_correction_9 (by decide) ?_
  refine as_isub (pc := 10) X dX5_correction_10 ?_
  refine as_callS (np := 3) (ix := 60) (pc := 11) X ct_X5_in ⟨rfl, rfl⟩ aw_806 aw_807 aw_808 aw_65 (by decide +kernel) (by decide) dX5_correction_11 ?_
  refine as_if_eq (pc := 14) X 26 dX5_correction_14 (by decide) (s_X5_correction_26 X) ?_
  refine as_iload_n (pc := 17) X dX5_correction_17 rfl ?_
  refine as_iconst (pc := 18) X dX5_correction_18 (by decide) ?_
  refine as_iconst (pc := 19) X dX5_correction_19 (by decide) ?_
  refine as_callS (np := 3) (ix := 60) (pc := 20) X ct_X5_in ⟨rfl, rfl⟩ aw_806 aw_807 aw_808 aw_65 (by decide +kernel) (by decide) dX5_correction_20 ?_
  refine as_if_ne (pc := 23) X 28 dX5_correction_23 (by decide) (s_X5_correction_28 X) ?_
  exact s_X5_correction_26 X
theorem s_X5_correction {G : am_G} {bc bs : Nat} (X : am_Cx G cX5_correction RX5 "correction" rm_X5_correction (some .int) 3 bc bs true) (h : Nat) : am_S G h (h_X5_correction h) := by
  unfold h_X5_correction
  split
  · next e => rw [e]; exact s_X5_correction_0 X
  exact as_bad
theorem ct_X5_correction : am_Ct yX5_correction cX5_correction 3 (some .int) rm_X5_correction sp_X5_correction := am_met (own := RX5) (nm := "correction") (by decide) rfl rfl (Or.inr (Or.inl rfl)) (fun _ _ => h_X5_correction) (fun _ _ _ X => s_X5_correction X) (fun _ _ _ _ h => h)
-- X3_isThread
theorem dX3_isThread_0 : decode cX3_isThread 0 = .ok (.iload_n 1, 1) := by decide +kernel
theorem dX3_isThread_1 : decode cX3_isThread 1 = .ok (.ifCond .lt 15, 3) := by decide +kernel
theorem dX3_isThread_4 : decode cX3_isThread 4 = .ok (.iload_n 1, 1) := by decide +kernel
theorem dX3_isThread_5 : decode cX3_isThread 5 = .ok (.aload_n 0, 1) := by decide +kernel
theorem dX3_isThread_6 : decode cX3_isThread 6 = .ok (.getfield 58, 3) := by decide +kernel
theorem dX3_isThread_9 : decode cX3_isThread 9 = .ok (.if_icmp .ge 7, 3) := by decide +kernel
theorem dX3_isThread_12 : decode cX3_isThread 12 = .ok (.iconst 1, 1) := by decide +kernel
theorem dX3_isThread_13 : decode cX3_isThread 13 = .ok (.goto 4, 3) := by decide +kernel
theorem dX3_isThread_16 : decode cX3_isThread 16 = .ok (.iconst 0, 1) := by decide +kernel
theorem dX3_isThread_17 : decode cX3_isThread 17 = .ok (.ireturn, 1) := by decide +kernel
def t_X3_isThread_17 : am_T := tb_zret
def t_X3_isThread_16 : am_T := tb_const 0 <|
  t_X3_isThread_17
def t_X3_isThread_0 : am_T := tb_iload 1 <|
  tb_if (fun x => x < 0) (t_X3_isThread_16) <|
  tb_iload 1 <|
  tb_aload 0 <|
  tb_getI 3 14 <|
  tb_ic (fun x y => y ≤ x) (t_X3_isThread_16) <|
  tb_const 1 <|
  t_X3_isThread_17
def h_X3_isThread : am_Hd := fun h => if h = 0 then t_X3_isThread_0 else tb_bad
theorem h_X3_isThread_0 : h_X3_isThread 0 = t_X3_isThread_0 := rfl
def rm_X3_isThread : Room := { frames := 0, cells := 0, slots := 0, locals := 0 }
def sp_X3_isThread : am_sp := fun as M Q => as.length ≤ 2 ∧ am_OK h_X3_isThread Q 0 (am_in 2 as) M
theorem s_X3_isThread_17 {G : am_G} {bc bs : Nat} (X : am_Cx G cX3_isThread RX3 "isThread" rm_X3_isThread (some .boolean) 2 bc bs true) : am_S G 17 (t_X3_isThread_17) := by
  unfold t_X3_isThread_17
  exact as_zret (pc := 17) X ⟨rfl, rfl⟩ rfl dX3_isThread_17
theorem s_X3_isThread_16 {G : am_G} {bc bs : Nat} (X : am_Cx G cX3_isThread RX3 "isThread" rm_X3_isThread (some .boolean) 2 bc bs true) : am_S G 16 (t_X3_isThread_16) := by
  unfold t_X3_isThread_16
  refine as_iconst (pc := 16) X dX3_isThread_16 (by decide) ?_
  exact s_X3_isThread_17 X
theorem s_X3_isThread_0 {G : am_G} {bc bs : Nat} (X : am_Cx G cX3_isThread RX3 "isThread" rm_X3_isThread (some .boolean) 2 bc bs true) : am_S G 0 (t_X3_isThread_0) := by
  unfold t_X3_isThread_0
  refine as_iload_n (pc := 0) X dX3_isThread_0 rfl ?_
  refine as_if_lt (pc := 1) X 16 dX3_isThread_1 (by decide) (s_X3_isThread_16 X) ?_
  refine as_iload_n (pc := 4) X dX3_isThread_4 rfl ?_
  refine as_aload_n (pc := 5) X dX3_isThread_5 rfl ?_
  refine as_getI (ci := 3) (j := 14) (pc := 6) X (Cn := RX3) (Tf := TX3) (N := 17) rfl rfl (by decide) iw_X3 aw_180 rfl dX3_isThread_6 ?_
  refine as_ic_ge (pc := 9) X 16 dX3_isThread_9 (by decide) (s_X3_isThread_16 X) ?_
  refine as_iconst (pc := 12) X dX3_isThread_12 (by decide) ?_
  exact as_goto (pc := 13) X 17 dX3_isThread_13 (by decide) (s_X3_isThread_17 X)
theorem s_X3_isThread {G : am_G} {bc bs : Nat} (X : am_Cx G cX3_isThread RX3 "isThread" rm_X3_isThread (some .boolean) 2 bc bs true) (h : Nat) : am_S G h (h_X3_isThread h) := by
  unfold h_X3_isThread
  split
  · next e => rw [e]; exact s_X3_isThread_0 X
  exact as_bad
theorem ct_X3_isThread : am_Ct yX3_isThread cX3_isThread 2 (some .boolean) rm_X3_isThread sp_X3_isThread := am_met (own := RX3) (nm := "isThread") (by decide) rfl rfl (Or.inr (Or.inr (Or.inl rfl))) (fun _ _ => h_X3_isThread) (fun _ _ _ X => s_X3_isThread X) (fun _ _ _ _ h => h)
-- X3_writersOf
theorem dX3_writersOf_0 : decode cX3_writersOf 0 = .ok (.iconst 0, 1) := by decide +kernel
theorem dX3_writersOf_1 : decode cX3_writersOf 1 = .ok (.istore_n 2, 1) := by decide +kernel
theorem dX3_writersOf_2 : decode cX3_writersOf 2 = .ok (.iconst 0, 1) := by decide +kernel
theorem dX3_writersOf_3 : decode cX3_writersOf 3 = .ok (.istore_n 3, 1) := by decide +kernel
theorem dX3_writersOf_4 : decode cX3_writersOf 4 = .ok (.iload_n 3, 1) := by decide +kernel
theorem dX3_writersOf_5 : decode cX3_writersOf 5 = .ok (.aload_n 0, 1) := by decide +kernel
theorem dX3_writersOf_6 : decode cX3_writersOf 6 = .ok (.getfield 12, 3) := by decide +kernel
theorem dX3_writersOf_9 : decode cX3_writersOf 9 = .ok (.getfield 71, 3) := by decide +kernel
theorem dX3_writersOf_12 : decode cX3_writersOf 12 = .ok (.if_icmp .ge 33, 3) := by decide +kernel
theorem dX3_writersOf_15 : decode cX3_writersOf 15 = .ok (.aload_n 0, 1) := by decide +kernel
theorem dX3_writersOf_16 : decode cX3_writersOf 16 = .ok (.getfield 55, 3) := by decide +kernel
theorem dX3_writersOf_19 : decode cX3_writersOf 19 = .ok (.iload_n 3, 1) := by decide +kernel
theorem dX3_writersOf_20 : decode cX3_writersOf 20 = .ok (.iaload, 1) := by decide +kernel
theorem dX3_writersOf_21 : decode cX3_writersOf 21 = .ok (.iload_n 1, 1) := by decide +kernel
theorem dX3_writersOf_22 : decode cX3_writersOf 22 = .ok (.if_icmp .ne 17, 3) := by decide +kernel
theorem dX3_writersOf_25 : decode cX3_writersOf 25 = .ok (.iload_n 2, 1) := by decide +kernel
theorem dX3_writersOf_26 : decode cX3_writersOf 26 = .ok (.iconst 1, 1) := by decide +kernel
theorem dX3_writersOf_27 : decode cX3_writersOf 27 = .ok (.aload_n 0, 1) := by decide +kernel
theorem dX3_writersOf_28 : decode cX3_writersOf 28 = .ok (.getfield 12, 3) := by decide +kernel
theorem dX3_writersOf_31 : decode cX3_writersOf 31 = .ok (.getfield 98, 3) := by decide +kernel
theorem dX3_writersOf_34 : decode cX3_writersOf 34 = .ok (.iload_n 3, 1) := by decide +kernel
theorem dX3_writersOf_35 : decode cX3_writersOf 35 = .ok (.iaload, 1) := by decide +kernel
theorem dX3_writersOf_36 : decode cX3_writersOf 36 = .ok (.ishl, 1) := by decide +kernel
theorem dX3_writersOf_37 : decode cX3_writersOf 37 = .ok (.ior, 1) := by decide +kernel
theorem dX3_writersOf_38 : decode cX3_writersOf 38 = .ok (.istore_n 2, 1) := by decide +kernel
theorem dX3_writersOf_39 : decode cX3_writersOf 39 = .ok (.iinc 3 1, 3) := by decide +kernel
theorem dX3_writersOf_42 : decode cX3_writersOf 42 = .ok (.goto (-38), 3) := by decide +kernel
theorem dX3_writersOf_45 : decode cX3_writersOf 45 = .ok (.iload_n 2, 1) := by decide +kernel
theorem dX3_writersOf_46 : decode cX3_writersOf 46 = .ok (.ireturn, 1) := by decide +kernel
def t_X3_writersOf_45 : am_T := tb_iload 2 <|
  tb_iret
def t_X3_writersOf_39 : am_T := tb_iinc 3 1 <|
  tb_head 4
def t_X3_writersOf_4 : am_T := tb_iload 3 <|
  tb_aload 0 <|
  tb_getR 3 0 <|
  tb_getI 1 4 <|
  tb_ic (fun x y => y ≤ x) (t_X3_writersOf_45) <|
  tb_aload 0 <|
  tb_getR 3 13 <|
  tb_iload 3 <|
  tb_iald <|
  tb_iload 1 <|
  tb_ic (fun x y => x ≠ y) (t_X3_writersOf_39) <|
  tb_iload 2 <|
  tb_const 1 <|
  tb_aload 0 <|
  tb_getR 3 0 <|
  tb_getR 1 6 <|
  tb_iload 3 <|
  tb_iald <|
  tb_bin (fun x y => x <<< (y &&& 31)) <|
  tb_bin (fun x y => x ||| y) <|
  tb_istore 2 <|
  t_X3_writersOf_39
def t_X3_writersOf_0 : am_T := tb_const 0 <|
  tb_istore 2 <|
  tb_const 0 <|
  tb_istore 3 <|
  tb_head 4
def h_X3_writersOf : am_Hd := fun h => if h = 0 then t_X3_writersOf_0 else if h = 4 then t_X3_writersOf_4 else tb_bad
theorem h_X3_writersOf_0 : h_X3_writersOf 0 = t_X3_writersOf_0 := rfl
theorem h_X3_writersOf_4 : h_X3_writersOf 4 = t_X3_writersOf_4 := rfl
def rm_X3_writersOf : Room := { frames := 0, cells := 0, slots := 0, locals := 0 }
def sp_X3_writersOf : am_sp := fun as M Q => as.length ≤ 4 ∧ am_OK h_X3_writersOf Q 0 (am_in 4 as) M
theorem s_X3_writersOf_45 {G : am_G} {bc bs : Nat} (X : am_Cx G cX3_writersOf RX3 "writersOf" rm_X3_writersOf (some .int) 4 bc bs true) : am_S G 45 (t_X3_writersOf_45) := by
  unfold t_X3_writersOf_45
  refine as_iload_n (pc := 45) X dX3_writersOf_45 rfl ?_
  exact as_iret (pc := 46) X ⟨rfl, rfl⟩ rfl dX3_writersOf_46
theorem s_X3_writersOf_39 {G : am_G} {bc bs : Nat} (X : am_Cx G cX3_writersOf RX3 "writersOf" rm_X3_writersOf (some .int) 4 bc bs true) : am_S G 39 (t_X3_writersOf_39) := by
  unfold t_X3_writersOf_39
  refine as_iinc (pc := 39) X dX3_writersOf_39 (by decide) (by decide) ?_
  exact as_goto (pc := 42) X 4 dX3_writersOf_42 (by decide) (as_head)
theorem s_X3_writersOf_4 {G : am_G} {bc bs : Nat} (X : am_Cx G cX3_writersOf RX3 "writersOf" rm_X3_writersOf (some .int) 4 bc bs true) : am_S G 4 (t_X3_writersOf_4) := by
  unfold t_X3_writersOf_4
  refine as_iload_n (pc := 4) X dX3_writersOf_4 rfl ?_
  refine as_aload_n (pc := 5) X dX3_writersOf_5 rfl ?_
  refine as_getR (ci := 3) (j := 0) (pc := 6) X (Cn := RX3) (Tf := TX3) (N := 17) rfl rfl (by decide) iw_X3 aw_159 rfl dX3_writersOf_6 ?_
  refine as_getI (ci := 1) (j := 4) (pc := 9) X (Cn := RX1) (Tf := TX1) (N := 14) rfl rfl (by decide) iw_X1 aw_99 rfl dX3_writersOf_9 ?_
  refine as_ic_ge (pc := 12) X 45 dX3_writersOf_12 (by decide) (s_X3_writersOf_45 X) ?_
  refine as_aload_n (pc := 15) X dX3_writersOf_15 rfl ?_
  refine as_getR (ci := 3) (j := 13) (pc := 16) X (Cn := RX3) (Tf := TX3) (N := 17) rfl rfl (by decide) iw_X3 aw_178 rfl dX3_writersOf_16 ?_
  refine as_iload_n (pc := 19) X dX3_writersOf_19 rfl ?_
  refine as_iald (pc := 20) X dX3_writersOf_20 ?_
  refine as_iload_n (pc := 21) X dX3_writersOf_21 rfl ?_
  refine as_ic_ne (pc := 22) X 39 dX3_writersOf_22 (by decide) (s_X3_writersOf_39 X) ?_
  refine as_iload_n (pc := 25) X dX3_writersOf_25 rfl ?_
  refine as_iconst (pc := 26) X dX3_writersOf_26 (by decide) ?_
  refine as_aload_n (pc := 27) X dX3_writersOf_27 rfl ?_
  refine as_getR (ci := 3) (j := 0) (pc := 28) X (Cn := RX3) (Tf := TX3) (N := 17) rfl rfl (by decide) iw_X3 aw_159 rfl dX3_writersOf_28 ?_
  refine as_getR (ci := 1) (j := 6) (pc := 31) X (Cn := RX1) (Tf := TX1) (N := 14) rfl rfl (by decide) iw_X1 aw_106 rfl dX3_writersOf_31 ?_
  refine as_iload_n (pc := 34) X dX3_writersOf_34 rfl ?_
  refine as_iald (pc := 35) X dX3_writersOf_35 ?_
  refine as_ishl (pc := 36) X dX3_writersOf_36 ?_
  refine as_ior (pc := 37) X dX3_writersOf_37 ?_
  refine as_istore_n (pc := 38) X dX3_writersOf_38 rfl ?_ (by decide)
  exact s_X3_writersOf_39 X
theorem s_X3_writersOf_0 {G : am_G} {bc bs : Nat} (X : am_Cx G cX3_writersOf RX3 "writersOf" rm_X3_writersOf (some .int) 4 bc bs true) : am_S G 0 (t_X3_writersOf_0) := by
  unfold t_X3_writersOf_0
  refine as_iconst (pc := 0) X dX3_writersOf_0 (by decide) ?_
  refine as_istore_n (pc := 1) X dX3_writersOf_1 rfl ?_ (by decide)
  refine as_iconst (pc := 2) X dX3_writersOf_2 (by decide) ?_
  refine as_istore_n (pc := 3) X dX3_writersOf_3 rfl ?_ (by decide)
  exact as_head
theorem s_X3_writersOf {G : am_G} {bc bs : Nat} (X : am_Cx G cX3_writersOf RX3 "writersOf" rm_X3_writersOf (some .int) 4 bc bs true) (h : Nat) : am_S G h (h_X3_writersOf h) := by
  unfold h_X3_writersOf
  split
  · next e => rw [e]; exact s_X3_writersOf_0 X
  split
  · next e => rw [e]; exact s_X3_writersOf_4 X
  exact as_bad
theorem ct_X3_writersOf : am_Ct yX3_writersOf cX3_writersOf 4 (some .int) rm_X3_writersOf sp_X3_writersOf := am_met (own := RX3) (nm := "writersOf") (by decide) rfl rfl (Or.inr (Or.inl rfl)) (fun _ _ => h_X3_writersOf) (fun _ _ _ X => s_X3_writersOf X) (fun _ _ _ _ h => h)
