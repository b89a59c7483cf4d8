set_option linter.unusedVariables false
theorem f_nameAt {S : List (Nat × Nat)} {R : Nat → Nat → Option Nat} {I : Nat → Nat → Int32} {L p τ : Nat} {a : Lg} {post : am_R} (hS : LogS S R L) (hI : LogI I L a) (hB : LgB a) (hp12 : p < 12) (hτ : τ ≤ 100000) (hp : post (some (.inl (oI (-1) (gN a p τ (gt a))))) (S, I, R)) : sp_X1_nameAt [.inr L, .inl (nI p), .inl (nI τ)] (S, I, R) post := by
  obtain ⟨⟨s0, s1, s2, s3, -⟩, r1, r2, r3, -⟩ := hS
  obtain ⟨⟨h0, -, -⟩, hT, -⟩ := hI
  obtain ⟨⟨b0, -, -⟩, bT, -⟩ := hB
  have loop : ∀ m, m ≤ gt a → post (some (.inl (oI (-1) (gN a p τ m)))) (S, I, R) → am_OK h_X1_nameAt post 7 [some (.inr L), some (.inl (nI p)), some (.inl (nI τ)), some (.inl (nI m - 1))] (S, I, R) := by
    intro m
    induction m with
    | zero =>
      intro _ hq
      apply am_fold
      rw [h_X1_nameAt_7]
      simp only [tb_const, tb_iload, tb_aload, tb_istore, tb_astore, tb_iinc, tb_bin, tb_idiv, tb_i2c, tb_dup, tb_dup2, tb_nn, tb_ic, tb_if, tb_sw, tb_head, tb_getI, tb_getR, tb_putI, tb_putN, tb_putR, tb_iald, tb_cald, tb_iast, tb_cast, tb_aald, tb_aast, tb_alen, tb_stat, tb_pop, tb_mm, tb_copy, tb_ret, tb_iret, tb_zret, tb_aret, tb_retA, tb_new, tb_newa, tb_callV, tb_callS, tb_callI, am_in, List.map_cons, List.map_nil, List.getElem?_cons_zero, List.getElem?_cons_succ, List.set_cons_zero, List.set_cons_succ, List.take_succ_cons, List.take_zero, List.drop_succ_cons, List.drop_zero, List.reverse_cons, List.reverse_nil, List.nil_append, List.cons_append, List.append_nil, List.length_cons, List.length_nil, List.replicate_succ, List.replicate_zero, Option.toList_some, Option.toList_none, true_and, and_true, Option.some.injEq, exists_eq_left', am_wI_mk, am_wA_mk, am_wR_mk, Nat.reduceAdd, Nat.reduceSub, Nat.reduceLeDiff, Nat.zero_add, Nat.le_refl, not_true_eq_false, not_false_eq_true, forall_const, false_implies, true_implies, implies_true, and_self, t_X1_nameAt_44, t_X1_nameAt_38, t_X1_nameAt_7, t_X1_nameAt_0, n0m1, m1lt]
      exact hq
    | succ m ih =>
      intro hm hq
      apply am_fold
      rw [h_X1_nameAt_7]
      obtain ⟨t0, t1, t2⟩ := hT m (by omega)
      obtain ⟨c0, c1, c2⟩ := bT m (by omega)
      have a1 : m < 20 := by omega
      have ih := ih (by omega)
      unfold gN at hq
      simp (disch := omega) only [nm1, nsub1, nlt0, nlt, neq, vpn, vcl, t0, t1, t2, tb_const, tb_iload]
      simp only [tb_const, tb_iload, tb_aload, tb_istore, tb_astore, tb_iinc, tb_bin, tb_idiv, tb_i2c, tb_dup, tb_dup2, tb_nn, tb_ic, tb_if, tb_sw, tb_head, tb_getI, tb_getR, tb_putI, tb_putN, tb_putR, tb_iald, tb_cald, tb_iast, tb_cast, tb_aald, tb_aast, tb_alen, tb_stat, tb_pop, tb_mm, tb_copy, tb_ret, tb_iret, tb_zret, tb_aret, tb_retA, tb_new, tb_newa, tb_callV, tb_callS, tb_callI, am_in, List.map_cons, List.map_nil, List.getElem?_cons_zero, List.getElem?_cons_succ, List.set_cons_zero, List.set_cons_succ, List.take_succ_cons, List.take_zero, List.drop_succ_cons, List.drop_zero, List.reverse_cons, List.reverse_nil, List.nil_append, List.cons_append, List.append_nil, List.length_cons, List.length_nil, List.replicate_succ, List.replicate_zero, Option.toList_some, Option.toList_none, true_and, and_true, Option.some.injEq, exists_eq_left', am_wI_mk, am_wA_mk, am_wR_mk, Nat.reduceAdd, Nat.reduceSub, Nat.reduceLeDiff, Nat.zero_add, Nat.le_refl, not_true_eq_false, not_false_eq_true, forall_const, false_implies, true_implies, implies_true, and_self, t_X1_nameAt_44, t_X1_nameAt_38, t_X1_nameAt_7, t_X1_nameAt_0, nm1, nsub1, s0, s1, s2, s3, r1, r2, r3, arr1 s1, arr1 s2, arr1 s3]
      simp (disch := omega) only [nlt0, nlt, ne_eq, neq, vpn, vcl, t0, t1, t2, true_and, not_false_eq_true, true_implies, false_implies]
      by_cases e1 : gT a 0 m = p
      · by_cases e2 : gT a 2 m ≤ τ
        · rw [if_pos ⟨e1, e2⟩] at hq
          simp [e1, Nat.not_lt.mpr e2]
          exact hq
        · rw [if_neg (fun h => e2 h.2)] at hq
          simp [e1, Nat.not_le.mp e2]
          exact ih hq
      · rw [if_neg (fun h => e1 h.1)] at hq
        simp [e1]
        exact ih hq
  refine ⟨Nat.le_of_ble_eq_true rfl, am_fold ?_⟩
  rw [h_X1_nameAt_0]
  simp only [tb_const, tb_iload, tb_aload, tb_istore, tb_astore, tb_iinc, tb_bin, tb_idiv, tb_i2c, tb_dup, tb_dup2, tb_nn, tb_ic, tb_if, tb_sw, tb_head, tb_getI, tb_getR, tb_putI, tb_putN, tb_putR, tb_iald, tb_cald, tb_iast, tb_cast, tb_aald, tb_aast, tb_alen, tb_stat, tb_pop, tb_mm, tb_copy, tb_ret, tb_iret, tb_zret, tb_aret, tb_retA, tb_new, tb_newa, tb_callV, tb_callS, tb_callI, am_in, List.map_cons, List.map_nil, List.getElem?_cons_zero, List.getElem?_cons_succ, List.set_cons_zero, List.set_cons_succ, List.take_succ_cons, List.take_zero, List.drop_succ_cons, List.drop_zero, List.reverse_cons, List.reverse_nil, List.nil_append, List.cons_append, List.append_nil, List.length_cons, List.length_nil, List.replicate_succ, List.replicate_zero, Option.toList_some, Option.toList_none, true_and, and_true, Option.some.injEq, exists_eq_left', am_wI_mk, am_wA_mk, am_wR_mk, Nat.reduceAdd, Nat.reduceSub, Nat.reduceLeDiff, Nat.zero_add, Nat.le_refl, not_true_eq_false, not_false_eq_true, forall_const, false_implies, true_implies, implies_true, and_self, t_X1_nameAt_44, t_X1_nameAt_38, t_X1_nameAt_7, t_X1_nameAt_0, s0, h0]
  exact loop _ (Nat.le_refl _) hp
