-- needs: 10 11 12 13 14 15 20 21 22 40 50 51
variable {S : List (Nat × Nat)} {R : Nat → Nat → Option Nat} {I : Nat → Nat → Int32} {M r : Nat} {a : Lg} {post : am_R}
def PastI (I : Nat → Nat → Int32) (M c : Nat) (h : Nat → Lg) : Prop := c ≤ 4 ∧ I M 3 = nI c ∧ ∀ j, j < c → RowI (fun k => I (M + 3) (227 * j + k)) (h j) ∧ LgB (h j)
theorem m_changes {c : Nat} {h : Nat → Lg} (hS : MoS S R M) (hI : RowI (I (M + 1)) a) (hB : LgB a) (hP : PastI I M c h) (hp : ∀ I', (∀ k, k ≠ M → k ≠ M + 3 → I' k = I k) → (∀ j, j ≠ 3 → I' M j = I M j) → PastI I' M (pushC c) (pushH c h a) → post none (S, I', R)) : sp_X5_changes [.inr M] (S, I, R) post := by
  obtain ⟨⟨m0, m1, m2, m3, -⟩, n0, n1, n2, -⟩ := id hS
  obtain ⟨hc4, hc, hh⟩ := id hP
  have l51 : ∀ c1 (h1 : Nat → Lg), c1 < 4 → pushC c = c1 + 1 → (∀ j, j < c1 → pushH c h a j = h1 j ∧ LgB (h1 j)) → pushH c h a c1 = a → ∀ k, k ≤ 227 → ∀ I', (∀ k, k ≠ M → k ≠ M + 3 → I' k = I k) → (∀ j, j ≠ 3 → I' M j = I M j) → I' M 3 = nI c1 → (∀ j, j < c1 → RowI (fun k => I' (M + 3) (227 * j + k)) (h1 j)) → (∀ j, j < k → I' (M + 3) (227 * c1 + j) = I (M + 1) j) → am_OK h_X5_changes post 51 [some (.inr M), some (.inl (nI k))] (S, I', R) := by
    intro c1 h1 hc1 e1 e2 e3
    refine dn 227 ?_ ?_
    · intro I' hf hf2 h3 hr hk
      apply am_fold; rw [h_X5_changes_51]
      simp only [↓ap_cc, ↓ap_const, ↓ap_iload, ↓ap_aload, ↓ap_istore, ↓ap_astore, ↓ap_iinc, ↓ap_bin, ↓ap_idiv, ↓ap_i2c, ↓ap_dup, ↓ap_dup2, ↓ap_nn, ↓ap_ic, ↓ap_if, ↓ap_sw, ↓ap_head, ↓ap_getI, ↓ap_getR, ↓ap_putI, ↓ap_putN, ↓ap_putR, ↓ap_iald, ↓ap_cald, ↓ap_iast, ↓ap_cast, ↓ap_aald, ↓ap_aast, ↓ap_alen, ↓ap_stat, ↓ap_pop, ↓ap_mm, ↓ap_copy, ↓ap_ret, ↓ap_iret, ↓ap_zret, ↓ap_aret, ↓ap_retA, ↓ap_new, ↓ap_newa, ↓ap_callV, ↓ap_callS, ↓ap_callI, am_in, List.map_cons, List.map_nil, List.getElem?_cons_zero, List.getElem?_cons_succ, List.set_cons_zero, List.set_cons_succ, List.take_succ_cons, List.take_zero, List.drop_succ_cons, List.drop_zero, List.reverse_cons, List.reverse_nil, List.nil_append, List.cons_append, List.append_nil, List.length_cons, List.length_nil, List.replicate_succ, List.replicate_zero, Option.toList_some, Option.toList_none, true_and, and_true, Option.some.injEq, exists_eq_left', am_wI_mk, am_wA_mk, am_wR_mk, Nat.reduceAdd, Nat.reduceSub, Nat.reduceLeDiff, Nat.zero_add, Nat.le_refl, not_true_eq_false, not_false_eq_true, forall_const, false_implies, true_implies, implies_true, and_self, Prod.mk.injEq, eq_self, true_or, or_true, false_and, and_false, or_false, false_or, Nat.reduceEqDiff, ↓a_X5_changes_51, ↓a_X5_changes_85, m0, m1, m3, n0, n2, h3]
      try simp (disch := omega) only [nm1, nm1', nsub1, np1, npd, nadd, n0m1, m1lt, nlt0, nge0, ngt0, nle0, nlt, nle, neq, neq0, m1n, m4n, vpn, vcl, ne_eq, bI_0, bI_1, bI_01, lit01, lit00, oI_s, oI_n, true_and, and_true, not_true_eq_false, not_false_eq_true, true_implies, false_implies, and_self, implies_true, forall_const, Bool.not_eq_false, Bool.not_eq_true, iu_s, iu_k1, iu_j1, ia_s1, ia_k1, lt2, lt3, lt5, lt6, lt7, lt8, lt9, lt10, lt11, lt12, lt15, lt16, lt17, lt20, lt30, lt32, lt48, lt57, lt71, lt80, lt97, lt98, lt108, lt110, lt126, lt191, lt200, lt227, lt681, lt65535, lt100000, decide_eq_true_eq, decide_eq_false_iff_not, Nat.le_refl, true_or, or_true, eq_self]
      refine hp _ (fun k hk1 hk2 => by rw [iu_k hk1]; exact hf k hk1 hk2) (fun j hj => by rw [iu_j1 hj]; exact hf2 j hj) ⟨by rw [e1]; omega, by rw [e1]; try simp (disch := omega) only [nm1, nm1', nsub1, np1, npd, nadd, n0m1, m1lt, nlt0, nge0, ngt0, nle0, nlt, nle, neq, neq0, m1n, m4n, vpn, vcl, ne_eq, bI_0, bI_1, bI_01, lit01, lit00, oI_s, oI_n, true_and, and_true, not_true_eq_false, not_false_eq_true, true_implies, false_implies, and_self, implies_true, forall_const, Bool.not_eq_false, Bool.not_eq_true, iu_s, iu_k1, iu_j1, ia_s1, ia_k1, lt2, lt3, lt5, lt6, lt7, lt8, lt9, lt10, lt11, lt12, lt15, lt16, lt17, lt20, lt30, lt32, lt48, lt57, lt71, lt80, lt97, lt98, lt108, lt110, lt126, lt191, lt200, lt227, lt681, lt65535, lt100000, decide_eq_true_eq, decide_eq_false_iff_not, Nat.le_refl, true_or, or_true, eq_self], fun j hj => ?_⟩
      rw [e1] at hj
      have e4 : (fun k => am_u I' M 3 (nI (c1 + 1)) (M + 3) (227 * j + k)) = fun k => I' (M + 3) (227 * j + k) := by funext k; rw [iu_k1 (by omega)]
      rw [e4]
      by_cases hjc : j = c1
      · subst hjc
        rw [e3]
        exact ⟨hI.congr hB (fun k hk2 => hk k hk2), hB⟩
      · have := e2 j (by omega)
        rw [this.1]
        exact ⟨hr j (by omega), this.2⟩
    · intro k hk227 ih I' hf hf2 h3 hr hk
      have e5 : I' (M + 1) k = I (M + 1) k := by rw [hf (M + 1) (by omega) (by omega)]
      apply am_fold; rw [h_X5_changes_51]
      simp only [↓ap_cc, ↓ap_const, ↓ap_iload, ↓ap_aload, ↓ap_istore, ↓ap_astore, ↓ap_iinc, ↓ap_bin, ↓ap_idiv, ↓ap_i2c, ↓ap_dup, ↓ap_dup2, ↓ap_nn, ↓ap_ic, ↓ap_if, ↓ap_sw, ↓ap_head, ↓ap_getI, ↓ap_getR, ↓ap_putI, ↓ap_putN, ↓ap_putR, ↓ap_iald, ↓ap_cald, ↓ap_iast, ↓ap_cast, ↓ap_aald, ↓ap_aast, ↓ap_alen, ↓ap_stat, ↓ap_pop, ↓ap_mm, ↓ap_copy, ↓ap_ret, ↓ap_iret, ↓ap_zret, ↓ap_aret, ↓ap_retA, ↓ap_new, ↓ap_newa, ↓ap_callV, ↓ap_callS, ↓ap_callI, am_in, List.map_cons, List.map_nil, List.getElem?_cons_zero, List.getElem?_cons_succ, List.set_cons_zero, List.set_cons_succ, List.take_succ_cons, List.take_zero, List.drop_succ_cons, List.drop_zero, List.reverse_cons, List.reverse_nil, List.nil_append, List.cons_append, List.append_nil, List.length_cons, List.length_nil, List.replicate_succ, List.replicate_zero, Option.toList_some, Option.toList_none, true_and, and_true, Option.some.injEq, exists_eq_left', am_wI_mk, am_wA_mk, am_wR_mk, Nat.reduceAdd, Nat.reduceSub, Nat.reduceLeDiff, Nat.zero_add, Nat.le_refl, not_true_eq_false, not_false_eq_true, forall_const, false_implies, true_implies, implies_true, and_self, Prod.mk.injEq, eq_self, true_or, or_true, false_and, and_false, or_false, false_or, Nat.reduceEqDiff, ↓a_X5_changes_51, ↓a_X5_changes_85, m0, m1, m3, n0, n2, h3, arr1 m1]
      try simp (disch := omega) only [nm1, nm1', nsub1, np1, npd, nadd, n0m1, m1lt, nlt0, nge0, ngt0, nle0, nlt, nle, neq, neq0, m1n, m4n, vpn, vcl, ne_eq, bI_0, bI_1, bI_01, lit01, lit00, oI_s, oI_n, true_and, and_true, not_true_eq_false, not_false_eq_true, true_implies, false_implies, and_self, implies_true, forall_const, Bool.not_eq_false, Bool.not_eq_true, iu_s, iu_k1, iu_j1, ia_s1, ia_k1, lt2, lt3, lt5, lt6, lt7, lt8, lt9, lt10, lt11, lt12, lt15, lt16, lt17, lt20, lt30, lt32, lt48, lt57, lt71, lt80, lt97, lt98, lt108, lt110, lt126, lt191, lt200, lt227, lt681, lt65535, lt100000, decide_eq_true_eq, decide_eq_false_iff_not, Nat.le_refl, true_or, or_true, eq_self, nmul, e5]
      refine ⟨fun h => by omega, fun _ => ih _ (fun k hk1 hk2 => by rw [iu_k hk2]; exact hf k hk1 hk2) (fun j hj => by rw [iu_k1 (by omega)]; exact hf2 j hj) (by rw [iu_k1 (by omega)]; exact h3) (fun j hj => ?_) (fun j hj => ?_)⟩
      · exact (hr j hj).congr (e2 j hj).2 (fun k2 hk2 => by rw [iu_j1 (by omega)])
      · by_cases hjk : j = k
        · subst hjk; rw [iu_s]
        · rw [iu_j1 (by omega)]; exact hk j (by omega)
  refine ⟨Nat.le_of_ble_eq_true rfl, am_fold ?_⟩; rw [h_X5_changes_0]
  simp only [↓ap_cc, ↓ap_const, ↓ap_iload, ↓ap_aload, ↓ap_istore, ↓ap_astore, ↓ap_iinc, ↓ap_bin, ↓ap_idiv, ↓ap_i2c, ↓ap_dup, ↓ap_dup2, ↓ap_nn, ↓ap_ic, ↓ap_if, ↓ap_sw, ↓ap_head, ↓ap_getI, ↓ap_getR, ↓ap_putI, ↓ap_putN, ↓ap_putR, ↓ap_iald, ↓ap_cald, ↓ap_iast, ↓ap_cast, ↓ap_aald, ↓ap_aast, ↓ap_alen, ↓ap_stat, ↓ap_pop, ↓ap_mm, ↓ap_copy, ↓ap_ret, ↓ap_iret, ↓ap_zret, ↓ap_aret, ↓ap_retA, ↓ap_new, ↓ap_newa, ↓ap_callV, ↓ap_callS, ↓ap_callI, am_in, List.map_cons, List.map_nil, List.getElem?_cons_zero, List.getElem?_cons_succ, List.set_cons_zero, List.set_cons_succ, List.take_succ_cons, List.take_zero, List.drop_succ_cons, List.drop_zero, List.reverse_cons, List.reverse_nil, List.nil_append, List.cons_append, List.append_nil, List.length_cons, List.length_nil, List.replicate_succ, List.replicate_zero, Option.toList_some, Option.toList_none, true_and, and_true, Option.some.injEq, exists_eq_left', am_wI_mk, am_wA_mk, am_wR_mk, Nat.reduceAdd, Nat.reduceSub, Nat.reduceLeDiff, Nat.zero_add, Nat.le_refl, not_true_eq_false, not_false_eq_true, forall_const, false_implies, true_implies, implies_true, and_self, Prod.mk.injEq, eq_self, true_or, or_true, false_and, and_false, or_false, false_or, Nat.reduceEqDiff, ↓a_X5_changes_0, ↓a_X5_changes_49, m0, hc]
  try simp (disch := omega) only [nm1, nm1', nsub1, np1, npd, nadd, n0m1, m1lt, nlt0, nge0, ngt0, nle0, nlt, nle, neq, neq0, m1n, m4n, vpn, vcl, ne_eq, bI_0, bI_1, bI_01, lit01, lit00, oI_s, oI_n, true_and, and_true, not_true_eq_false, not_false_eq_true, true_implies, false_implies, and_self, implies_true, forall_const, Bool.not_eq_false, Bool.not_eq_true, iu_s, iu_k1, iu_j1, ia_s1, ia_k1, lt2, lt3, lt5, lt6, lt7, lt8, lt9, lt10, lt11, lt12, lt15, lt16, lt17, lt20, lt30, lt32, lt48, lt57, lt71, lt80, lt97, lt98, lt108, lt110, lt126, lt191, lt200, lt227, lt681, lt65535, lt100000, decide_eq_true_eq, decide_eq_false_iff_not, Nat.le_refl, true_or, or_true, eq_self, lt4]
  refine ⟨fun hne => ?_, fun he => ?_⟩
  · refine l51 c h (by omega) ?_ (fun j hj => ⟨?_, (hh j hj).2⟩) ?_ 0 (by omega) I (fun _ _ _ => rfl) (fun _ _ => rfl) hc (fun j hj => (hh j hj).1) (fun j hj => by omega)
    · unfold pushC; rw [if_neg hne]
    · unfold pushH; rw [if_neg hne, if_neg (by omega)]
    · unfold pushH; rw [if_neg hne, if_pos rfl]
  · have he : c = 4 := by omega
    subst he
    have l10 : ∀ k, k ≤ 681 → ∀ I', (∀ k, k ≠ M + 3 → I' k = I k) → (∀ j, I' (M + 3) j = if j < k then I (M + 3) (j + 227) else I (M + 3) j) → am_OK h_X5_changes post 10 [some (.inr M), some (.inl (nI k))] (S, I', R) := by
      refine dn 681 ?_ ?_
      · intro I' hf hj
        have e3 : I' M 3 = nI 4 := by rw [hf M (by omega)]; exact hc
        apply am_fold; rw [h_X5_changes_10]
        simp only [↓ap_cc, ↓ap_const, ↓ap_iload, ↓ap_aload, ↓ap_istore, ↓ap_astore, ↓ap_iinc, ↓ap_bin, ↓ap_idiv, ↓ap_i2c, ↓ap_dup, ↓ap_dup2, ↓ap_nn, ↓ap_ic, ↓ap_if, ↓ap_sw, ↓ap_head, ↓ap_getI, ↓ap_getR, ↓ap_putI, ↓ap_putN, ↓ap_putR, ↓ap_iald, ↓ap_cald, ↓ap_iast, ↓ap_cast, ↓ap_aald, ↓ap_aast, ↓ap_alen, ↓ap_stat, ↓ap_pop, ↓ap_mm, ↓ap_copy, ↓ap_ret, ↓ap_iret, ↓ap_zret, ↓ap_aret, ↓ap_retA, ↓ap_new, ↓ap_newa, ↓ap_callV, ↓ap_callS, ↓ap_callI, am_in, List.map_cons, List.map_nil, List.getElem?_cons_zero, List.getElem?_cons_succ, List.set_cons_zero, List.set_cons_succ, List.take_succ_cons, List.take_zero, List.drop_succ_cons, List.drop_zero, List.reverse_cons, List.reverse_nil, List.nil_append, List.cons_append, List.append_nil, List.length_cons, List.length_nil, List.replicate_succ, List.replicate_zero, Option.toList_some, Option.toList_none, true_and, and_true, Option.some.injEq, exists_eq_left', am_wI_mk, am_wA_mk, am_wR_mk, Nat.reduceAdd, Nat.reduceSub, Nat.reduceLeDiff, Nat.zero_add, Nat.le_refl, not_true_eq_false, not_false_eq_true, forall_const, false_implies, true_implies, implies_true, and_self, Prod.mk.injEq, eq_self, true_or, or_true, false_and, and_false, or_false, false_or, Nat.reduceEqDiff, ↓a_X5_changes_10, ↓a_X5_changes_39, ↓a_X5_changes_49, m0, m3, n2, e3]
        try simp (disch := omega) only [nm1, nm1', nsub1, np1, npd, nadd, n0m1, m1lt, nlt0, nge0, ngt0, nle0, nlt, nle, neq, neq0, m1n, m4n, vpn, vcl, ne_eq, bI_0, bI_1, bI_01, lit01, lit00, oI_s, oI_n, true_and, and_true, not_true_eq_false, not_false_eq_true, true_implies, false_implies, and_self, implies_true, forall_const, Bool.not_eq_false, Bool.not_eq_true, iu_s, iu_k1, iu_j1, ia_s1, ia_k1, lt2, lt3, lt5, lt6, lt7, lt8, lt9, lt10, lt11, lt12, lt15, lt16, lt17, lt20, lt30, lt32, lt48, lt57, lt71, lt80, lt97, lt98, lt108, lt110, lt126, lt191, lt200, lt227, lt681, lt65535, lt100000, decide_eq_true_eq, decide_eq_false_iff_not, Nat.le_refl, true_or, or_true, eq_self, lt4]
        refine l51 3 (fun j => h (j + 1)) (by omega) rfl (fun j hj => ⟨?_, (hh (j + 1) (by omega)).2⟩) rfl 0 (by omega) _ (fun k hk1 hk2 => by rw [iu_k hk1]; exact hf k hk2) (fun j hj => by rw [iu_j1 hj, hf M (by omega)]) (by try simp (disch := omega) only [nm1, nm1', nsub1, np1, npd, nadd, n0m1, m1lt, nlt0, nge0, ngt0, nle0, nlt, nle, neq, neq0, m1n, m4n, vpn, vcl, ne_eq, bI_0, bI_1, bI_01, lit01, lit00, oI_s, oI_n, true_and, and_true, not_true_eq_false, not_false_eq_true, true_implies, false_implies, and_self, implies_true, forall_const, Bool.not_eq_false, Bool.not_eq_true, iu_s, iu_k1, iu_j1, ia_s1, ia_k1, lt2, lt3, lt5, lt6, lt7, lt8, lt9, lt10, lt11, lt12, lt15, lt16, lt17, lt20, lt30, lt32, lt48, lt57, lt71, lt80, lt97, lt98, lt108, lt110, lt126, lt191, lt200, lt227, lt681, lt65535, lt100000, decide_eq_true_eq, decide_eq_false_iff_not, Nat.le_refl, true_or, or_true, eq_self]) (fun j hj2 => ?_) (fun j hj => by omega)
        · unfold pushH; rw [if_pos rfl, if_neg (by omega)]
        · have h1 := hh (j + 1) (by omega)
          refine h1.1.congr h1.2 (fun k hk => ?_)
          rw [iu_k1 (by omega), hj, if_pos (by omega)]
          congr 1; omega
      · intro k hk ih I' hf hj
        have e2 : I' (M + 3) (k + 227) = I (M + 3) (k + 227) := by rw [hj, if_neg (by omega)]
        apply am_fold; rw [h_X5_changes_10]
        simp only [↓ap_cc, ↓ap_const, ↓ap_iload, ↓ap_aload, ↓ap_istore, ↓ap_astore, ↓ap_iinc, ↓ap_bin, ↓ap_idiv, ↓ap_i2c, ↓ap_dup, ↓ap_dup2, ↓ap_nn, ↓ap_ic, ↓ap_if, ↓ap_sw, ↓ap_head, ↓ap_getI, ↓ap_getR, ↓ap_putI, ↓ap_putN, ↓ap_putR, ↓ap_iald, ↓ap_cald, ↓ap_iast, ↓ap_cast, ↓ap_aald, ↓ap_aast, ↓ap_alen, ↓ap_stat, ↓ap_pop, ↓ap_mm, ↓ap_copy, ↓ap_ret, ↓ap_iret, ↓ap_zret, ↓ap_aret, ↓ap_retA, ↓ap_new, ↓ap_newa, ↓ap_callV, ↓ap_callS, ↓ap_callI, am_in, List.map_cons, List.map_nil, List.getElem?_cons_zero, List.getElem?_cons_succ, List.set_cons_zero, List.set_cons_succ, List.take_succ_cons, List.take_zero, List.drop_succ_cons, List.drop_zero, List.reverse_cons, List.reverse_nil, List.nil_append, List.cons_append, List.append_nil, List.length_cons, List.length_nil, List.replicate_succ, List.replicate_zero, Option.toList_some, Option.toList_none, true_and, and_true, Option.some.injEq, exists_eq_left', am_wI_mk, am_wA_mk, am_wR_mk, Nat.reduceAdd, Nat.reduceSub, Nat.reduceLeDiff, Nat.zero_add, Nat.le_refl, not_true_eq_false, not_false_eq_true, forall_const, false_implies, true_implies, implies_true, and_self, Prod.mk.injEq, eq_self, true_or, or_true, false_and, and_false, or_false, false_or, Nat.reduceEqDiff, ↓a_X5_changes_10, ↓a_X5_changes_39, ↓a_X5_changes_49, m0, m3, n2, arr1 m3]
        try simp (disch := omega) only [nm1, nm1', nsub1, np1, npd, nadd, n0m1, m1lt, nlt0, nge0, ngt0, nle0, nlt, nle, neq, neq0, m1n, m4n, vpn, vcl, ne_eq, bI_0, bI_1, bI_01, lit01, lit00, oI_s, oI_n, true_and, and_true, not_true_eq_false, not_false_eq_true, true_implies, false_implies, and_self, implies_true, forall_const, Bool.not_eq_false, Bool.not_eq_true, iu_s, iu_k1, iu_j1, ia_s1, ia_k1, lt2, lt3, lt5, lt6, lt7, lt8, lt9, lt10, lt11, lt12, lt15, lt16, lt17, lt20, lt30, lt32, lt48, lt57, lt71, lt80, lt97, lt98, lt108, lt110, lt126, lt191, lt200, lt227, lt681, lt65535, lt100000, decide_eq_true_eq, decide_eq_false_iff_not, Nat.le_refl, true_or, or_true, eq_self, e2]
        refine ⟨fun h => by omega, fun _ => ih _ (fun k' hk' => by rw [iu_k hk']; exact hf k' hk') (fun j => ?_)⟩
        rw [iu_i]
        by_cases hjk : j = k
        · subst hjk; rw [if_pos rfl, if_pos (by omega)]
        · rw [if_neg hjk, hj]
          by_cases h1 : j < k
          · rw [if_pos h1, if_pos (by omega)]
          · rw [if_neg h1, if_neg (by omega)]
    exact l10 0 (by omega) I (fun _ _ => rfl) (fun j => by rw [if_neg (by omega)])
theorem m_begins (hS : MoS S R M) (hI : RowI (I (M + 1)) a) (hB : LgB a) (hp : ∀ I', Fr (M + 2) (M + 2) I I' → RowI (I' (M + 2)) a → post none (S, I', R)) : sp_X5_begins [.inr M] (S, I, R) post := by
  obtain ⟨⟨m0, m1, m2, m3, -⟩, n0, n1, n2, -⟩ := id hS
  have l2 : ∀ k, k ≤ 227 → ∀ I', Fr (M + 2) (M + 2) I I' → (∀ j, j < k → I' (M + 2) j = I (M + 1) j) → am_OK h_X5_begins post 2 [some (.inr M), some (.inl (nI k))] (S, I', R) := by
    refine dn 227 ?_ ?_
    · intro I' hf hj
      apply am_fold; rw [h_X5_begins_2]
      simp only [↓ap_cc, ↓ap_const, ↓ap_iload, ↓ap_aload, ↓ap_istore, ↓ap_astore, ↓ap_iinc, ↓ap_bin, ↓ap_idiv, ↓ap_i2c, ↓ap_dup, ↓ap_dup2, ↓ap_nn, ↓ap_ic, ↓ap_if, ↓ap_sw, ↓ap_head, ↓ap_getI, ↓ap_getR, ↓ap_putI, ↓ap_putN, ↓ap_putR, ↓ap_iald, ↓ap_cald, ↓ap_iast, ↓ap_cast, ↓ap_aald, ↓ap_aast, ↓ap_alen, ↓ap_stat, ↓ap_pop, ↓ap_mm, ↓ap_copy, ↓ap_ret, ↓ap_iret, ↓ap_zret, ↓ap_aret, ↓ap_retA, ↓ap_new, ↓ap_newa, ↓ap_callV, ↓ap_callS, ↓ap_callI, am_in, List.map_cons, List.map_nil, List.getElem?_cons_zero, List.getElem?_cons_succ, List.set_cons_zero, List.set_cons_succ, List.take_succ_cons, List.take_zero, List.drop_succ_cons, List.drop_zero, List.reverse_cons, List.reverse_nil, List.nil_append, List.cons_append, List.append_nil, List.length_cons, List.length_nil, List.replicate_succ, List.replicate_zero, Option.toList_some, Option.toList_none, true_and, and_true, Option.some.injEq, exists_eq_left', am_wI_mk, am_wA_mk, am_wR_mk, Nat.reduceAdd, Nat.reduceSub, Nat.reduceLeDiff, Nat.zero_add, Nat.le_refl, not_true_eq_false, not_false_eq_true, forall_const, false_implies, true_implies, implies_true, and_self, Prod.mk.injEq, eq_self, true_or, or_true, false_and, and_false, or_false, false_or, Nat.reduceEqDiff, ↓a_X5_begins_27, ↓a_X5_begins_2, ↓a_X5_begins_0, m0, m1, m2, n0, n1]
      try simp (disch := omega) only [nm1, nm1', nsub1, np1, npd, nadd, n0m1, m1lt, nlt0, nge0, ngt0, nle0, nlt, nle, neq, neq0, m1n, m4n, vpn, vcl, ne_eq, bI_0, bI_1, bI_01, lit01, lit00, oI_s, oI_n, true_and, and_true, not_true_eq_false, not_false_eq_true, true_implies, false_implies, and_self, implies_true, forall_const, Bool.not_eq_false, Bool.not_eq_true, iu_s, iu_k1, iu_j1, ia_s1, ia_k1, lt2, lt3, lt5, lt6, lt7, lt8, lt9, lt10, lt11, lt12, lt15, lt16, lt17, lt20, lt30, lt32, lt48, lt57, lt71, lt80, lt97, lt98, lt108, lt110, lt126, lt191, lt200, lt227, lt681, lt65535, lt100000, decide_eq_true_eq, decide_eq_false_iff_not, Nat.le_refl, true_or, or_true, eq_self]
      exact hp I' hf (hI.congr hB hj)
    · intro k hk ih I' hf hj
      have e1 : I' (M + 1) k = I (M + 1) k := by rw [hf (M + 1) (by omega)]
      apply am_fold; rw [h_X5_begins_2]
      simp only [↓ap_cc, ↓ap_const, ↓ap_iload, ↓ap_aload, ↓ap_istore, ↓ap_astore, ↓ap_iinc, ↓ap_bin, ↓ap_idiv, ↓ap_i2c, ↓ap_dup, ↓ap_dup2, ↓ap_nn, ↓ap_ic, ↓ap_if, ↓ap_sw, ↓ap_head, ↓ap_getI, ↓ap_getR, ↓ap_putI, ↓ap_putN, ↓ap_putR, ↓ap_iald, ↓ap_cald, ↓ap_iast, ↓ap_cast, ↓ap_aald, ↓ap_aast, ↓ap_alen, ↓ap_stat, ↓ap_pop, ↓ap_mm, ↓ap_copy, ↓ap_ret, ↓ap_iret, ↓ap_zret, ↓ap_aret, ↓ap_retA, ↓ap_new, ↓ap_newa, ↓ap_callV, ↓ap_callS, ↓ap_callI, am_in, List.map_cons, List.map_nil, List.getElem?_cons_zero, List.getElem?_cons_succ, List.set_cons_zero, List.set_cons_succ, List.take_succ_cons, List.take_zero, List.drop_succ_cons, List.drop_zero, List.reverse_cons, List.reverse_nil, List.nil_append, List.cons_append, List.append_nil, List.length_cons, List.length_nil, List.replicate_succ, List.replicate_zero, Option.toList_some, Option.toList_none, true_and, and_true, Option.some.injEq, exists_eq_left', am_wI_mk, am_wA_mk, am_wR_mk, Nat.reduceAdd, Nat.reduceSub, Nat.reduceLeDiff, Nat.zero_add, Nat.le_refl, not_true_eq_false, not_false_eq_true, forall_const, false_implies, true_implies, implies_true, and_self, Prod.mk.injEq, eq_self, true_or, or_true, false_and, and_false, or_false, false_or, Nat.reduceEqDiff, ↓a_X5_begins_27, ↓a_X5_begins_2, ↓a_X5_begins_0, m0, m1, m2, n0, n1, arr1 m1]
      try simp (disch := omega) only [nm1, nm1', nsub1, np1, npd, nadd, n0m1, m1lt, nlt0, nge0, ngt0, nle0, nlt, nle, neq, neq0, m1n, m4n, vpn, vcl, ne_eq, bI_0, bI_1, bI_01, lit01, lit00, oI_s, oI_n, true_and, and_true, not_true_eq_false, not_false_eq_true, true_implies, false_implies, and_self, implies_true, forall_const, Bool.not_eq_false, Bool.not_eq_true, iu_s, iu_k1, iu_j1, ia_s1, ia_k1, lt2, lt3, lt5, lt6, lt7, lt8, lt9, lt10, lt11, lt12, lt15, lt16, lt17, lt20, lt30, lt32, lt48, lt57, lt71, lt80, lt97, lt98, lt108, lt110, lt126, lt191, lt200, lt227, lt681, lt65535, lt100000, decide_eq_true_eq, decide_eq_false_iff_not, Nat.le_refl, true_or, or_true, eq_self, e1]
      refine ⟨fun h => by omega, fun _ => ih _ (hf.u (by omega) (by omega)) (fun j hj2 => ?_)⟩
      by_cases hjk : j = k
      · subst hjk; rw [iu_s]
      · rw [iu_j1 hjk]; exact hj j (by omega)
  refine ⟨Nat.le_of_ble_eq_true rfl, am_fold ?_⟩; rw [h_X5_begins_0]
  simp only [↓ap_cc, ↓ap_const, ↓ap_iload, ↓ap_aload, ↓ap_istore, ↓ap_astore, ↓ap_iinc, ↓ap_bin, ↓ap_idiv, ↓ap_i2c, ↓ap_dup, ↓ap_dup2, ↓ap_nn, ↓ap_ic, ↓ap_if, ↓ap_sw, ↓ap_head, ↓ap_getI, ↓ap_getR, ↓ap_putI, ↓ap_putN, ↓ap_putR, ↓ap_iald, ↓ap_cald, ↓ap_iast, ↓ap_cast, ↓ap_aald, ↓ap_aast, ↓ap_alen, ↓ap_stat, ↓ap_pop, ↓ap_mm, ↓ap_copy, ↓ap_ret, ↓ap_iret, ↓ap_zret, ↓ap_aret, ↓ap_retA, ↓ap_new, ↓ap_newa, ↓ap_callV, ↓ap_callS, ↓ap_callI, am_in, List.map_cons, List.map_nil, List.getElem?_cons_zero, List.getElem?_cons_succ, List.set_cons_zero, List.set_cons_succ, List.take_succ_cons, List.take_zero, List.drop_succ_cons, List.drop_zero, List.reverse_cons, List.reverse_nil, List.nil_append, List.cons_append, List.append_nil, List.length_cons, List.length_nil, List.replicate_succ, List.replicate_zero, Option.toList_some, Option.toList_none, true_and, and_true, Option.some.injEq, exists_eq_left', am_wI_mk, am_wA_mk, am_wR_mk, Nat.reduceAdd, Nat.reduceSub, Nat.reduceLeDiff, Nat.zero_add, Nat.le_refl, not_true_eq_false, not_false_eq_true, forall_const, false_implies, true_implies, implies_true, and_self, Prod.mk.injEq, eq_self, true_or, or_true, false_and, and_false, or_false, false_or, Nat.reduceEqDiff, ↓a_X5_begins_27, ↓a_X5_begins_2, ↓a_X5_begins_0]
  exact l2 0 (by omega) I Fr.rfl (fun j hj => by omega)
theorem m_letsBack (hS : MoS S R M) (hI : RowI (I (M + 2)) a) (hB : LgB a) (hp : ∀ I', Fr (M + 1) (M + 1) I I' → RowI (I' (M + 1)) a → post none (S, I', R)) : sp_X5_letsBack [.inr M] (S, I, R) post := by
  obtain ⟨⟨m0, m1, m2, m3, -⟩, n0, n1, n2, -⟩ := id hS
  have l2 : ∀ k, k ≤ 227 → ∀ I', Fr (M + 1) (M + 1) I I' → (∀ j, j < k → I' (M + 1) j = I (M + 2) j) → am_OK h_X5_letsBack post 2 [some (.inr M), some (.inl (nI k))] (S, I', R) := by
    refine dn 227 ?_ ?_
    · intro I' hf hj
      apply am_fold; rw [h_X5_letsBack_2]
      simp only [↓ap_cc, ↓ap_const, ↓ap_iload, ↓ap_aload, ↓ap_istore, ↓ap_astore, ↓ap_iinc, ↓ap_bin, ↓ap_idiv, ↓ap_i2c, ↓ap_dup, ↓ap_dup2, ↓ap_nn, ↓ap_ic, ↓ap_if, ↓ap_sw, ↓ap_head, ↓ap_getI, ↓ap_getR, ↓ap_putI, ↓ap_putN, ↓ap_putR, ↓ap_iald, ↓ap_cald, ↓ap_iast, ↓ap_cast, ↓ap_aald, ↓ap_aast, ↓ap_alen, ↓ap_stat, ↓ap_pop, ↓ap_mm, ↓ap_copy, ↓ap_ret, ↓ap_iret, ↓ap_zret, ↓ap_aret, ↓ap_retA, ↓ap_new, ↓ap_newa, ↓ap_callV, ↓ap_callS, ↓ap_callI, am_in, List.map_cons, List.map_nil, List.getElem?_cons_zero, List.getElem?_cons_succ, List.set_cons_zero, List.set_cons_succ, List.take_succ_cons, List.take_zero, List.drop_succ_cons, List.drop_zero, List.reverse_cons, List.reverse_nil, List.nil_append, List.cons_append, List.append_nil, List.length_cons, List.length_nil, List.replicate_succ, List.replicate_zero, Option.toList_some, Option.toList_none, true_and, and_true, Option.some.injEq, exists_eq_left', am_wI_mk, am_wA_mk, am_wR_mk, Nat.reduceAdd, Nat.reduceSub, Nat.reduceLeDiff, Nat.zero_add, Nat.le_refl, not_true_eq_false, not_false_eq_true, forall_const, false_implies, true_implies, implies_true, and_self, Prod.mk.injEq, eq_self, true_or, or_true, false_and, and_false, or_false, false_or, Nat.reduceEqDiff, ↓a_X5_letsBack_27, ↓a_X5_letsBack_2, ↓a_X5_letsBack_0, m0, m1, m2, n0, n1]
      try simp (disch := omega) only [nm1, nm1', nsub1, np1, npd, nadd, n0m1, m1lt, nlt0, nge0, ngt0, nle0, nlt, nle, neq, neq0, m1n, m4n, vpn, vcl, ne_eq, bI_0, bI_1, bI_01, lit01, lit00, oI_s, oI_n, true_and, and_true, not_true_eq_false, not_false_eq_true, true_implies, false_implies, and_self, implies_true, forall_const, Bool.not_eq_false, Bool.not_eq_true, iu_s, iu_k1, iu_j1, ia_s1, ia_k1, lt2, lt3, lt5, lt6, lt7, lt8, lt9, lt10, lt11, lt12, lt15, lt16, lt17, lt20, lt30, lt32, lt48, lt57, lt71, lt80, lt97, lt98, lt108, lt110, lt126, lt191, lt200, lt227, lt681, lt65535, lt100000, decide_eq_true_eq, decide_eq_false_iff_not, Nat.le_refl, true_or, or_true, eq_self]
      exact hp I' hf (hI.congr hB hj)
    · intro k hk ih I' hf hj
      have e1 : I' (M + 2) k = I (M + 2) k := by rw [hf (M + 2) (by omega)]
      apply am_fold; rw [h_X5_letsBack_2]
      simp only [↓ap_cc, ↓ap_const, ↓ap_iload, ↓ap_aload, ↓ap_istore, ↓ap_astore, ↓ap_iinc, ↓ap_bin, ↓ap_idiv, ↓ap_i2c, ↓ap_dup, ↓ap_dup2, ↓ap_nn, ↓ap_ic, ↓ap_if, ↓ap_sw, ↓ap_head, ↓ap_getI, ↓ap_getR, ↓ap_putI, ↓ap_putN, ↓ap_putR, ↓ap_iald, ↓ap_cald, ↓ap_iast, ↓ap_cast, ↓ap_aald, ↓ap_aast, ↓ap_alen, ↓ap_stat, ↓ap_pop, ↓ap_mm, ↓ap_copy, ↓ap_ret, ↓ap_iret, ↓ap_zret, ↓ap_aret, ↓ap_retA, ↓ap_new, ↓ap_newa, ↓ap_callV, ↓ap_callS, ↓ap_callI, am_in, List.map_cons, List.map_nil, List.getElem?_cons_zero, List.getElem?_cons_succ, List.set_cons_zero, List.set_cons_succ, List.take_succ_cons, List.take_zero, List.drop_succ_cons, List.drop_zero, List.reverse_cons, List.reverse_nil, List.nil_append, List.cons_append, List.append_nil, List.length_cons, List.length_nil, List.replicate_succ, List.replicate_zero, Option.toList_some, Option.toList_none, true_and, and_true, Option.some.injEq, exists_eq_left', am_wI_mk, am_wA_mk, am_wR_mk, Nat.reduceAdd, Nat.reduceSub, Nat.reduceLeDiff, Nat.zero_add, Nat.le_refl, not_true_eq_false, not_false_eq_true, forall_const, false_implies, true_implies, implies_true, and_self, Prod.mk.injEq, eq_self, true_or, or_true, false_and, and_false, or_false, false_or, Nat.reduceEqDiff, ↓a_X5_letsBack_27, ↓a_X5_letsBack_2, ↓a_X5_letsBack_0, m0, m1, m2, n0, n1, arr1 m2]
      try simp (disch := omega) only [nm1, nm1', nsub1, np1, npd, nadd, n0m1, m1lt, nlt0, nge0, ngt0, nle0, nlt, nle, neq, neq0, m1n, m4n, vpn, vcl, ne_eq, bI_0, bI_1, bI_01, lit01, lit00, oI_s, oI_n, true_and, and_true, not_true_eq_false, not_false_eq_true, true_implies, false_implies, and_self, implies_true, forall_const, Bool.not_eq_false, Bool.not_eq_true, iu_s, iu_k1, iu_j1, ia_s1, ia_k1, lt2, lt3, lt5, lt6, lt7, lt8, lt9, lt10, lt11, lt12, lt15, lt16, lt17, lt20, lt30, lt32, lt48, lt57, lt71, lt80, lt97, lt98, lt108, lt110, lt126, lt191, lt200, lt227, lt681, lt65535, lt100000, decide_eq_true_eq, decide_eq_false_iff_not, Nat.le_refl, true_or, or_true, eq_self, e1]
      refine ⟨fun h => by omega, fun _ => ih _ (hf.u (by omega) (by omega)) (fun j hj2 => ?_)⟩
      by_cases hjk : j = k
      · subst hjk; rw [iu_s]
      · rw [iu_j1 hjk]; exact hj j (by omega)
  refine ⟨Nat.le_of_ble_eq_true rfl, am_fold ?_⟩; rw [h_X5_letsBack_0]
  simp only [↓ap_cc, ↓ap_const, ↓ap_iload, ↓ap_aload, ↓ap_istore, ↓ap_astore, ↓ap_iinc, ↓ap_bin, ↓ap_idiv, ↓ap_i2c, ↓ap_dup, ↓ap_dup2, ↓ap_nn, ↓ap_ic, ↓ap_if, ↓ap_sw, ↓ap_head, ↓ap_getI, ↓ap_getR, ↓ap_putI, ↓ap_putN, ↓ap_putR, ↓ap_iald, ↓ap_cald, ↓ap_iast, ↓ap_cast, ↓ap_aald, ↓ap_aast, ↓ap_alen, ↓ap_stat, ↓ap_pop, ↓ap_mm, ↓ap_copy, ↓ap_ret, ↓ap_iret, ↓ap_zret, ↓ap_aret, ↓ap_retA, ↓ap_new, ↓ap_newa, ↓ap_callV, ↓ap_callS, ↓ap_callI, am_in, List.map_cons, List.map_nil, List.getElem?_cons_zero, List.getElem?_cons_succ, List.set_cons_zero, List.set_cons_succ, List.take_succ_cons, List.take_zero, List.drop_succ_cons, List.drop_zero, List.reverse_cons, List.reverse_nil, List.nil_append, List.cons_append, List.append_nil, List.length_cons, List.length_nil, List.replicate_succ, List.replicate_zero, Option.toList_some, Option.toList_none, true_and, and_true, Option.some.injEq, exists_eq_left', am_wI_mk, am_wA_mk, am_wR_mk, Nat.reduceAdd, Nat.reduceSub, Nat.reduceLeDiff, Nat.zero_add, Nat.le_refl, not_true_eq_false, not_false_eq_true, forall_const, false_implies, true_implies, implies_true, and_self, Prod.mk.injEq, eq_self, true_or, or_true, false_and, and_false, or_false, false_or, Nat.reduceEqDiff, ↓a_X5_letsBack_27, ↓a_X5_letsBack_2, ↓a_X5_letsBack_0]
  exact l2 0 (by omega) I Fr.rfl (fun j hj => by omega)
theorem m_adds {τ p x y : Nat} (hS : MoS S R M) (hI : RowI (I (M + 1)) a) (hB : LgB a) (hn : gn a < 30) (hp : ∀ I', Fr (M + 1) (M + 1) I I' → RowI (I' (M + 1)) (aL a τ p x y) → post none (S, I', R)) : sp_X5_adds [.inr M, .inl (nI τ), .inl (nI p), .inl (nI x), .inl (nI y)] (S, I, R) post := by
  obtain ⟨⟨m0, m1, m2, m3, -⟩, n0, n1, n2, -⟩ := id hS
  have bt := hB.t
  have bk := hB.k
  refine ⟨Nat.le_of_ble_eq_true rfl, am_fold ?_⟩; rw [h_X5_adds_0]
  simp only [↓ap_cc, ↓ap_const, ↓ap_iload, ↓ap_aload, ↓ap_istore, ↓ap_astore, ↓ap_iinc, ↓ap_bin, ↓ap_idiv, ↓ap_i2c, ↓ap_dup, ↓ap_dup2, ↓ap_nn, ↓ap_ic, ↓ap_if, ↓ap_sw, ↓ap_head, ↓ap_getI, ↓ap_getR, ↓ap_putI, ↓ap_putN, ↓ap_putR, ↓ap_iald, ↓ap_cald, ↓ap_iast, ↓ap_cast, ↓ap_aald, ↓ap_aast, ↓ap_alen, ↓ap_stat, ↓ap_pop, ↓ap_mm, ↓ap_copy, ↓ap_ret, ↓ap_iret, ↓ap_zret, ↓ap_aret, ↓ap_retA, ↓ap_new, ↓ap_newa, ↓ap_callV, ↓ap_callS, ↓ap_callI, am_in, List.map_cons, List.map_nil, List.getElem?_cons_zero, List.getElem?_cons_succ, List.set_cons_zero, List.set_cons_succ, List.take_succ_cons, List.take_zero, List.drop_succ_cons, List.drop_zero, List.reverse_cons, List.reverse_nil, List.nil_append, List.cons_append, List.append_nil, List.length_cons, List.length_nil, List.replicate_succ, List.replicate_zero, Option.toList_some, Option.toList_none, true_and, and_true, Option.some.injEq, exists_eq_left', am_wI_mk, am_wA_mk, am_wR_mk, Nat.reduceAdd, Nat.reduceSub, Nat.reduceLeDiff, Nat.zero_add, Nat.le_refl, not_true_eq_false, not_false_eq_true, forall_const, false_implies, true_implies, implies_true, and_self, Prod.mk.injEq, eq_self, true_or, or_true, false_and, and_false, or_false, false_or, Nat.reduceEqDiff, ↓a_X5_adds_0, m0, m1, n0, arr1 m1]
  simp (disch := omega) only [iu_j1, iu_k1, iu_s, lt9, lt71, lt4, lt2, lt3, vpn, vcl, hI.n, nmul, nadd, np1, Int32.add_zero, true_and]
  refine hp _ (((((Fr.rfl.u (by omega) (by omega)).u (by omega) (by omega)).u (by omega) (by omega)).u (by omega) (by omega)).u (by omega) (by omega)) (RowI.mk ?_ ?_ ?_ (fun j w hj hw => ?_) (fun j w hj hw => ?_) (fun j w hj hw => ?_) (fun j hj => ?_) (fun j hj => ?_))
  · simp (disch := omega) only [iu_j1, iu_s]; exact hI.t
  · simp (disch := omega) only [iu_j1, iu_s]; rfl
  · simp (disch := omega) only [iu_j1, iu_s]; exact hI.k
  · rw [aL_t] at hj; simp (disch := omega) only [iu_j1, iu_s]; exact hI.T hj hw
  · rw [aL_n] at hj
    simp only [aL_L]
    by_cases hjn : j = gn a
    · subst hjn
      rcases (by omega : w = 0 ∨ w = 1 ∨ w = 2 ∨ w = 3) with rfl | rfl | rfl | rfl
      · simp (disch := omega) only [iu_j1, iu_s, Nat.add_zero]; rfl
      · simp (disch := omega) only [iu_j1, iu_s]; rfl
      · simp (disch := omega) only [iu_j1, iu_s]; rfl
      · simp (disch := omega) only [iu_j1, iu_s]; rfl
    · rw [if_neg hjn]; simp (disch := omega) only [iu_j1, iu_s]; exact hI.L (by omega) hw
  · rw [aL_k] at hj; simp (disch := omega) only [iu_j1, iu_s]; exact hI.F hj hw
  · rw [aL_k] at hj; simp (disch := omega) only [iu_j1, iu_s]; exact hI.F2 hj
  · simp (disch := omega) only [iu_j1, iu_s]; exact hI.s hj
theorem m_tells {k l e : Nat} {x : Int32} (hS : MoS S R M) (hI : RowI (I (M + 1)) a) (hB : LgB a) (hk : gk a < 12) (hk3 : k < 3) (hx : k ≠ 0 → x = nI e) (hp : ∀ I', Fr (M + 1) (M + 1) I I' → RowI (I' (M + 1)) (aF a k l e) → post none (S, I', R)) : sp_X5_tells [.inr M, .inl (nI k), .inl (nI l), .inl x] (S, I, R) post := by
  obtain ⟨⟨m0, m1, m2, m3, -⟩, n0, n1, n2, -⟩ := id hS
  have bt := hB.t
  have bn := hB.n
  have fin : ∀ (z : Int32) (o : Option am_V), z = (if k = 0 then -4 else nI e) → t_X5_tells_51 [some (.inr M), some (.inl (nI k)), some (.inl (nI l)), some (.inl x), o] [.inl z, .inl (nI (191 + 3 * gk a + 2)), .inr (M + 1)] (S, am_u (am_u I (M + 1) (191 + 3 * gk a) (nI k)) (M + 1) (191 + 3 * gk a + 1) (nI l), R) (am_OK h_X5_tells post) post := by
    intro z o hz
    simp only [↓a_X5_tells_51]
    simp only [↓ap_cc, ↓ap_const, ↓ap_iload, ↓ap_aload, ↓ap_istore, ↓ap_astore, ↓ap_iinc, ↓ap_bin, ↓ap_idiv, ↓ap_i2c, ↓ap_dup, ↓ap_dup2, ↓ap_nn, ↓ap_ic, ↓ap_if, ↓ap_sw, ↓ap_head, ↓ap_getI, ↓ap_getR, ↓ap_putI, ↓ap_putN, ↓ap_putR, ↓ap_iald, ↓ap_cald, ↓ap_iast, ↓ap_cast, ↓ap_aald, ↓ap_aast, ↓ap_alen, ↓ap_stat, ↓ap_pop, ↓ap_mm, ↓ap_copy, ↓ap_ret, ↓ap_iret, ↓ap_zret, ↓ap_aret, ↓ap_retA, ↓ap_new, ↓ap_newa, ↓ap_callV, ↓ap_callS, ↓ap_callI, am_in, List.map_cons, List.map_nil, List.getElem?_cons_zero, List.getElem?_cons_succ, List.set_cons_zero, List.set_cons_succ, List.take_succ_cons, List.take_zero, List.drop_succ_cons, List.drop_zero, List.reverse_cons, List.reverse_nil, List.nil_append, List.cons_append, List.append_nil, List.length_cons, List.length_nil, List.replicate_succ, List.replicate_zero, Option.toList_some, Option.toList_none, true_and, and_true, Option.some.injEq, exists_eq_left', am_wI_mk, am_wA_mk, am_wR_mk, Nat.reduceAdd, Nat.reduceSub, Nat.reduceLeDiff, Nat.zero_add, Nat.le_refl, not_true_eq_false, not_false_eq_true, forall_const, false_implies, true_implies, implies_true, and_self, Prod.mk.injEq, eq_self, true_or, or_true, false_and, and_false, or_false, false_or, Nat.reduceEqDiff, m0, m1, n0, arr1 m1]
    simp (disch := omega) only [iu_j1, iu_k1, iu_s, lt10, vpn, vcl, hI.k, nmul, nadd, np1, true_and]
    refine hp _ ((((Fr.rfl.u (by omega) (by omega)).u (by omega) (by omega)).u (by omega) (by omega)).u (by omega) (by omega)) (RowI.mk ?_ ?_ ?_ (fun j w hj hw => ?_) (fun j w hj hw => ?_) (fun j w hj hw => ?_) (fun j hj => ?_) (fun j hj => ?_))
    · simp (disch := omega) only [iu_j1, iu_s]; exact hI.t
    · simp (disch := omega) only [iu_j1, iu_s]; exact hI.n
    · simp (disch := omega) only [iu_j1, iu_s]; rfl
    · rw [aF_t] at hj; simp (disch := omega) only [iu_j1, iu_s]; exact hI.T hj hw
    · rw [aF_n] at hj; simp (disch := omega) only [iu_j1, iu_s]; exact hI.L hj hw
    · rw [aF_k] at hj
      simp only [aF_F]
      by_cases hjn : j = gk a
      · subst hjn
        rcases (by omega : w = 0 ∨ w = 1) with rfl | rfl
        · simp (disch := omega) only [iu_j1, iu_s, Nat.add_zero]; rfl
        · simp (disch := omega) only [iu_j1, iu_s]; rfl
      · rw [if_neg hjn]; simp (disch := omega) only [iu_j1, iu_s]; exact hI.F (by omega) hw
    · rw [aF_k] at hj
      rw [aF_e]
      by_cases hjn : j = gk a
      · subst hjn; simp (disch := omega) only [iu_j1, iu_s]; rw [if_pos trivial]; exact hz
      · rw [if_neg hjn]; simp (disch := omega) only [iu_j1, iu_s]; exact hI.F2 (by omega)
    · simp (disch := omega) only [iu_j1, iu_s]; exact hI.s hj
  refine ⟨Nat.le_of_ble_eq_true rfl, am_fold ?_⟩; rw [h_X5_tells_0]
  simp only [↓ap_cc, ↓ap_const, ↓ap_iload, ↓ap_aload, ↓ap_istore, ↓ap_astore, ↓ap_iinc, ↓ap_bin, ↓ap_idiv, ↓ap_i2c, ↓ap_dup, ↓ap_dup2, ↓ap_nn, ↓ap_ic, ↓ap_if, ↓ap_sw, ↓ap_head, ↓ap_getI, ↓ap_getR, ↓ap_putI, ↓ap_putN, ↓ap_putR, ↓ap_iald, ↓ap_cald, ↓ap_iast, ↓ap_cast, ↓ap_aald, ↓ap_aast, ↓ap_alen, ↓ap_stat, ↓ap_pop, ↓ap_mm, ↓ap_copy, ↓ap_ret, ↓ap_iret, ↓ap_zret, ↓ap_aret, ↓ap_retA, ↓ap_new, ↓ap_newa, ↓ap_callV, ↓ap_callS, ↓ap_callI, am_in, List.map_cons, List.map_nil, List.getElem?_cons_zero, List.getElem?_cons_succ, List.set_cons_zero, List.set_cons_succ, List.take_succ_cons, List.take_zero, List.drop_succ_cons, List.drop_zero, List.reverse_cons, List.reverse_nil, List.nil_append, List.cons_append, List.append_nil, List.length_cons, List.length_nil, List.replicate_succ, List.replicate_zero, Option.toList_some, Option.toList_none, true_and, and_true, Option.some.injEq, exists_eq_left', am_wI_mk, am_wA_mk, am_wR_mk, Nat.reduceAdd, Nat.reduceSub, Nat.reduceLeDiff, Nat.zero_add, Nat.le_refl, not_true_eq_false, not_false_eq_true, forall_const, false_implies, true_implies, implies_true, and_self, Prod.mk.injEq, eq_self, true_or, or_true, false_and, and_false, or_false, false_or, Nat.reduceEqDiff, ↓a_X5_tells_0, ↓a_X5_tells_50, m0, m1, n0, arr1 m1]
  simp (disch := omega) only [iu_j1, iu_k1, iu_s, lt10, lt191, lt2, lt3, vpn, vcl, hI.k, nmul, nadd, np1, neq0, ne_eq, true_and]
  refine ⟨fun h => fin _ _ ?_, fun h => fin _ _ ?_⟩
  · rw [if_neg h]; exact hx h
  · rw [if_pos (Classical.byContradiction h)]
theorem m_goes {x : Nat} (hSr : S[r]? = some (1, 227)) (hI : RowI (I r) a) (hB : LgB a) (hx : x < gk a) (hp : ∀ I', Fr r r I I' → RowI (I' r) (rmF a x) → post none (S, I', R)) : sp_X5_goes [.inr r, .inl (nI x)] (S, I, R) post := by
  have bt := hB.t
  have bn := hB.n
  have bk := hB.k
  have l16 : ∀ k, k ≤ 191 + 3 * (gk a - 1) → ∀ I', 191 + 3 * x ≤ k → Fr r r I I' → (∀ j, I' r j = if j = 10 then nI (gk a - 1) else if 191 + 3 * x ≤ j ∧ j < k then I r (j + 3) else I r j) → am_OK h_X5_goes post 16 [some (.inr r), some (.inl (nI x)), some (.inl (nI k))] (S, I', R) := by
    refine dn (191 + 3 * (gk a - 1)) ?_ ?_
    · intro I' hk hf hj
      have e10 : I' r 10 = nI (gk a - 1) := by rw [hj, if_pos rfl]
      apply am_fold; rw [h_X5_goes_16]
      simp only [↓ap_cc, ↓ap_const, ↓ap_iload, ↓ap_aload, ↓ap_istore, ↓ap_astore, ↓ap_iinc, ↓ap_bin, ↓ap_idiv, ↓ap_i2c, ↓ap_dup, ↓ap_dup2, ↓ap_nn, ↓ap_ic, ↓ap_if, ↓ap_sw, ↓ap_head, ↓ap_getI, ↓ap_getR, ↓ap_putI, ↓ap_putN, ↓ap_putR, ↓ap_iald, ↓ap_cald, ↓ap_iast, ↓ap_cast, ↓ap_aald, ↓ap_aast, ↓ap_alen, ↓ap_stat, ↓ap_pop, ↓ap_mm, ↓ap_copy, ↓ap_ret, ↓ap_iret, ↓ap_zret, ↓ap_aret, ↓ap_retA, ↓ap_new, ↓ap_newa, ↓ap_callV, ↓ap_callS, ↓ap_callI, am_in, List.map_cons, List.map_nil, List.getElem?_cons_zero, List.getElem?_cons_succ, List.set_cons_zero, List.set_cons_succ, List.take_succ_cons, List.take_zero, List.drop_succ_cons, List.drop_zero, List.reverse_cons, List.reverse_nil, List.nil_append, List.cons_append, List.append_nil, List.length_cons, List.length_nil, List.replicate_succ, List.replicate_zero, Option.toList_some, Option.toList_none, true_and, and_true, Option.some.injEq, exists_eq_left', am_wI_mk, am_wA_mk, am_wR_mk, Nat.reduceAdd, Nat.reduceSub, Nat.reduceLeDiff, Nat.zero_add, Nat.le_refl, not_true_eq_false, not_false_eq_true, forall_const, false_implies, true_implies, implies_true, and_self, Prod.mk.injEq, eq_self, true_or, or_true, false_and, and_false, or_false, false_or, Nat.reduceEqDiff, ↓a_X5_goes_44, ↓a_X5_goes_16, ↓a_X5_goes_0, hSr, arr1 hSr]
      try simp (disch := omega) only [nm1, nm1', nsub1, np1, npd, nadd, n0m1, m1lt, nlt0, nge0, ngt0, nle0, nlt, nle, neq, neq0, m1n, m4n, vpn, vcl, ne_eq, bI_0, bI_1, bI_01, lit01, lit00, oI_s, oI_n, true_and, and_true, not_true_eq_false, not_false_eq_true, true_implies, false_implies, and_self, implies_true, forall_const, Bool.not_eq_false, Bool.not_eq_true, iu_s, iu_k1, iu_j1, ia_s1, ia_k1, lt2, lt3, lt5, lt6, lt7, lt8, lt9, lt10, lt11, lt12, lt15, lt16, lt17, lt20, lt30, lt32, lt48, lt57, lt71, lt80, lt97, lt98, lt108, lt110, lt126, lt191, lt200, lt227, lt681, lt65535, lt100000, decide_eq_true_eq, decide_eq_false_iff_not, Nat.le_refl, true_or, or_true, eq_self, e10, nmul]
      refine hp I' hf (RowI.mk ?_ ?_ ?_ (fun j w hj2 hw => ?_) (fun j w hj2 hw => ?_) (fun j w hj2 hw => ?_) (fun j hj2 => ?_) (fun j hj2 => ?_))
      · rw [hj, if_neg (by omega), if_neg (by omega)]; exact hI.t
      · rw [hj, if_neg (by omega), if_neg (by omega)]; exact hI.n
      · exact e10
      · rw [rmF_t] at hj2; rw [hj, if_neg (by omega), if_neg (by omega)]; exact hI.T hj2 hw
      · rw [rmF_n] at hj2; rw [hj, if_neg (by omega), if_neg (by omega)]; exact hI.L hj2 hw
      · rw [rmF_k] at hj2
        simp only [rmF_F]
        rw [hj, if_neg (by omega)]
        by_cases hjx : j < x
        · rw [if_neg (by omega), if_pos hjx]; exact hI.F (by omega) hw
        · rw [if_pos (by omega), if_neg hjx, show 191 + 3 * j + w + 3 = 191 + 3 * (j + 1) + w by omega]; exact hI.F (by omega) hw
      · rw [rmF_k] at hj2
        rw [rmF_e, hj, if_neg (by omega)]
        by_cases hjx : j < x
        · rw [if_neg (by omega), if_pos hjx]; exact hI.F2 (by omega)
        · rw [if_pos (by omega), if_neg hjx, show 191 + 3 * j + 2 + 3 = 191 + 3 * (j + 1) + 2 by omega]; exact hI.F2 (by omega)
      · rw [hj, if_neg (by omega), if_neg (by omega)]; exact hI.s hj2
    · intro k hk ih I' hxk hf hj
      have e10 : I' r 10 = nI (gk a - 1) := by rw [hj, if_pos rfl]
      have e1 : I' r (k + 3) = I r (k + 3) := by rw [hj, if_neg (by omega), if_neg (by omega)]
      apply am_fold; rw [h_X5_goes_16]
      simp only [↓ap_cc, ↓ap_const, ↓ap_iload, ↓ap_aload, ↓ap_istore, ↓ap_astore, ↓ap_iinc, ↓ap_bin, ↓ap_idiv, ↓ap_i2c, ↓ap_dup, ↓ap_dup2, ↓ap_nn, ↓ap_ic, ↓ap_if, ↓ap_sw, ↓ap_head, ↓ap_getI, ↓ap_getR, ↓ap_putI, ↓ap_putN, ↓ap_putR, ↓ap_iald, ↓ap_cald, ↓ap_iast, ↓ap_cast, ↓ap_aald, ↓ap_aast, ↓ap_alen, ↓ap_stat, ↓ap_pop, ↓ap_mm, ↓ap_copy, ↓ap_ret, ↓ap_iret, ↓ap_zret, ↓ap_aret, ↓ap_retA, ↓ap_new, ↓ap_newa, ↓ap_callV, ↓ap_callS, ↓ap_callI, am_in, List.map_cons, List.map_nil, List.getElem?_cons_zero, List.getElem?_cons_succ, List.set_cons_zero, List.set_cons_succ, List.take_succ_cons, List.take_zero, List.drop_succ_cons, List.drop_zero, List.reverse_cons, List.reverse_nil, List.nil_append, List.cons_append, List.append_nil, List.length_cons, List.length_nil, List.replicate_succ, List.replicate_zero, Option.toList_some, Option.toList_none, true_and, and_true, Option.some.injEq, exists_eq_left', am_wI_mk, am_wA_mk, am_wR_mk, Nat.reduceAdd, Nat.reduceSub, Nat.reduceLeDiff, Nat.zero_add, Nat.le_refl, not_true_eq_false, not_false_eq_true, forall_const, false_implies, true_implies, implies_true, and_self, Prod.mk.injEq, eq_self, true_or, or_true, false_and, and_false, or_false, false_or, Nat.reduceEqDiff, ↓a_X5_goes_44, ↓a_X5_goes_16, ↓a_X5_goes_0, hSr, arr1 hSr]
      try simp (disch := omega) only [nm1, nm1', nsub1, np1, npd, nadd, n0m1, m1lt, nlt0, nge0, ngt0, nle0, nlt, nle, neq, neq0, m1n, m4n, vpn, vcl, ne_eq, bI_0, bI_1, bI_01, lit01, lit00, oI_s, oI_n, true_and, and_true, not_true_eq_false, not_false_eq_true, true_implies, false_implies, and_self, implies_true, forall_const, Bool.not_eq_false, Bool.not_eq_true, iu_s, iu_k1, iu_j1, ia_s1, ia_k1, lt2, lt3, lt5, lt6, lt7, lt8, lt9, lt10, lt11, lt12, lt15, lt16, lt17, lt20, lt30, lt32, lt48, lt57, lt71, lt80, lt97, lt98, lt108, lt110, lt126, lt191, lt200, lt227, lt681, lt65535, lt100000, decide_eq_true_eq, decide_eq_false_iff_not, Nat.le_refl, true_or, or_true, eq_self, e10, e1, nmul]
      refine ⟨fun h => by omega, fun _ => ih _ (by omega) (hf.u (by omega) (by omega)) (fun j => ?_)⟩
      rw [iu_i]
      by_cases hjk : j = k
      · subst hjk; rw [if_pos rfl, if_neg (by omega), if_pos (by omega)]
      · rw [if_neg hjk, hj]
        by_cases h1 : j = 10
        · rw [if_pos h1, if_pos h1]
        · rw [if_neg h1, if_neg h1]
          by_cases h2 : 191 + 3 * x ≤ j ∧ j < k
          · rw [if_pos h2, if_pos (by omega)]
          · rw [if_neg h2, if_neg (by omega)]
  refine ⟨Nat.le_of_ble_eq_true rfl, am_fold ?_⟩; rw [h_X5_goes_0]
  simp only [↓ap_cc, ↓ap_const, ↓ap_iload, ↓ap_aload, ↓ap_istore, ↓ap_astore, ↓ap_iinc, ↓ap_bin, ↓ap_idiv, ↓ap_i2c, ↓ap_dup, ↓ap_dup2, ↓ap_nn, ↓ap_ic, ↓ap_if, ↓ap_sw, ↓ap_head, ↓ap_getI, ↓ap_getR, ↓ap_putI, ↓ap_putN, ↓ap_putR, ↓ap_iald, ↓ap_cald, ↓ap_iast, ↓ap_cast, ↓ap_aald, ↓ap_aast, ↓ap_alen, ↓ap_stat, ↓ap_pop, ↓ap_mm, ↓ap_copy, ↓ap_ret, ↓ap_iret, ↓ap_zret, ↓ap_aret, ↓ap_retA, ↓ap_new, ↓ap_newa, ↓ap_callV, ↓ap_callS, ↓ap_callI, am_in, List.map_cons, List.map_nil, List.getElem?_cons_zero, List.getElem?_cons_succ, List.set_cons_zero, List.set_cons_succ, List.take_succ_cons, List.take_zero, List.drop_succ_cons, List.drop_zero, List.reverse_cons, List.reverse_nil, List.nil_append, List.cons_append, List.append_nil, List.length_cons, List.length_nil, List.replicate_succ, List.replicate_zero, Option.toList_some, Option.toList_none, true_and, and_true, Option.some.injEq, exists_eq_left', am_wI_mk, am_wA_mk, am_wR_mk, Nat.reduceAdd, Nat.reduceSub, Nat.reduceLeDiff, Nat.zero_add, Nat.le_refl, not_true_eq_false, not_false_eq_true, forall_const, false_implies, true_implies, implies_true, and_self, Prod.mk.injEq, eq_self, true_or, or_true, false_and, and_false, or_false, false_or, Nat.reduceEqDiff, ↓a_X5_goes_44, ↓a_X5_goes_16, ↓a_X5_goes_0, hSr, arr1 hSr]
  try simp (disch := omega) only [nm1, nm1', nsub1, np1, npd, nadd, n0m1, m1lt, nlt0, nge0, ngt0, nle0, nlt, nle, neq, neq0, m1n, m4n, vpn, vcl, ne_eq, bI_0, bI_1, bI_01, lit01, lit00, oI_s, oI_n, true_and, and_true, not_true_eq_false, not_false_eq_true, true_implies, false_implies, and_self, implies_true, forall_const, Bool.not_eq_false, Bool.not_eq_true, iu_s, iu_k1, iu_j1, ia_s1, ia_k1, lt2, lt3, lt5, lt6, lt7, lt8, lt9, lt10, lt11, lt12, lt15, lt16, lt17, lt20, lt30, lt32, lt48, lt57, lt71, lt80, lt97, lt98, lt108, lt110, lt126, lt191, lt200, lt227, lt681, lt65535, lt100000, decide_eq_true_eq, decide_eq_false_iff_not, Nat.le_refl, true_or, or_true, eq_self, hI.k, nmul]
  refine l16 (191 + 3 * x) (by omega) _ (by omega) (Fr.rfl.u (by omega) (by omega)) (fun j => ?_)
  rw [iu_i]
  by_cases h1 : j = 10
  · rw [if_pos h1, if_pos h1]
  · rw [if_neg h1, if_neg h1, if_neg (by omega)]
theorem m_drops {x : Nat} (hSr : S[r]? = some (1, 227)) (hI : RowI (I r) a) (hB : LgB a) (hx : x < gn a) (hp : ∀ I', Fr r r I I' → RowI (I' r) (dropL a x) → post none (S, I', R)) : sp_X5_drops [.inr r, .inl (nI x)] (S, I, R) post := by
  have bt := hB.t
  have bn := hB.n
  have l53 : ∀ b : Lg, LgB b → gn b = gn a → dropL a x = lsN (shL (renF b x (gk b)) x (gn a)) (gn a - 1) → ∀ i, i ≤ gk b → ∀ I' (o : Option am_V), RowI (I' r) (renF b x i) → Fr r r I I' → am_OK h_X5_drops post 53 [some (.inr r), some (.inl (nI x)), some (.inl (nI i)), o] (S, I', R) := by
    intro b hBb hbn hb
    have bk := hBb.k
    have bT := hBb.t
    refine dn (gk b) ?_ ?_
    · intro I' o hI hf
      have e10 : I' r 10 = nI (gk b) := hI.k
      have e9 : I' r 9 = nI (gn a) := by rw [hI.n]; exact congrArg nI hbn
      have hBr : LgB (renF b x (gk b)) ∨ True := Or.inr trivial
      apply am_fold; rw [h_X5_drops_53]
      simp only [↓ap_cc, ↓ap_const, ↓ap_iload, ↓ap_aload, ↓ap_istore, ↓ap_astore, ↓ap_iinc, ↓ap_bin, ↓ap_idiv, ↓ap_i2c, ↓ap_dup, ↓ap_dup2, ↓ap_nn, ↓ap_ic, ↓ap_if, ↓ap_sw, ↓ap_head, ↓ap_getI, ↓ap_getR, ↓ap_putI, ↓ap_putN, ↓ap_putR, ↓ap_iald, ↓ap_cald, ↓ap_iast, ↓ap_cast, ↓ap_aald, ↓ap_aast, ↓ap_alen, ↓ap_stat, ↓ap_pop, ↓ap_mm, ↓ap_copy, ↓ap_ret, ↓ap_iret, ↓ap_zret, ↓ap_aret, ↓ap_retA, ↓ap_new, ↓ap_newa, ↓ap_callV, ↓ap_callS, ↓ap_callI, am_in, List.map_cons, List.map_nil, List.getElem?_cons_zero, List.getElem?_cons_succ, List.set_cons_zero, List.set_cons_succ, List.take_succ_cons, List.take_zero, List.drop_succ_cons, List.drop_zero, List.reverse_cons, List.reverse_nil, List.nil_append, List.cons_append, List.append_nil, List.length_cons, List.length_nil, List.replicate_succ, List.replicate_zero, Option.toList_some, Option.toList_none, true_and, and_true, Option.some.injEq, exists_eq_left', am_wI_mk, am_wA_mk, am_wR_mk, Nat.reduceAdd, Nat.reduceSub, Nat.reduceLeDiff, Nat.zero_add, Nat.le_refl, not_true_eq_false, not_false_eq_true, forall_const, false_implies, true_implies, implies_true, and_self, Prod.mk.injEq, eq_self, true_or, or_true, false_and, and_false, or_false, false_or, Nat.reduceEqDiff, ↓a_X5_drops_53, ↓a_X5_drops_119, hSr, arr1 hSr]
      try simp (disch := omega) only [nm1, nm1', nsub1, np1, npd, nadd, n0m1, m1lt, nlt0, nge0, ngt0, nle0, nlt, nle, neq, neq0, m1n, m4n, vpn, vcl, ne_eq, bI_0, bI_1, bI_01, lit01, lit00, oI_s, oI_n, true_and, and_true, not_true_eq_false, not_false_eq_true, true_implies, false_implies, and_self, implies_true, forall_const, Bool.not_eq_false, Bool.not_eq_true, iu_s, iu_k1, iu_j1, ia_s1, ia_k1, lt2, lt3, lt5, lt6, lt7, lt8, lt9, lt10, lt11, lt12, lt15, lt16, lt17, lt20, lt30, lt32, lt48, lt57, lt71, lt80, lt97, lt98, lt108, lt110, lt126, lt191, lt200, lt227, lt681, lt65535, lt100000, decide_eq_true_eq, decide_eq_false_iff_not, Nat.le_refl, true_or, or_true, eq_self, lt4, e10, e9, nmul]
      -- what is shifted has the bounds that count here
      have key : ∀ k, k ≤ 71 + 4 * (gn a - 1) → ∀ I2 (o : Option am_V), 71 + 4 * x ≤ k → Fr r r I I2 → (∀ j, I2 r j = if j = 9 then nI (gn a - 1) else if 71 + 4 * x ≤ j ∧ j < k then I' r (j + 4) else I' r j) → am_OK h_X5_drops post 134 [some (.inr r), some (.inl (nI x)), some (.inl (nI k)), o] (S, I2, R) := by
        have hB2 : ∀ c : Lg, gt c = gt b → gn c = gn b → gk c = gk b → RowI (I' r) c → dropL a x = lsN (shL c x (gn a)) (gn a - 1) → ∀ k, k ≤ 71 + 4 * (gn a - 1) → ∀ I2 (o : Option am_V), 71 + 4 * x ≤ k → Fr r r I I2 → (∀ j, I2 r j = if j = 9 then nI (gn a - 1) else if 71 + 4 * x ≤ j ∧ j < k then I' r (j + 4) else I' r j) → am_OK h_X5_drops post 134 [some (.inr r), some (.inl (nI x)), some (.inl (nI k)), o] (S, I2, R) := by
          intro c c1 c2 c3 hIc hbc
          refine dn (71 + 4 * (gn a - 1)) ?_ ?_
          · intro I2 o hk hf hj
            have e9 : I2 r 9 = nI (gn a - 1) := by rw [hj, if_pos rfl]
            apply am_fold; rw [h_X5_drops_134]
            simp only [↓ap_cc, ↓ap_const, ↓ap_iload, ↓ap_aload, ↓ap_istore, ↓ap_astore, ↓ap_iinc, ↓ap_bin, ↓ap_idiv, ↓ap_i2c, ↓ap_dup, ↓ap_dup2, ↓ap_nn, ↓ap_ic, ↓ap_if, ↓ap_sw, ↓ap_head, ↓ap_getI, ↓ap_getR, ↓ap_putI, ↓ap_putN, ↓ap_putR, ↓ap_iald, ↓ap_cald, ↓ap_iast, ↓ap_cast, ↓ap_aald, ↓ap_aast, ↓ap_alen, ↓ap_stat, ↓ap_pop, ↓ap_mm, ↓ap_copy, ↓ap_ret, ↓ap_iret, ↓ap_zret, ↓ap_aret, ↓ap_retA, ↓ap_new, ↓ap_newa, ↓ap_callV, ↓ap_callS, ↓ap_callI, am_in, List.map_cons, List.map_nil, List.getElem?_cons_zero, List.getElem?_cons_succ, List.set_cons_zero, List.set_cons_succ, List.take_succ_cons, List.take_zero, List.drop_succ_cons, List.drop_zero, List.reverse_cons, List.reverse_nil, List.nil_append, List.cons_append, List.append_nil, List.length_cons, List.length_nil, List.replicate_succ, List.replicate_zero, Option.toList_some, Option.toList_none, true_and, and_true, Option.some.injEq, exists_eq_left', am_wI_mk, am_wA_mk, am_wR_mk, Nat.reduceAdd, Nat.reduceSub, Nat.reduceLeDiff, Nat.zero_add, Nat.le_refl, not_true_eq_false, not_false_eq_true, forall_const, false_implies, true_implies, implies_true, and_self, Prod.mk.injEq, eq_self, true_or, or_true, false_and, and_false, or_false, false_or, Nat.reduceEqDiff, ↓a_X5_drops_134, ↓a_X5_drops_161, hSr, arr1 hSr]
            try simp (disch := omega) only [nm1, nm1', nsub1, np1, npd, nadd, n0m1, m1lt, nlt0, nge0, ngt0, nle0, nlt, nle, neq, neq0, m1n, m4n, vpn, vcl, ne_eq, bI_0, bI_1, bI_01, lit01, lit00, oI_s, oI_n, true_and, and_true, not_true_eq_false, not_false_eq_true, true_implies, false_implies, and_self, implies_true, forall_const, Bool.not_eq_false, Bool.not_eq_true, iu_s, iu_k1, iu_j1, ia_s1, ia_k1, lt2, lt3, lt5, lt6, lt7, lt8, lt9, lt10, lt11, lt12, lt15, lt16, lt17, lt20, lt30, lt32, lt48, lt57, lt71, lt80, lt97, lt98, lt108, lt110, lt126, lt191, lt200, lt227, lt681, lt65535, lt100000, decide_eq_true_eq, decide_eq_false_iff_not, Nat.le_refl, true_or, or_true, eq_self, lt4, e9, nmul]
            refine hp I2 hf ?_
            rw [hbc]
            refine RowI.mk ?_ ?_ ?_ (fun j w hj2 hw => ?_) (fun j w hj2 hw => ?_) (fun j w hj2 hw => ?_) (fun j hj2 => ?_) (fun j hj2 => ?_)
            · rw [hj, if_neg (by omega), if_neg (by omega)]; exact hIc.t
            · exact e9
            · rw [hj, if_neg (by omega), if_neg (by omega)]; exact hIc.k
            · have hj2 : j < gt c := hj2
              rw [hj, if_neg (by omega), if_neg (by omega)]; exact hIc.T hj2 hw
            · rw [lsN_n] at hj2
              rw [hj, if_neg (by omega)]
              show _ = nI (if x ≤ j ∧ j + 1 < gn a then gL c w (j + 1) else gL c w j)
              by_cases hjx : x ≤ j
              · rw [if_pos (by omega), if_pos (by omega), show 71 + 4 * j + w + 4 = 71 + 4 * (j + 1) + w by omega]; exact hIc.L (by omega) hw
              · rw [if_neg (by omega), if_neg (by omega)]; exact hIc.L (by omega) hw
            · have hj2 : j < gk c := hj2
              rw [hj, if_neg (by omega), if_neg (by omega)]; exact hIc.F hj2 hw
            · have hj2 : j < gk c := hj2
              rw [hj, if_neg (by omega), if_neg (by omega)]; exact hIc.F2 hj2
            · rw [hj, if_neg (by omega), if_neg (by omega)]; exact hIc.s hj2
          · intro k hk ih I2 o hxk hf hj
            have e9 : I2 r 9 = nI (gn a - 1) := by rw [hj, if_pos rfl]
            have e1 : I2 r (k + 4) = I' r (k + 4) := by rw [hj, if_neg (by omega), if_neg (by omega)]
            apply am_fold; rw [h_X5_drops_134]
            simp only [↓ap_cc, ↓ap_const, ↓ap_iload, ↓ap_aload, ↓ap_istore, ↓ap_astore, ↓ap_iinc, ↓ap_bin, ↓ap_idiv, ↓ap_i2c, ↓ap_dup, ↓ap_dup2, ↓ap_nn, ↓ap_ic, ↓ap_if, ↓ap_sw, ↓ap_head, ↓ap_getI, ↓ap_getR, ↓ap_putI, ↓ap_putN, ↓ap_putR, ↓ap_iald, ↓ap_cald, ↓ap_iast, ↓ap_cast, ↓ap_aald, ↓ap_aast, ↓ap_alen, ↓ap_stat, ↓ap_pop, ↓ap_mm, ↓ap_copy, ↓ap_ret, ↓ap_iret, ↓ap_zret, ↓ap_aret, ↓ap_retA, ↓ap_new, ↓ap_newa, ↓ap_callV, ↓ap_callS, ↓ap_callI, am_in, List.map_cons, List.map_nil, List.getElem?_cons_zero, List.getElem?_cons_succ, List.set_cons_zero, List.set_cons_succ, List.take_succ_cons, List.take_zero, List.drop_succ_cons, List.drop_zero, List.reverse_cons, List.reverse_nil, List.nil_append, List.cons_append, List.append_nil, List.length_cons, List.length_nil, List.replicate_succ, List.replicate_zero, Option.toList_some, Option.toList_none, true_and, and_true, Option.some.injEq, exists_eq_left', am_wI_mk, am_wA_mk, am_wR_mk, Nat.reduceAdd, Nat.reduceSub, Nat.reduceLeDiff, Nat.zero_add, Nat.le_refl, not_true_eq_false, not_false_eq_true, forall_const, false_implies, true_implies, implies_true, and_self, Prod.mk.injEq, eq_self, true_or, or_true, false_and, and_false, or_false, false_or, Nat.reduceEqDiff, ↓a_X5_drops_134, ↓a_X5_drops_161, hSr, arr1 hSr]
            try simp (disch := omega) only [nm1, nm1', nsub1, np1, npd, nadd, n0m1, m1lt, nlt0, nge0, ngt0, nle0, nlt, nle, neq, neq0, m1n, m4n, vpn, vcl, ne_eq, bI_0, bI_1, bI_01, lit01, lit00, oI_s, oI_n, true_and, and_true, not_true_eq_false, not_false_eq_true, true_implies, false_implies, and_self, implies_true, forall_const, Bool.not_eq_false, Bool.not_eq_true, iu_s, iu_k1, iu_j1, ia_s1, ia_k1, lt2, lt3, lt5, lt6, lt7, lt8, lt9, lt10, lt11, lt12, lt15, lt16, lt17, lt20, lt30, lt32, lt48, lt57, lt71, lt80, lt97, lt98, lt108, lt110, lt126, lt191, lt200, lt227, lt681, lt65535, lt100000, decide_eq_true_eq, decide_eq_false_iff_not, Nat.le_refl, true_or, or_true, eq_self, lt4, e9, e1, nmul]
            refine ⟨fun h => by omega, fun _ => ih _ _ (by omega) (hf.u (by omega) (by omega)) (fun j => ?_)⟩
            rw [iu_i]
            by_cases hjk : j = k
            · subst hjk; rw [if_pos rfl, if_neg (by omega), if_pos (by omega)]
            · rw [if_neg hjk, hj]
              by_cases h1 : j = 9
              · rw [if_pos h1, if_pos h1]
              · rw [if_neg h1, if_neg h1]
                by_cases h2 : 71 + 4 * x ≤ j ∧ j < k
                · rw [if_pos h2, if_pos (by omega)]
                · rw [if_neg h2, if_neg (by omega)]
        exact hB2 (renF b x (gk b)) rfl rfl rfl hI hb
      refine key (71 + 4 * x) (by omega) _ _ (by omega) (hf.u (by omega) (by omega)) (fun j => ?_)
      rw [iu_i]
      by_cases h1 : j = 9
      · rw [if_pos h1, if_pos h1]
      · rw [if_neg h1, if_neg h1, if_neg (by omega)]
    · intro i hi ih I' o hI hf
      have bF := hBb.Fn hi
      have e10 : I' r 10 = nI (gk b) := hI.k
      have q1 : ∀ j, j < gk b → I' r (191 + 3 * j + 1) = nI (if j < i then (if x < gF b 1 j then gF b 1 j - 1 else gF b 1 j) else gF b 1 j) := fun j hj => hI.F (w := 1) hj (by decide)
      have q0 : ∀ j, j < gk b → I' r (191 + 3 * j) = nI (gF b 0 j) := fun j hj => (hI.F (w := 0) hj (by decide)).trans (by simp only [renF_F]; split <;> rfl)
      have q2 : ∀ j, j < gk b → I' r (191 + 3 * j + 2) = (if j < i then (if gF b 0 j = 0 then -4 else nI (if x < gF b 2 j then gF b 2 j - 1 else gF b 2 j)) else eI (-4) b j) := fun j hj => (hI.F2 hj).trans (renF_e _ _ _ _ _)
      have q1i : I' r (191 + 3 * i + 1) = nI (gF b 1 i) := by rw [q1 i hi, if_neg (by omega)]
      have q2i : I' r (191 + 3 * i + 2) = eI (-4) b i := by rw [q2 i hi, if_neg (by omega)]
      -- the second number is written
      have fin : ∀ z1 z2 o, z1 = nI (if x < gF b 1 i then gF b 1 i - 1 else gF b 1 i) → z2 = (if gF b 0 i = 0 then -4 else nI (if x < gF b 2 i then gF b 2 i - 1 else gF b 2 i)) → am_OK h_X5_drops post 53 [some (.inr r), some (.inl (nI x)), some (.inl (nI (i + 1))), o] (S, am_u (am_u I' r (191 + 3 * i + 1) z1) r (191 + 3 * i + 2) z2, R) := by
        intro z1 z2 o h1 h2
        refine ih _ _ (RowI.mk ?_ ?_ ?_ (fun j w hj hw => ?_) (fun j w hj hw => ?_) (fun j w hj hw => ?_) (fun j hj => ?_) (fun j hj => ?_)) ((hf.u (by omega) (by omega)).u (by omega) (by omega))
        · simp (disch := omega) only [iu_j1]; exact hI.t
        · simp (disch := omega) only [iu_j1]; exact hI.n
        · simp (disch := omega) only [iu_j1]; exact hI.k
        · have hj : j < gt b := hj
          simp (disch := omega) only [iu_j1]; exact hI.T hj hw
        · have hj : j < gn b := hj
          simp (disch := omega) only [iu_j1]; exact hI.L hj hw
        · have hj : j < gk b := hj
          simp only [renF_F]
          rcases (by omega : w = 0 ∨ w = 1) with rfl | rfl
          · simp (disch := omega) only [iu_j1, Nat.add_zero]
            rw [q0 j hj]; split <;> rfl
          · by_cases hji : j = i
            · subst hji
              simp (disch := omega) only [iu_j1, iu_s]
              rw [h1, if_pos (c := j < j + 1) (by omega)]; rfl
            · simp (disch := omega) only [iu_j1]
              rw [q1 j hj]
              by_cases h3 : j < i
              · rw [if_pos h3, if_pos (c := j < i + 1) (by omega)]; rfl
              · rw [if_neg h3, if_neg (c := j < i + 1) (by omega)]
        · have hj : j < gk b := hj
          rw [renF_e]
          by_cases hji : j = i
          · subst hji
            simp (disch := omega) only [iu_j1, iu_s]
            rw [h2, if_pos (c := j < j + 1) (by omega)]
          · simp (disch := omega) only [iu_j1]
            rw [q2 j hj]
            by_cases h3 : j < i
            · rw [if_pos h3, if_pos (c := j < i + 1) (by omega)]
            · rw [if_neg h3, if_neg (c := j < i + 1) (by omega)]
        · simp (disch := omega) only [iu_j1]; exact hI.s hj
      have c89 : ∀ (z1 : Int32), nI (gF b 1 i) - z1 = nI (if x < gF b 1 i then gF b 1 i - 1 else gF b 1 i) → t_X5_drops_89 [some (.inr r), some (.inl (nI x)), some (.inl (nI i)), some (.inl (nI (191 + 3 * i)))] [.inl z1, .inl (nI (gF b 1 i)), .inl (nI (191 + 3 * i + 1)), .inr r] (S, I', R) (am_OK h_X5_drops post) post := by
        intro z1 hz1
        simp only [↓a_X5_drops_89]
        simp only [↓ap_cc, ↓ap_const, ↓ap_iload, ↓ap_aload, ↓ap_istore, ↓ap_astore, ↓ap_iinc, ↓ap_bin, ↓ap_idiv, ↓ap_i2c, ↓ap_dup, ↓ap_dup2, ↓ap_nn, ↓ap_ic, ↓ap_if, ↓ap_sw, ↓ap_head, ↓ap_getI, ↓ap_getR, ↓ap_putI, ↓ap_putN, ↓ap_putR, ↓ap_iald, ↓ap_cald, ↓ap_iast, ↓ap_cast, ↓ap_aald, ↓ap_aast, ↓ap_alen, ↓ap_stat, ↓ap_pop, ↓ap_mm, ↓ap_copy, ↓ap_ret, ↓ap_iret, ↓ap_zret, ↓ap_aret, ↓ap_retA, ↓ap_new, ↓ap_newa, ↓ap_callV, ↓ap_callS, ↓ap_callI, am_in, List.map_cons, List.map_nil, List.getElem?_cons_zero, List.getElem?_cons_succ, List.set_cons_zero, List.set_cons_succ, List.take_succ_cons, List.take_zero, List.drop_succ_cons, List.drop_zero, List.reverse_cons, List.reverse_nil, List.nil_append, List.cons_append, List.append_nil, List.length_cons, List.length_nil, List.replicate_succ, List.replicate_zero, Option.toList_some, Option.toList_none, true_and, and_true, Option.some.injEq, exists_eq_left', am_wI_mk, am_wA_mk, am_wR_mk, Nat.reduceAdd, Nat.reduceSub, Nat.reduceLeDiff, Nat.zero_add, Nat.le_refl, not_true_eq_false, not_false_eq_true, forall_const, false_implies, true_implies, implies_true, and_self, Prod.mk.injEq, eq_self, true_or, or_true, false_and, and_false, or_false, false_or, Nat.reduceEqDiff, ↓a_X5_drops_110, ↓a_X5_drops_111, hSr, arr1 hSr]
        simp (disch := omega) only [iu_j1, iu_s, q2i, nadd, vpn, vcl, lt2, true_and, np1]
        unfold eI
        by_cases h0 : gF b 0 i = 0
        · rw [if_pos h0]
          refine ⟨fun _ => fin _ _ _ hz1 ?_, fun h => absurd (Int32.le_of_lt (Int32.lt_of_lt_of_le (by decide : (-4 : Int32) < 0) (nI_pos' (by omega)))) h⟩
          rw [if_pos h0]; decide
        · have b2 := bF.2.2 h0
          rw [if_neg h0, nle (by omega) (by omega)]
          refine ⟨fun h => fin _ _ _ hz1 ?_, fun h => fin _ _ _ hz1 ?_⟩
          · rw [if_neg h0, if_neg (by omega), Int32.sub_zero]
          · rw [if_neg h0, if_pos (by omega), npd (by omega)]
      apply am_fold; rw [h_X5_drops_53]
      simp only [↓ap_cc, ↓ap_const, ↓ap_iload, ↓ap_aload, ↓ap_istore, ↓ap_astore, ↓ap_iinc, ↓ap_bin, ↓ap_idiv, ↓ap_i2c, ↓ap_dup, ↓ap_dup2, ↓ap_nn, ↓ap_ic, ↓ap_if, ↓ap_sw, ↓ap_head, ↓ap_getI, ↓ap_getR, ↓ap_putI, ↓ap_putN, ↓ap_putR, ↓ap_iald, ↓ap_cald, ↓ap_iast, ↓ap_cast, ↓ap_aald, ↓ap_aast, ↓ap_alen, ↓ap_stat, ↓ap_pop, ↓ap_mm, ↓ap_copy, ↓ap_ret, ↓ap_iret, ↓ap_zret, ↓ap_aret, ↓ap_retA, ↓ap_new, ↓ap_newa, ↓ap_callV, ↓ap_callS, ↓ap_callI, am_in, List.map_cons, List.map_nil, List.getElem?_cons_zero, List.getElem?_cons_succ, List.set_cons_zero, List.set_cons_succ, List.take_succ_cons, List.take_zero, List.drop_succ_cons, List.drop_zero, List.reverse_cons, List.reverse_nil, List.nil_append, List.cons_append, List.append_nil, List.length_cons, List.length_nil, List.replicate_succ, List.replicate_zero, Option.toList_some, Option.toList_none, true_and, and_true, Option.some.injEq, exists_eq_left', am_wI_mk, am_wA_mk, am_wR_mk, Nat.reduceAdd, Nat.reduceSub, Nat.reduceLeDiff, Nat.zero_add, Nat.le_refl, not_true_eq_false, not_false_eq_true, forall_const, false_implies, true_implies, implies_true, and_self, Prod.mk.injEq, eq_self, true_or, or_true, false_and, and_false, or_false, false_or, Nat.reduceEqDiff, ↓a_X5_drops_53, ↓a_X5_drops_88, hSr, arr1 hSr]
      simp (disch := omega) only [lt10, lt191, lt3, nmul, nadd, vpn, vcl, e10, q1i, true_and, nle, np1]
      refine ⟨fun h => by omega, fun _ => ⟨fun h => c89 0 ?_, fun h => c89 1 ?_⟩⟩
      · rw [if_neg (by omega), Int32.sub_zero]
      · rw [if_pos (by omega), npd (by omega)]
  have l7 : ∀ k (b : Lg) I', k ≤ gk b → LgB b → gn b = gn a → dropL a x = lsN (shL (renF (rmFs x k b) x (gk (rmFs x k b))) x (gn a)) (gn a - 1) → RowI (I' r) b → Fr r r I I' → am_OK h_X5_drops post 7 [some (.inr r), some (.inl (nI x)), some (.inl (nI k - 1)), none] (S, I', R) := by
    intro k
    induction k with
    | zero =>
      intro b I' _ hBb hbn hb hI hf
      apply am_fold; rw [h_X5_drops_7]
      simp only [↓ap_cc, ↓ap_const, ↓ap_iload, ↓ap_aload, ↓ap_istore, ↓ap_astore, ↓ap_iinc, ↓ap_bin, ↓ap_idiv, ↓ap_i2c, ↓ap_dup, ↓ap_dup2, ↓ap_nn, ↓ap_ic, ↓ap_if, ↓ap_sw, ↓ap_head, ↓ap_getI, ↓ap_getR, ↓ap_putI, ↓ap_putN, ↓ap_putR, ↓ap_iald, ↓ap_cald, ↓ap_iast, ↓ap_cast, ↓ap_aald, ↓ap_aast, ↓ap_alen, ↓ap_stat, ↓ap_pop, ↓ap_mm, ↓ap_copy, ↓ap_ret, ↓ap_iret, ↓ap_zret, ↓ap_aret, ↓ap_retA, ↓ap_new, ↓ap_newa, ↓ap_callV, ↓ap_callS, ↓ap_callI, am_in, List.map_cons, List.map_nil, List.getElem?_cons_zero, List.getElem?_cons_succ, List.set_cons_zero, List.set_cons_succ, List.take_succ_cons, List.take_zero, List.drop_succ_cons, List.drop_zero, List.reverse_cons, List.reverse_nil, List.nil_append, List.cons_append, List.append_nil, List.length_cons, List.length_nil, List.replicate_succ, List.replicate_zero, Option.toList_some, Option.toList_none, true_and, and_true, Option.some.injEq, exists_eq_left', am_wI_mk, am_wA_mk, am_wR_mk, Nat.reduceAdd, Nat.reduceSub, Nat.reduceLeDiff, Nat.zero_add, Nat.le_refl, not_true_eq_false, not_false_eq_true, forall_const, false_implies, true_implies, implies_true, and_self, Prod.mk.injEq, eq_self, true_or, or_true, false_and, and_false, or_false, false_or, Nat.reduceEqDiff, ↓a_X5_drops_7, ↓a_X5_drops_51, n0m1, m1lt]
      refine l53 b hBb hbn hb 0 (by omega) I' _ (RowI.mk hI.t hI.n hI.k (fun j w hj hw => hI.T hj hw) (fun j w hj hw => hI.L hj hw) (fun j w hj hw => ?_) (fun j hj => ?_) (fun j hj => hI.s hj)) hf
      · exact hI.F hj hw
      · rw [renF_e, if_neg (by omega)]; exact hI.F2 hj
    | succ k ih =>
      intro b I' hk hBb hbn hb hI hf
      have bk := hBb.k
      have bF := hBb.Fn (j := k) (by omega)
      unfold rmFs at hb
      have h31 : x < 2147483648 := by omega
      have go : ∀ I'', RowI (I'' r) (if hit b x k then rmF b k else b) → Fr r r I I'' → am_OK h_X5_drops post 7 [some (.inr r), some (.inl (nI x)), some (.inl (nI k - 1)), none] (S, I'', R) := by
        intro I'' hI'' hf''
        refine ih _ I'' ?_ ?_ ?_ hb hI'' hf''
        · split
          · rw [rmF_k]; omega
          · omega
        · split
          · exact LgB_rmF hBb k
          · exact hBb
        · split
          · exact hbn
          · exact hbn
      have rm : hit b x k → t_X5_drops_40 [some (.inr r), some (.inl (nI x)), some (.inl (nI k)), none] [] (S, I', R) (am_OK h_X5_drops post) post := by
        intro h
        simp only [↓a_X5_drops_40]
        simp only [↓ap_cc, ↓ap_const, ↓ap_iload, ↓ap_aload, ↓ap_istore, ↓ap_astore, ↓ap_iinc, ↓ap_bin, ↓ap_idiv, ↓ap_i2c, ↓ap_dup, ↓ap_dup2, ↓ap_nn, ↓ap_ic, ↓ap_if, ↓ap_sw, ↓ap_head, ↓ap_getI, ↓ap_getR, ↓ap_putI, ↓ap_putN, ↓ap_putR, ↓ap_iald, ↓ap_cald, ↓ap_iast, ↓ap_cast, ↓ap_aald, ↓ap_aast, ↓ap_alen, ↓ap_stat, ↓ap_pop, ↓ap_mm, ↓ap_copy, ↓ap_ret, ↓ap_iret, ↓ap_zret, ↓ap_aret, ↓ap_retA, ↓ap_new, ↓ap_newa, ↓ap_callV, ↓ap_callS, ↓ap_callI, am_in, List.map_cons, List.map_nil, List.getElem?_cons_zero, List.getElem?_cons_succ, List.set_cons_zero, List.set_cons_succ, List.take_succ_cons, List.take_zero, List.drop_succ_cons, List.drop_zero, List.reverse_cons, List.reverse_nil, List.nil_append, List.cons_append, List.append_nil, List.length_cons, List.length_nil, List.replicate_succ, List.replicate_zero, Option.toList_some, Option.toList_none, true_and, and_true, Option.some.injEq, exists_eq_left', am_wI_mk, am_wA_mk, am_wR_mk, Nat.reduceAdd, Nat.reduceSub, Nat.reduceLeDiff, Nat.zero_add, Nat.le_refl, not_true_eq_false, not_false_eq_true, forall_const, false_implies, true_implies, implies_true, and_self, Prod.mk.injEq, eq_self, true_or, or_true, false_and, and_false, or_false, false_or, Nat.reduceEqDiff, hSr]
        refine m_goes hSr hI hBb (by omega) (fun I'' hf'' hI'' => ?_)
        simp only [↓ap_cc, ↓ap_const, ↓ap_iload, ↓ap_aload, ↓ap_istore, ↓ap_astore, ↓ap_iinc, ↓ap_bin, ↓ap_idiv, ↓ap_i2c, ↓ap_dup, ↓ap_dup2, ↓ap_nn, ↓ap_ic, ↓ap_if, ↓ap_sw, ↓ap_head, ↓ap_getI, ↓ap_getR, ↓ap_putI, ↓ap_putN, ↓ap_putR, ↓ap_iald, ↓ap_cald, ↓ap_iast, ↓ap_cast, ↓ap_aald, ↓ap_aast, ↓ap_alen, ↓ap_stat, ↓ap_pop, ↓ap_mm, ↓ap_copy, ↓ap_ret, ↓ap_iret, ↓ap_zret, ↓ap_aret, ↓ap_retA, ↓ap_new, ↓ap_newa, ↓ap_callV, ↓ap_callS, ↓ap_callI, am_in, List.map_cons, List.map_nil, List.getElem?_cons_zero, List.getElem?_cons_succ, List.set_cons_zero, List.set_cons_succ, List.take_succ_cons, List.take_zero, List.drop_succ_cons, List.drop_zero, List.reverse_cons, List.reverse_nil, List.nil_append, List.cons_append, List.append_nil, List.length_cons, List.length_nil, List.replicate_succ, List.replicate_zero, Option.toList_some, Option.toList_none, true_and, and_true, Option.some.injEq, exists_eq_left', am_wI_mk, am_wA_mk, am_wR_mk, Nat.reduceAdd, Nat.reduceSub, Nat.reduceLeDiff, Nat.zero_add, Nat.le_refl, not_true_eq_false, not_false_eq_true, forall_const, false_implies, true_implies, implies_true, and_self, Prod.mk.injEq, eq_self, true_or, or_true, false_and, and_false, or_false, false_or, Nat.reduceEqDiff, ↓a_X5_drops_45, nsub1]
        refine go I'' ?_ (hf.tr hf'')
        rw [if_pos h]; exact hI''
      have no : ¬ hit b x k → am_OK h_X5_drops post 7 [some (.inr r), some (.inl (nI x)), some (.inl (nI k - 1)), none] (S, I', R) := by
        intro h
        refine go I' ?_ hf
        rw [if_neg h]; exact hI
      apply am_fold; rw [h_X5_drops_7]
      simp only [↓ap_cc, ↓ap_const, ↓ap_iload, ↓ap_aload, ↓ap_istore, ↓ap_astore, ↓ap_iinc, ↓ap_bin, ↓ap_idiv, ↓ap_i2c, ↓ap_dup, ↓ap_dup2, ↓ap_nn, ↓ap_ic, ↓ap_if, ↓ap_sw, ↓ap_head, ↓ap_getI, ↓ap_getR, ↓ap_putI, ↓ap_putN, ↓ap_putR, ↓ap_iald, ↓ap_cald, ↓ap_iast, ↓ap_cast, ↓ap_aald, ↓ap_aast, ↓ap_alen, ↓ap_stat, ↓ap_pop, ↓ap_mm, ↓ap_copy, ↓ap_ret, ↓ap_iret, ↓ap_zret, ↓ap_aret, ↓ap_retA, ↓ap_new, ↓ap_newa, ↓ap_callV, ↓ap_callS, ↓ap_callI, am_in, List.map_cons, List.map_nil, List.getElem?_cons_zero, List.getElem?_cons_succ, List.set_cons_zero, List.set_cons_succ, List.take_succ_cons, List.take_zero, List.drop_succ_cons, List.drop_zero, List.reverse_cons, List.reverse_nil, List.nil_append, List.cons_append, List.append_nil, List.length_cons, List.length_nil, List.replicate_succ, List.replicate_zero, Option.toList_some, Option.toList_none, true_and, and_true, Option.some.injEq, exists_eq_left', am_wI_mk, am_wA_mk, am_wR_mk, Nat.reduceAdd, Nat.reduceSub, Nat.reduceLeDiff, Nat.zero_add, Nat.le_refl, not_true_eq_false, not_false_eq_true, forall_const, false_implies, true_implies, implies_true, and_self, Prod.mk.injEq, eq_self, true_or, or_true, false_and, and_false, or_false, false_or, Nat.reduceEqDiff, ↓a_X5_drops_7, ↓a_X5_drops_45, nm1, nsub1]
      try simp (disch := omega) only [nm1, nm1', nsub1, np1, npd, nadd, n0m1, m1lt, nlt0, nge0, ngt0, nle0, nlt, nle, neq, neq0, m1n, m4n, vpn, vcl, ne_eq, bI_0, bI_1, bI_01, lit01, lit00, oI_s, oI_n, true_and, and_true, not_true_eq_false, not_false_eq_true, true_implies, false_implies, and_self, implies_true, forall_const, Bool.not_eq_false, Bool.not_eq_true, iu_s, iu_k1, iu_j1, ia_s1, ia_k1, lt2, lt3, lt5, lt6, lt7, lt8, lt9, lt10, lt11, lt12, lt15, lt16, lt17, lt20, lt30, lt32, lt48, lt57, lt71, lt80, lt97, lt98, lt108, lt110, lt126, lt191, lt200, lt227, lt681, lt65535, lt100000, decide_eq_true_eq, decide_eq_false_iff_not, Nat.le_refl, true_or, or_true, eq_self]
      refine m_told1 hSr hI hBb (by omega) ?_
      simp only [↓ap_cc, ↓ap_const, ↓ap_iload, ↓ap_aload, ↓ap_istore, ↓ap_astore, ↓ap_iinc, ↓ap_bin, ↓ap_idiv, ↓ap_i2c, ↓ap_dup, ↓ap_dup2, ↓ap_nn, ↓ap_ic, ↓ap_if, ↓ap_sw, ↓ap_head, ↓ap_getI, ↓ap_getR, ↓ap_putI, ↓ap_putN, ↓ap_putR, ↓ap_iald, ↓ap_cald, ↓ap_iast, ↓ap_cast, ↓ap_aald, ↓ap_aast, ↓ap_alen, ↓ap_stat, ↓ap_pop, ↓ap_mm, ↓ap_copy, ↓ap_ret, ↓ap_iret, ↓ap_zret, ↓ap_aret, ↓ap_retA, ↓ap_new, ↓ap_newa, ↓ap_callV, ↓ap_callS, ↓ap_callI, am_in, List.map_cons, List.map_nil, List.getElem?_cons_zero, List.getElem?_cons_succ, List.set_cons_zero, List.set_cons_succ, List.take_succ_cons, List.take_zero, List.drop_succ_cons, List.drop_zero, List.reverse_cons, List.reverse_nil, List.nil_append, List.cons_append, List.append_nil, List.length_cons, List.length_nil, List.replicate_succ, List.replicate_zero, Option.toList_some, Option.toList_none, true_and, and_true, Option.some.injEq, exists_eq_left', am_wI_mk, am_wA_mk, am_wR_mk, Nat.reduceAdd, Nat.reduceSub, Nat.reduceLeDiff, Nat.zero_add, Nat.le_refl, not_true_eq_false, not_false_eq_true, forall_const, false_implies, true_implies, implies_true, and_self, Prod.mk.injEq, eq_self, true_or, or_true, false_and, and_false, or_false, false_or, Nat.reduceEqDiff, ↓a_X5_drops_45, nsub1]
      try simp (disch := omega) only [nm1, nm1', nsub1, np1, npd, nadd, n0m1, m1lt, nlt0, nge0, ngt0, nle0, nlt, nle, neq, neq0, m1n, m4n, vpn, vcl, ne_eq, bI_0, bI_1, bI_01, lit01, lit00, oI_s, oI_n, true_and, and_true, not_true_eq_false, not_false_eq_true, true_implies, false_implies, and_self, implies_true, forall_const, Bool.not_eq_false, Bool.not_eq_true, iu_s, iu_k1, iu_j1, ia_s1, ia_k1, lt2, lt3, lt5, lt6, lt7, lt8, lt9, lt10, lt11, lt12, lt15, lt16, lt17, lt20, lt30, lt32, lt48, lt57, lt71, lt80, lt97, lt98, lt108, lt110, lt126, lt191, lt200, lt227, lt681, lt65535, lt100000, decide_eq_true_eq, decide_eq_false_iff_not, Nat.le_refl, true_or, or_true, eq_self]
      refine ⟨fun h => rm (Or.inl h), fun h => m_told0 hSr hI hBb (by omega) ?_⟩
      simp only [↓ap_cc, ↓ap_const, ↓ap_iload, ↓ap_aload, ↓ap_istore, ↓ap_astore, ↓ap_iinc, ↓ap_bin, ↓ap_idiv, ↓ap_i2c, ↓ap_dup, ↓ap_dup2, ↓ap_nn, ↓ap_ic, ↓ap_if, ↓ap_sw, ↓ap_head, ↓ap_getI, ↓ap_getR, ↓ap_putI, ↓ap_putN, ↓ap_putR, ↓ap_iald, ↓ap_cald, ↓ap_iast, ↓ap_cast, ↓ap_aald, ↓ap_aast, ↓ap_alen, ↓ap_stat, ↓ap_pop, ↓ap_mm, ↓ap_copy, ↓ap_ret, ↓ap_iret, ↓ap_zret, ↓ap_aret, ↓ap_retA, ↓ap_new, ↓ap_newa, ↓ap_callV, ↓ap_callS, ↓ap_callI, am_in, List.map_cons, List.map_nil, List.getElem?_cons_zero, List.getElem?_cons_succ, List.set_cons_zero, List.set_cons_succ, List.take_succ_cons, List.take_zero, List.drop_succ_cons, List.drop_zero, List.reverse_cons, List.reverse_nil, List.nil_append, List.cons_append, List.append_nil, List.length_cons, List.length_nil, List.replicate_succ, List.replicate_zero, Option.toList_some, Option.toList_none, true_and, and_true, Option.some.injEq, exists_eq_left', am_wI_mk, am_wA_mk, am_wR_mk, Nat.reduceAdd, Nat.reduceSub, Nat.reduceLeDiff, Nat.zero_add, Nat.le_refl, not_true_eq_false, not_false_eq_true, forall_const, false_implies, true_implies, implies_true, and_self, Prod.mk.injEq, eq_self, true_or, or_true, false_and, and_false, or_false, false_or, Nat.reduceEqDiff, ↓a_X5_drops_45, nsub1]
      try simp (disch := omega) only [nm1, nm1', nsub1, np1, npd, nadd, n0m1, m1lt, nlt0, nge0, ngt0, nle0, nlt, nle, neq, neq0, m1n, m4n, vpn, vcl, ne_eq, bI_0, bI_1, bI_01, lit01, lit00, oI_s, oI_n, true_and, and_true, not_true_eq_false, not_false_eq_true, true_implies, false_implies, and_self, implies_true, forall_const, Bool.not_eq_false, Bool.not_eq_true, iu_s, iu_k1, iu_j1, ia_s1, ia_k1, lt2, lt3, lt5, lt6, lt7, lt8, lt9, lt10, lt11, lt12, lt15, lt16, lt17, lt20, lt30, lt32, lt48, lt57, lt71, lt80, lt97, lt98, lt108, lt110, lt126, lt191, lt200, lt227, lt681, lt65535, lt100000, decide_eq_true_eq, decide_eq_false_iff_not, Nat.le_refl, true_or, or_true, eq_self]
      refine ⟨fun h2 => no (fun q => q.elim h (fun q2 => q2.1 h2)), fun h2 => m_told2 hSr hI hBb (by omega) ?_⟩
      simp only [↓ap_cc, ↓ap_const, ↓ap_iload, ↓ap_aload, ↓ap_istore, ↓ap_astore, ↓ap_iinc, ↓ap_bin, ↓ap_idiv, ↓ap_i2c, ↓ap_dup, ↓ap_dup2, ↓ap_nn, ↓ap_ic, ↓ap_if, ↓ap_sw, ↓ap_head, ↓ap_getI, ↓ap_getR, ↓ap_putI, ↓ap_putN, ↓ap_putR, ↓ap_iald, ↓ap_cald, ↓ap_iast, ↓ap_cast, ↓ap_aald, ↓ap_aast, ↓ap_alen, ↓ap_stat, ↓ap_pop, ↓ap_mm, ↓ap_copy, ↓ap_ret, ↓ap_iret, ↓ap_zret, ↓ap_aret, ↓ap_retA, ↓ap_new, ↓ap_newa, ↓ap_callV, ↓ap_callS, ↓ap_callI, am_in, List.map_cons, List.map_nil, List.getElem?_cons_zero, List.getElem?_cons_succ, List.set_cons_zero, List.set_cons_succ, List.take_succ_cons, List.take_zero, List.drop_succ_cons, List.drop_zero, List.reverse_cons, List.reverse_nil, List.nil_append, List.cons_append, List.append_nil, List.length_cons, List.length_nil, List.replicate_succ, List.replicate_zero, Option.toList_some, Option.toList_none, true_and, and_true, Option.some.injEq, exists_eq_left', am_wI_mk, am_wA_mk, am_wR_mk, Nat.reduceAdd, Nat.reduceSub, Nat.reduceLeDiff, Nat.zero_add, Nat.le_refl, not_true_eq_false, not_false_eq_true, forall_const, false_implies, true_implies, implies_true, and_self, Prod.mk.injEq, eq_self, true_or, or_true, false_and, and_false, or_false, false_or, Nat.reduceEqDiff, ↓a_X5_drops_45, nsub1]
      rw [eI4_eq hBb (by omega) h31]
      refine ⟨fun h3 => no (fun q => q.elim h (fun q2 => h3 q2)), fun h3 => rm (Or.inr (Classical.byContradiction h3))⟩
  refine ⟨Nat.le_of_ble_eq_true rfl, am_fold ?_⟩; rw [h_X5_drops_0]
  simp only [↓ap_cc, ↓ap_const, ↓ap_iload, ↓ap_aload, ↓ap_istore, ↓ap_astore, ↓ap_iinc, ↓ap_bin, ↓ap_idiv, ↓ap_i2c, ↓ap_dup, ↓ap_dup2, ↓ap_nn, ↓ap_ic, ↓ap_if, ↓ap_sw, ↓ap_head, ↓ap_getI, ↓ap_getR, ↓ap_putI, ↓ap_putN, ↓ap_putR, ↓ap_iald, ↓ap_cald, ↓ap_iast, ↓ap_cast, ↓ap_aald, ↓ap_aast, ↓ap_alen, ↓ap_stat, ↓ap_pop, ↓ap_mm, ↓ap_copy, ↓ap_ret, ↓ap_iret, ↓ap_zret, ↓ap_aret, ↓ap_retA, ↓ap_new, ↓ap_newa, ↓ap_callV, ↓ap_callS, ↓ap_callI, am_in, List.map_cons, List.map_nil, List.getElem?_cons_zero, List.getElem?_cons_succ, List.set_cons_zero, List.set_cons_succ, List.take_succ_cons, List.take_zero, List.drop_succ_cons, List.drop_zero, List.reverse_cons, List.reverse_nil, List.nil_append, List.cons_append, List.append_nil, List.length_cons, List.length_nil, List.replicate_succ, List.replicate_zero, Option.toList_some, Option.toList_none, true_and, and_true, Option.some.injEq, exists_eq_left', am_wI_mk, am_wA_mk, am_wR_mk, Nat.reduceAdd, Nat.reduceSub, Nat.reduceLeDiff, Nat.zero_add, Nat.le_refl, not_true_eq_false, not_false_eq_true, forall_const, false_implies, true_implies, implies_true, and_self, Prod.mk.injEq, eq_self, true_or, or_true, false_and, and_false, or_false, false_or, Nat.reduceEqDiff, ↓a_X5_drops_0, hSr, arr1 hSr]
  try simp (disch := omega) only [nm1, nm1', nsub1, np1, npd, nadd, n0m1, m1lt, nlt0, nge0, ngt0, nle0, nlt, nle, neq, neq0, m1n, m4n, vpn, vcl, ne_eq, bI_0, bI_1, bI_01, lit01, lit00, oI_s, oI_n, true_and, and_true, not_true_eq_false, not_false_eq_true, true_implies, false_implies, and_self, implies_true, forall_const, Bool.not_eq_false, Bool.not_eq_true, iu_s, iu_k1, iu_j1, ia_s1, ia_k1, lt2, lt3, lt5, lt6, lt7, lt8, lt9, lt10, lt11, lt12, lt15, lt16, lt17, lt20, lt30, lt32, lt48, lt57, lt71, lt80, lt97, lt98, lt108, lt110, lt126, lt191, lt200, lt227, lt681, lt65535, lt100000, decide_eq_true_eq, decide_eq_false_iff_not, Nat.le_refl, true_or, or_true, eq_self, hI.k]
  exact l7 (gk a) a I (Nat.le_refl _) hB rfl rfl hI Fr.rfl
