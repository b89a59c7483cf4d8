-- needs: 10 11 12 13 14 20 21 22 23 30 31 32 33
variable {S : List (Nat × Nat)} {R : Nat → Nat → Option Nat} {I : Nat → Nat → Int32} {T : Nat} {a : Lg} {post : am_R}
theorem f_isPassed {l e : Nat} (hS : ThS S R T) (hI : LogI I (T + 1) a) (hB : LgB a) (hSc : ScoI I T a l) (hl : l < gn a) (he : e < gn a) (hE : gE a e l) (hp : post (some (.inl (bI (decide ((gs a 1 : Int) ≤ gSc a l e))))) (S, I, R)) : sp_X3_isPassed [.inr T, .inl (nI l), .inl (nI e)] (S, I, R) post := by
  obtain ⟨⟨⟨s0, s1, s2, s3, s4, s5, s6, s7, s8, s9, s10, s11⟩, r1, r2, r3, r5, r6, r7, r8, r10, r11, r12, r13⟩, ⟨t0, t13, t14, t15, t16, t17, t18, t19, t20, t21, t22, t23, t24, t25, t26, t27⟩, q0, q1, q2, q3, q4, q5, q6, q7, q8, q9, q10, q11, q12, q13, q15, q16⟩ := id hS
  have bn := hB.n
  have bk := hB.k
  have bs := hB.s
  have bsc := gSc_b hB e hl
  refine ⟨Nat.le_of_ble_eq_true rfl, am_fold ?_⟩; rw [h_X3_isPassed_0]
  simp only [↓ap_cc, ↓ap_const, ↓ap_iload, ↓ap_aload, ↓ap_istore, ↓ap_astore, ↓ap_iinc, ↓ap_bin, ↓ap_idiv, ↓ap_irem, ↓ap_callSA, ↓ap_iretA, ↓ap_zretA, ↓ap_i2c, ↓ap_dup, ↓ap_dup2, ↓ap_nn, ↓ap_ic, ↓ap_if, ↓ap_sw, ↓ap_head, ↓ap_getI, ↓ap_getR, ↓ap_putI, ↓ap_putN, ↓ap_putR, ↓ap_iald, ↓ap_cald, ↓ap_iast, ↓ap_cast, ↓ap_aald, ↓ap_aast, ↓ap_alen, ↓ap_stat, ↓ap_pop, ↓ap_mm, ↓ap_copy, ↓ap_ret, ↓ap_iret, ↓ap_zret, ↓ap_aret, ↓ap_retA, ↓ap_new, ↓ap_newa, ↓ap_callV, ↓ap_callS, ↓ap_callI, am_in, List.map_cons, List.map_nil, List.getElem?_cons_zero, List.getElem?_cons_succ, List.set_cons_zero, List.set_cons_succ, List.take_succ_cons, List.take_zero, List.drop_succ_cons, List.drop_zero, List.reverse_cons, List.reverse_nil, List.nil_append, List.cons_append, List.append_nil, List.length_cons, List.length_nil, List.replicate_succ, List.replicate_zero, Option.toList_some, Option.toList_none, true_and, and_true, Option.some.injEq, exists_eq_left', am_wI_mk, am_wA_mk, am_wR_mk, Nat.reduceAdd, Nat.reduceSub, Nat.reduceLeDiff, Nat.zero_add, Nat.le_refl, not_true_eq_false, not_false_eq_true, forall_const, false_implies, true_implies, implies_true, and_self, Prod.mk.injEq, eq_self, true_or, or_true, false_and, and_false, or_false, false_or, Nat.reduceEqDiff, ↓a_X3_isPassed_28, ↓a_X3_isPassed_27, ↓a_X3_isPassed_0, s0, s1, s2, s3, s4, s5, s6, s7, s8, s9, s10, s11, r1, r2, r3, r5, r6, r7, r8, r10, r11, r12, r13, t0, t13, t14, t15, t16, t17, t18, t19, t20, t21, t22, t23, t24, t25, t26, t27, q0, q1, q2, q3, q4, q5, q6, q7, q8, q9, q10, q11, q12, q13, q15, q16, arr1 s1, arr1 s2, arr1 s3, arr1 s4, arr1 s5, arr1 s6, arr1 s7, arr1 s8, arr1 s9, arr1 s10, arr1 s11, arr1 t13, arr1 t14, arr1 t15, arr1 t16, arr1 t17, arr1 t18, arr1 t19, arr1 t20, arr1 t21, arr1 t22, arr1 t23, arr1 t24, arr1 t25, arr1 t26, arr1 t27]
  refine ⟨fun h => ((m1n (by omega)).mp h).elim, fun _ => f_scoreFor hS hI hB hl he ?_⟩
  simp only [↓ap_cc, ↓ap_const, ↓ap_iload, ↓ap_aload, ↓ap_istore, ↓ap_astore, ↓ap_iinc, ↓ap_bin, ↓ap_idiv, ↓ap_irem, ↓ap_callSA, ↓ap_iretA, ↓ap_zretA, ↓ap_i2c, ↓ap_dup, ↓ap_dup2, ↓ap_nn, ↓ap_ic, ↓ap_if, ↓ap_sw, ↓ap_head, ↓ap_getI, ↓ap_getR, ↓ap_putI, ↓ap_putN, ↓ap_putR, ↓ap_iald, ↓ap_cald, ↓ap_iast, ↓ap_cast, ↓ap_aald, ↓ap_aast, ↓ap_alen, ↓ap_stat, ↓ap_pop, ↓ap_mm, ↓ap_copy, ↓ap_ret, ↓ap_iret, ↓ap_zret, ↓ap_aret, ↓ap_retA, ↓ap_new, ↓ap_newa, ↓ap_callV, ↓ap_callS, ↓ap_callI, am_in, List.map_cons, List.map_nil, List.getElem?_cons_zero, List.getElem?_cons_succ, List.set_cons_zero, List.set_cons_succ, List.take_succ_cons, List.take_zero, List.drop_succ_cons, List.drop_zero, List.reverse_cons, List.reverse_nil, List.nil_append, List.cons_append, List.append_nil, List.length_cons, List.length_nil, List.replicate_succ, List.replicate_zero, Option.toList_some, Option.toList_none, true_and, and_true, Option.some.injEq, exists_eq_left', am_wI_mk, am_wA_mk, am_wR_mk, Nat.reduceAdd, Nat.reduceSub, Nat.reduceLeDiff, Nat.zero_add, Nat.le_refl, not_true_eq_false, not_false_eq_true, forall_const, false_implies, true_implies, implies_true, and_self, Prod.mk.injEq, eq_self, true_or, or_true, false_and, and_false, or_false, false_or, Nat.reduceEqDiff, ↓a_X3_isPassed_28, ↓a_X3_isPassed_27, ↓a_X3_isPassed_0, s0, s1, s2, s3, s4, s5, s6, s7, s8, s9, s10, s11, r1, r2, r3, r5, r6, r7, r8, r10, r11, r12, r13, t0, t13, t14, t15, t16, t17, t18, t19, t20, t21, t22, t23, t24, t25, t26, t27, q0, q1, q2, q3, q4, q5, q6, q7, q8, q9, q10, q11, q12, q13, q15, q16, arr1 s1, arr1 s2, arr1 s3, arr1 s4, arr1 s5, arr1 s6, arr1 s7, arr1 s8, arr1 s9, arr1 s10, arr1 s11, arr1 t13, arr1 t14, arr1 t15, arr1 t16, arr1 t17, arr1 t18, arr1 t19, arr1 t20, arr1 t21, arr1 t22, arr1 t23, arr1 t24, arr1 t25, arr1 t26, arr1 t27]
  rw [hSc e he hE]
  simp (disch := omega) only [vpn1, vcl1, hI.s, true_and]
  rw [nz (gs a 1), zlt (by omega) (by omega) (by omega) (by omega)]
  by_cases h : (gs a 1 : Int) ≤ gSc a l e
  · rw [decide_eq_true h] at hp
    exact ⟨fun q => by omega, fun _ => hp⟩
  · rw [decide_eq_false h] at hp
    exact ⟨fun _ => hp, fun q => by omega⟩
theorem f_isPassed0 {l : Nat} (hS : ThS S R T) (hp : post (some (.inl 0)) (S, I, R)) : sp_X3_isPassed [.inr T, .inl (nI l), .inl (-1)] (S, I, R) post := by
  refine ⟨Nat.le_of_ble_eq_true rfl, am_fold ?_⟩; rw [h_X3_isPassed_0]
  simp only [↓ap_cc, ↓ap_const, ↓ap_iload, ↓ap_aload, ↓ap_istore, ↓ap_astore, ↓ap_iinc, ↓ap_bin, ↓ap_idiv, ↓ap_irem, ↓ap_callSA, ↓ap_iretA, ↓ap_zretA, ↓ap_i2c, ↓ap_dup, ↓ap_dup2, ↓ap_nn, ↓ap_ic, ↓ap_if, ↓ap_sw, ↓ap_head, ↓ap_getI, ↓ap_getR, ↓ap_putI, ↓ap_putN, ↓ap_putR, ↓ap_iald, ↓ap_cald, ↓ap_iast, ↓ap_cast, ↓ap_aald, ↓ap_aast, ↓ap_alen, ↓ap_stat, ↓ap_pop, ↓ap_mm, ↓ap_copy, ↓ap_ret, ↓ap_iret, ↓ap_zret, ↓ap_aret, ↓ap_retA, ↓ap_new, ↓ap_newa, ↓ap_callV, ↓ap_callS, ↓ap_callI, am_in, List.map_cons, List.map_nil, List.getElem?_cons_zero, List.getElem?_cons_succ, List.set_cons_zero, List.set_cons_succ, List.take_succ_cons, List.take_zero, List.drop_succ_cons, List.drop_zero, List.reverse_cons, List.reverse_nil, List.nil_append, List.cons_append, List.append_nil, List.length_cons, List.length_nil, List.replicate_succ, List.replicate_zero, Option.toList_some, Option.toList_none, true_and, and_true, Option.some.injEq, exists_eq_left', am_wI_mk, am_wA_mk, am_wR_mk, Nat.reduceAdd, Nat.reduceSub, Nat.reduceLeDiff, Nat.zero_add, Nat.le_refl, not_true_eq_false, not_false_eq_true, forall_const, false_implies, true_implies, implies_true, and_self, Prod.mk.injEq, eq_self, true_or, or_true, false_and, and_false, or_false, false_or, Nat.reduceEqDiff, ↓a_X3_isPassed_28, ↓a_X3_isPassed_27, ↓a_X3_isPassed_0]
  exact hp
theorem f_answerOf {l : Nat} (hS : ThS S R T) (hI : LogI I (T + 1) a) (hB : LgB a) (hR : RatL I T a l) (hl : l < gn a) (hp : post (some (.inl (oI (-1) (gA a (gs a 1) l)))) (S, I, R)) : sp_X3_answerOf [.inr T, .inl (nI l)] (S, I, R) post := by
  obtain ⟨⟨⟨s0, s1, s2, s3, s4, s5, s6, s7, s8, s9, s10, s11⟩, r1, r2, r3, r5, r6, r7, r8, r10, r11, r12, r13⟩, ⟨t0, t13, t14, t15, t16, t17, t18, t19, t20, t21, t22, t23, t24, t25, t26, t27⟩, q0, q1, q2, q3, q4, q5, q6, q7, q8, q9, q10, q11, q12, q13, q15, q16⟩ := id hS
  have bn := hB.n
  have bk := hB.k
  refine ⟨Nat.le_of_ble_eq_true rfl, am_fold ?_⟩; rw [h_X3_answerOf_0]
  simp only [↓ap_cc, ↓ap_const, ↓ap_iload, ↓ap_aload, ↓ap_istore, ↓ap_astore, ↓ap_iinc, ↓ap_bin, ↓ap_idiv, ↓ap_irem, ↓ap_callSA, ↓ap_iretA, ↓ap_zretA, ↓ap_i2c, ↓ap_dup, ↓ap_dup2, ↓ap_nn, ↓ap_ic, ↓ap_if, ↓ap_sw, ↓ap_head, ↓ap_getI, ↓ap_getR, ↓ap_putI, ↓ap_putN, ↓ap_putR, ↓ap_iald, ↓ap_cald, ↓ap_iast, ↓ap_cast, ↓ap_aald, ↓ap_aast, ↓ap_alen, ↓ap_stat, ↓ap_pop, ↓ap_mm, ↓ap_copy, ↓ap_ret, ↓ap_iret, ↓ap_zret, ↓ap_aret, ↓ap_retA, ↓ap_new, ↓ap_newa, ↓ap_callV, ↓ap_callS, ↓ap_callI, am_in, List.map_cons, List.map_nil, List.getElem?_cons_zero, List.getElem?_cons_succ, List.set_cons_zero, List.set_cons_succ, List.take_succ_cons, List.take_zero, List.drop_succ_cons, List.drop_zero, List.reverse_cons, List.reverse_nil, List.nil_append, List.cons_append, List.append_nil, List.length_cons, List.length_nil, List.replicate_succ, List.replicate_zero, Option.toList_some, Option.toList_none, true_and, and_true, Option.some.injEq, exists_eq_left', am_wI_mk, am_wA_mk, am_wR_mk, Nat.reduceAdd, Nat.reduceSub, Nat.reduceLeDiff, Nat.zero_add, Nat.le_refl, not_true_eq_false, not_false_eq_true, forall_const, false_implies, true_implies, implies_true, and_self, Prod.mk.injEq, eq_self, true_or, or_true, false_and, and_false, or_false, false_or, Nat.reduceEqDiff, ↓a_X3_answerOf_49, ↓a_X3_answerOf_48, ↓a_X3_answerOf_25, ↓a_X3_answerOf_0, s0, s1, s2, s3, s4, s5, s6, s7, s8, s9, s10, s11, r1, r2, r3, r5, r6, r7, r8, r10, r11, r12, r13, t0, t13, t14, t15, t16, t17, t18, t19, t20, t21, t22, t23, t24, t25, t26, t27, q0, q1, q2, q3, q4, q5, q6, q7, q8, q9, q10, q11, q12, q13, q15, q16, arr1 s1, arr1 s2, arr1 s3, arr1 s4, arr1 s5, arr1 s6, arr1 s7, arr1 s8, arr1 s9, arr1 s10, arr1 s11, arr1 t13, arr1 t14, arr1 t15, arr1 t16, arr1 t17, arr1 t18, arr1 t19, arr1 t20, arr1 t21, arr1 t22, arr1 t23, arr1 t24, arr1 t25, arr1 t26, arr1 t27]
  try simp (disch := omega) only [nm1, nm1', nsub1, np1, npd, nadd, n0m1, m1lt, nlt0, nge0, ngt0, nle0, nlt, nle, neq, neq0, m1n, m4n, vpn, vcl, ne_eq, bI_0, bI_1, bI_01, lit01, lit00, oI_s, oI_n, true_and, and_true, not_true_eq_false, not_false_eq_true, true_implies, false_implies, and_self, implies_true, forall_const, Bool.not_eq_false, Bool.not_eq_true, iu_s, iu_k1, iu_j1, ia_s1, ia_k1, lt2, lt3, lt5, lt6, lt7, lt8, lt9, lt10, lt11, lt12, lt13, lt15, lt16, lt17, lt20, lt26, lt30, lt32, lt36, lt50, lt60, lt64, lt100, lt300, lt400, lt500, lt1000, lt65536, lt100001, lt10000000, lt48, lt57, lt71, lt80, lt97, lt98, lt108, lt110, lt126, lt191, lt200, lt227, lt681, lt832, lt7919, lt1000000, lt18, lt45, lt65535, lt100000, decide_eq_true_eq, decide_eq_false_iff_not, Nat.le_refl, true_or, or_true, eq_self, hR.2.1, hR.2.2.2.1]
  unfold gA at hp
  cases hc : gC a l (gk a) with
  | some x =>
    have hx := gC_i hc
    rw [hc] at hp
    simp only at hp
    have e1 : oI (-1) (if gF a 0 x = 0 then none else some (gF a 2 x)) = eI (-1) a x := by
      unfold eI; split <;> rfl
    rw [e1] at hp
    rw [oI_s]
    refine ⟨fun h => ((m1n (by omega)).mp h).elim, fun _ => ?_⟩
    try simp (disch := omega) only [nm1, nm1', nsub1, np1, npd, nadd, n0m1, m1lt, nlt0, nge0, ngt0, nle0, nlt, nle, neq, neq0, m1n, m4n, vpn, vcl, ne_eq, bI_0, bI_1, bI_01, lit01, lit00, oI_s, oI_n, true_and, and_true, not_true_eq_false, not_false_eq_true, true_implies, false_implies, and_self, implies_true, forall_const, Bool.not_eq_false, Bool.not_eq_true, iu_s, iu_k1, iu_j1, ia_s1, ia_k1, lt2, lt3, lt5, lt6, lt7, lt8, lt9, lt10, lt11, lt12, lt13, lt15, lt16, lt17, lt20, lt26, lt30, lt32, lt36, lt50, lt60, lt64, lt100, lt300, lt400, lt500, lt1000, lt65536, lt100001, lt10000000, lt48, lt57, lt71, lt80, lt97, lt98, lt108, lt110, lt126, lt191, lt200, lt227, lt681, lt832, lt7919, lt1000000, lt18, lt45, lt65535, lt100000, decide_eq_true_eq, decide_eq_false_iff_not, Nat.le_refl, true_or, or_true, eq_self, hI.F2]
    exact hp
  | none =>
    rw [hc] at hp
    simp only at hp
    rw [oI_n]
    refine ⟨fun _ => ?_, fun h => absurd rfl h⟩
    cases hb : gBest a l with
    | none =>
      rw [hb] at hp
      rw [oI_n]
      refine f_isPassed0 hS ?_
      simp only [↓ap_cc, ↓ap_const, ↓ap_iload, ↓ap_aload, ↓ap_istore, ↓ap_astore, ↓ap_iinc, ↓ap_bin, ↓ap_idiv, ↓ap_irem, ↓ap_callSA, ↓ap_iretA, ↓ap_zretA, ↓ap_i2c, ↓ap_dup, ↓ap_dup2, ↓ap_nn, ↓ap_ic, ↓ap_if, ↓ap_sw, ↓ap_head, ↓ap_getI, ↓ap_getR, ↓ap_putI, ↓ap_putN, ↓ap_putR, ↓ap_iald, ↓ap_cald, ↓ap_iast, ↓ap_cast, ↓ap_aald, ↓ap_aast, ↓ap_alen, ↓ap_stat, ↓ap_pop, ↓ap_mm, ↓ap_copy, ↓ap_ret, ↓ap_iret, ↓ap_zret, ↓ap_aret, ↓ap_retA, ↓ap_new, ↓ap_newa, ↓ap_callV, ↓ap_callS, ↓ap_callI, am_in, List.map_cons, List.map_nil, List.getElem?_cons_zero, List.getElem?_cons_succ, List.set_cons_zero, List.set_cons_succ, List.take_succ_cons, List.take_zero, List.drop_succ_cons, List.drop_zero, List.reverse_cons, List.reverse_nil, List.nil_append, List.cons_append, List.append_nil, List.length_cons, List.length_nil, List.replicate_succ, List.replicate_zero, Option.toList_some, Option.toList_none, true_and, and_true, Option.some.injEq, exists_eq_left', am_wI_mk, am_wA_mk, am_wR_mk, Nat.reduceAdd, Nat.reduceSub, Nat.reduceLeDiff, Nat.zero_add, Nat.le_refl, not_true_eq_false, not_false_eq_true, forall_const, false_implies, true_implies, implies_true, and_self, Prod.mk.injEq, eq_self, true_or, or_true, false_and, and_false, or_false, false_or, Nat.reduceEqDiff, ↓a_X3_answerOf_49, ↓a_X3_answerOf_48, ↓a_X3_answerOf_25, ↓a_X3_answerOf_0, s0, s1, s2, s3, s4, s5, s6, s7, s8, s9, s10, s11, r1, r2, r3, r5, r6, r7, r8, r10, r11, r12, r13, t0, t13, t14, t15, t16, t17, t18, t19, t20, t21, t22, t23, t24, t25, t26, t27, q0, q1, q2, q3, q4, q5, q6, q7, q8, q9, q10, q11, q12, q13, q15, q16, arr1 s1, arr1 s2, arr1 s3, arr1 s4, arr1 s5, arr1 s6, arr1 s7, arr1 s8, arr1 s9, arr1 s10, arr1 s11, arr1 t13, arr1 t14, arr1 t15, arr1 t16, arr1 t17, arr1 t18, arr1 t19, arr1 t20, arr1 t21, arr1 t22, arr1 t23, arr1 t24, arr1 t25, arr1 t26, arr1 t27]
      exact hp
    | some b =>
      rw [hb] at hp
      simp only at hp
      have hm := gMay_i.mp (gBest_i hl hb).1
      rw [oI_s]
      refine f_isPassed hS hI hB hR.1 hl hm.1 hm.2.1 ?_
      simp only [↓ap_cc, ↓ap_const, ↓ap_iload, ↓ap_aload, ↓ap_istore, ↓ap_astore, ↓ap_iinc, ↓ap_bin, ↓ap_idiv, ↓ap_irem, ↓ap_callSA, ↓ap_iretA, ↓ap_zretA, ↓ap_i2c, ↓ap_dup, ↓ap_dup2, ↓ap_nn, ↓ap_ic, ↓ap_if, ↓ap_sw, ↓ap_head, ↓ap_getI, ↓ap_getR, ↓ap_putI, ↓ap_putN, ↓ap_putR, ↓ap_iald, ↓ap_cald, ↓ap_iast, ↓ap_cast, ↓ap_aald, ↓ap_aast, ↓ap_alen, ↓ap_stat, ↓ap_pop, ↓ap_mm, ↓ap_copy, ↓ap_ret, ↓ap_iret, ↓ap_zret, ↓ap_aret, ↓ap_retA, ↓ap_new, ↓ap_newa, ↓ap_callV, ↓ap_callS, ↓ap_callI, am_in, List.map_cons, List.map_nil, List.getElem?_cons_zero, List.getElem?_cons_succ, List.set_cons_zero, List.set_cons_succ, List.take_succ_cons, List.take_zero, List.drop_succ_cons, List.drop_zero, List.reverse_cons, List.reverse_nil, List.nil_append, List.cons_append, List.append_nil, List.length_cons, List.length_nil, List.replicate_succ, List.replicate_zero, Option.toList_some, Option.toList_none, true_and, and_true, Option.some.injEq, exists_eq_left', am_wI_mk, am_wA_mk, am_wR_mk, Nat.reduceAdd, Nat.reduceSub, Nat.reduceLeDiff, Nat.zero_add, Nat.le_refl, not_true_eq_false, not_false_eq_true, forall_const, false_implies, true_implies, implies_true, and_self, Prod.mk.injEq, eq_self, true_or, or_true, false_and, and_false, or_false, false_or, Nat.reduceEqDiff, ↓a_X3_answerOf_49, ↓a_X3_answerOf_48, ↓a_X3_answerOf_25, ↓a_X3_answerOf_0, s0, s1, s2, s3, s4, s5, s6, s7, s8, s9, s10, s11, r1, r2, r3, r5, r6, r7, r8, r10, r11, r12, r13, t0, t13, t14, t15, t16, t17, t18, t19, t20, t21, t22, t23, t24, t25, t26, t27, q0, q1, q2, q3, q4, q5, q6, q7, q8, q9, q10, q11, q12, q13, q15, q16, arr1 s1, arr1 s2, arr1 s3, arr1 s4, arr1 s5, arr1 s6, arr1 s7, arr1 s8, arr1 s9, arr1 s10, arr1 s11, arr1 t13, arr1 t14, arr1 t15, arr1 t16, arr1 t17, arr1 t18, arr1 t19, arr1 t20, arr1 t21, arr1 t22, arr1 t23, arr1 t24, arr1 t25, arr1 t26, arr1 t27]
      try simp (disch := omega) only [nm1, nm1', nsub1, np1, npd, nadd, n0m1, m1lt, nlt0, nge0, ngt0, nle0, nlt, nle, neq, neq0, m1n, m4n, vpn, vcl, ne_eq, bI_0, bI_1, bI_01, lit01, lit00, oI_s, oI_n, true_and, and_true, not_true_eq_false, not_false_eq_true, true_implies, false_implies, and_self, implies_true, forall_const, Bool.not_eq_false, Bool.not_eq_true, iu_s, iu_k1, iu_j1, ia_s1, ia_k1, lt2, lt3, lt5, lt6, lt7, lt8, lt9, lt10, lt11, lt12, lt13, lt15, lt16, lt17, lt20, lt26, lt30, lt32, lt36, lt50, lt60, lt64, lt100, lt300, lt400, lt500, lt1000, lt65536, lt100001, lt10000000, lt48, lt57, lt71, lt80, lt97, lt98, lt108, lt110, lt126, lt191, lt200, lt227, lt681, lt832, lt7919, lt1000000, lt18, lt45, lt65535, lt100000, decide_eq_true_eq, decide_eq_false_iff_not, Nat.le_refl, true_or, or_true, eq_self, hR.2.2.2.1]
      rw [hb, oI_s]
      refine ⟨fun h => ?_, fun h => ?_⟩
      · rw [if_neg (by omega)] at hp; exact hp
      · rw [if_pos (by omega)] at hp; exact hp
theorem f_join {x y k : Nat} (hS : ThS S R T) (hI : LogI I (T + 1) a) (hB : LgB a) (hO : OrdI I T a) (hx : x < 30) (hy : y < 30) (hxy : x ≠ y) (hk : k < gn a) (hp : ∀ I', Fr (T + 24) (T + 24) I I' → (∀ l, l < gn a → gR a l ≤ k → I' (T + 24) l = if I (T + 24) l = nI (if x < y then y else x) then nI (if x < y then x else y) else I (T + 24) l) → post none (S, I', R)) : sp_X3_join [.inr T, .inl (nI x), .inl (nI y), .inl (nI k)] (S, I, R) post := by
  obtain ⟨⟨⟨s0, s1, s2, s3, s4, s5, s6, s7, s8, s9, s10, s11⟩, r1, r2, r3, r5, r6, r7, r8, r10, r11, r12, r13⟩, ⟨t0, t13, t14, t15, t16, t17, t18, t19, t20, t21, t22, t23, t24, t25, t26, t27⟩, q0, q1, q2, q3, q4, q5, q6, q7, q8, q9, q10, q11, q12, q13, q15, q16⟩ := id hS
  have bn := hB.n
  have bk := hB.k
  obtain ⟨kp, hkp⟩ : ∃ kp, (if x < y then x else y) = kp := ⟨_, rfl⟩
  obtain ⟨go, hgo⟩ : ∃ go, (if x < y then y else x) = go := ⟨_, rfl⟩
  rw [hkp, hgo] at hp
  have bkp : kp < 30 := by rw [← hkp]; split <;> omega
  have bgo : go < 30 := by rw [← hgo]; split <;> omega
  have l17 : ∀ p, p ≤ k + 1 → ∀ I', Fr (T + 24) (T + 24) I I' → (∀ l, l < gn a → I' (T + 24) l = if gR a l < p ∧ I (T + 24) l = nI go then nI kp else I (T + 24) l) → am_OK h_X3_join post 17 [some (.inr T), some (.inl (nI x)), some (.inl (nI y)), some (.inl (nI k)), some (.inl (nI kp)), some (.inl (nI go)), some (.inl (nI p))] (S, I', R) := by
    refine dn (k + 1) ?_ ?_
    · intro I' hf h1
      apply am_fold; rw [h_X3_join_17]
      simp only [↓ap_cc, ↓ap_const, ↓ap_iload, ↓ap_aload, ↓ap_istore, ↓ap_astore, ↓ap_iinc, ↓ap_bin, ↓ap_idiv, ↓ap_irem, ↓ap_callSA, ↓ap_iretA, ↓ap_zretA, ↓ap_i2c, ↓ap_dup, ↓ap_dup2, ↓ap_nn, ↓ap_ic, ↓ap_if, ↓ap_sw, ↓ap_head, ↓ap_getI, ↓ap_getR, ↓ap_putI, ↓ap_putN, ↓ap_putR, ↓ap_iald, ↓ap_cald, ↓ap_iast, ↓ap_cast, ↓ap_aald, ↓ap_aast, ↓ap_alen, ↓ap_stat, ↓ap_pop, ↓ap_mm, ↓ap_copy, ↓ap_ret, ↓ap_iret, ↓ap_zret, ↓ap_aret, ↓ap_retA, ↓ap_new, ↓ap_newa, ↓ap_callV, ↓ap_callS, ↓ap_callI, am_in, List.map_cons, List.map_nil, List.getElem?_cons_zero, List.getElem?_cons_succ, List.set_cons_zero, List.set_cons_succ, List.take_succ_cons, List.take_zero, List.drop_succ_cons, List.drop_zero, List.reverse_cons, List.reverse_nil, List.nil_append, List.cons_append, List.append_nil, List.length_cons, List.length_nil, List.replicate_succ, List.replicate_zero, Option.toList_some, Option.toList_none, true_and, and_true, Option.some.injEq, exists_eq_left', am_wI_mk, am_wA_mk, am_wR_mk, Nat.reduceAdd, Nat.reduceSub, Nat.reduceLeDiff, Nat.zero_add, Nat.le_refl, not_true_eq_false, not_false_eq_true, forall_const, false_implies, true_implies, implies_true, and_self, Prod.mk.injEq, eq_self, true_or, or_true, false_and, and_false, or_false, false_or, Nat.reduceEqDiff, ↓a_X3_join_60, ↓a_X3_join_54, ↓a_X3_join_17, ↓a_X3_join_0, s0, s1, s2, s3, s4, s5, s6, s7, s8, s9, s10, s11, r1, r2, r3, r5, r6, r7, r8, r10, r11, r12, r13, t0, t13, t14, t15, t16, t17, t18, t19, t20, t21, t22, t23, t24, t25, t26, t27, q0, q1, q2, q3, q4, q5, q6, q7, q8, q9, q10, q11, q12, q13, q15, q16, arr1 s1, arr1 s2, arr1 s3, arr1 s4, arr1 s5, arr1 s6, arr1 s7, arr1 s8, arr1 s9, arr1 s10, arr1 s11, arr1 t13, arr1 t14, arr1 t15, arr1 t16, arr1 t17, arr1 t18, arr1 t19, arr1 t20, arr1 t21, arr1 t22, arr1 t23, arr1 t24, arr1 t25, arr1 t26, arr1 t27]
      try simp (disch := omega) only [nm1, nm1', nsub1, np1, npd, nadd, n0m1, m1lt, nlt0, nge0, ngt0, nle0, nlt, nle, neq, neq0, m1n, m4n, vpn, vcl, ne_eq, bI_0, bI_1, bI_01, lit01, lit00, oI_s, oI_n, true_and, and_true, not_true_eq_false, not_false_eq_true, true_implies, false_implies, and_self, implies_true, forall_const, Bool.not_eq_false, Bool.not_eq_true, iu_s, iu_k1, iu_j1, ia_s1, ia_k1, lt2, lt3, lt5, lt6, lt7, lt8, lt9, lt10, lt11, lt12, lt13, lt15, lt16, lt17, lt20, lt26, lt30, lt32, lt36, lt50, lt60, lt64, lt100, lt300, lt400, lt500, lt1000, lt65536, lt100001, lt10000000, lt48, lt57, lt71, lt80, lt97, lt98, lt108, lt110, lt126, lt191, lt200, lt227, lt681, lt832, lt7919, lt1000000, lt18, lt45, lt65535, lt100000, decide_eq_true_eq, decide_eq_false_iff_not, Nat.le_refl, true_or, or_true, eq_self]
      refine ⟨fun _ => hp I' hf (fun l hl hlk => ?_), fun h => by omega⟩
      rw [h1 l hl]
      by_cases hc : I (T + 24) l = nI go
      · rw [if_pos ⟨by omega, hc⟩, if_pos hc]
      · rw [if_neg (fun q => hc q.2), if_neg hc]
    · intro p hpk ih I' hf h1
      have hOp := gO_lt (a := a) (k := p) (by omega)
      have hRp := gR_gO (a := a) (k := p) (by omega)
      have hO' := hO.fr hf (by omega)
      apply am_fold; rw [h_X3_join_17]
      simp only [↓ap_cc, ↓ap_const, ↓ap_iload, ↓ap_aload, ↓ap_istore, ↓ap_astore, ↓ap_iinc, ↓ap_bin, ↓ap_idiv, ↓ap_irem, ↓ap_callSA, ↓ap_iretA, ↓ap_zretA, ↓ap_i2c, ↓ap_dup, ↓ap_dup2, ↓ap_nn, ↓ap_ic, ↓ap_if, ↓ap_sw, ↓ap_head, ↓ap_getI, ↓ap_getR, ↓ap_putI, ↓ap_putN, ↓ap_putR, ↓ap_iald, ↓ap_cald, ↓ap_iast, ↓ap_cast, ↓ap_aald, ↓ap_aast, ↓ap_alen, ↓ap_stat, ↓ap_pop, ↓ap_mm, ↓ap_copy, ↓ap_ret, ↓ap_iret, ↓ap_zret, ↓ap_aret, ↓ap_retA, ↓ap_new, ↓ap_newa, ↓ap_callV, ↓ap_callS, ↓ap_callI, am_in, List.map_cons, List.map_nil, List.getElem?_cons_zero, List.getElem?_cons_succ, List.set_cons_zero, List.set_cons_succ, List.take_succ_cons, List.take_zero, List.drop_succ_cons, List.drop_zero, List.reverse_cons, List.reverse_nil, List.nil_append, List.cons_append, List.append_nil, List.length_cons, List.length_nil, List.replicate_succ, List.replicate_zero, Option.toList_some, Option.toList_none, true_and, and_true, Option.some.injEq, exists_eq_left', am_wI_mk, am_wA_mk, am_wR_mk, Nat.reduceAdd, Nat.reduceSub, Nat.reduceLeDiff, Nat.zero_add, Nat.le_refl, not_true_eq_false, not_false_eq_true, forall_const, false_implies, true_implies, implies_true, and_self, Prod.mk.injEq, eq_self, true_or, or_true, false_and, and_false, or_false, false_or, Nat.reduceEqDiff, ↓a_X3_join_60, ↓a_X3_join_54, ↓a_X3_join_17, ↓a_X3_join_0, s0, s1, s2, s3, s4, s5, s6, s7, s8, s9, s10, s11, r1, r2, r3, r5, r6, r7, r8, r10, r11, r12, r13, t0, t13, t14, t15, t16, t17, t18, t19, t20, t21, t22, t23, t24, t25, t26, t27, q0, q1, q2, q3, q4, q5, q6, q7, q8, q9, q10, q11, q12, q13, q15, q16, arr1 s1, arr1 s2, arr1 s3, arr1 s4, arr1 s5, arr1 s6, arr1 s7, arr1 s8, arr1 s9, arr1 s10, arr1 s11, arr1 t13, arr1 t14, arr1 t15, arr1 t16, arr1 t17, arr1 t18, arr1 t19, arr1 t20, arr1 t21, arr1 t22, arr1 t23, arr1 t24, arr1 t25, arr1 t26, arr1 t27]
      try simp (disch := omega) only [nm1, nm1', nsub1, np1, npd, nadd, n0m1, m1lt, nlt0, nge0, ngt0, nle0, nlt, nle, neq, neq0, m1n, m4n, vpn, vcl, ne_eq, bI_0, bI_1, bI_01, lit01, lit00, oI_s, oI_n, true_and, and_true, not_true_eq_false, not_false_eq_true, true_implies, false_implies, and_self, implies_true, forall_const, Bool.not_eq_false, Bool.not_eq_true, iu_s, iu_k1, iu_j1, ia_s1, ia_k1, lt2, lt3, lt5, lt6, lt7, lt8, lt9, lt10, lt11, lt12, lt13, lt15, lt16, lt17, lt20, lt26, lt30, lt32, lt36, lt50, lt60, lt64, lt100, lt300, lt400, lt500, lt1000, lt65536, lt100001, lt10000000, lt48, lt57, lt71, lt80, lt97, lt98, lt108, lt110, lt126, lt191, lt200, lt227, lt681, lt832, lt7919, lt1000000, lt18, lt45, lt65535, lt100000, decide_eq_true_eq, decide_eq_false_iff_not, Nat.le_refl, true_or, or_true, eq_self, hO'.1]
      refine ⟨fun h => by omega, fun _ => ⟨fun h2 => ?_, fun h2 => ?_⟩⟩
      · refine ih I' hf (fun l hl => ?_)
        rw [h1 l hl]
        by_cases hlp : l = gO a p
        · subst hlp
          rw [h1 _ hl, hRp, if_neg (fun q => by omega)] at h2
          rw [hRp, if_neg (fun q => by omega), if_neg (fun q => h2 q.2)]
        · have : gR a l ≠ p := fun q => hlp (by rw [← q, gO_gR hl])
          by_cases hc : gR a l < p ∧ I (T + 24) l = nI go
          · rw [if_pos hc, if_pos ⟨by omega, hc.2⟩]
          · rw [if_neg hc, if_neg (fun q => hc ⟨by omega, q.2⟩)]
      · refine ih _ (hf.u (by omega) (by omega)) (fun l hl => ?_)
        rw [iu_i]
        by_cases hlp : l = gO a p
        · subst hlp
          have h3 := Classical.byContradiction h2
          rw [h1 _ hl, hRp, if_neg (fun q => by omega)] at h3
          rw [if_pos rfl, hRp, if_pos ⟨by omega, h3⟩]
        · have : gR a l ≠ p := fun q => hlp (by rw [← q, gO_gR hl])
          rw [if_neg hlp, h1 l hl]
          by_cases hc : gR a l < p ∧ I (T + 24) l = nI go
          · rw [if_pos hc, if_pos ⟨by omega, hc.2⟩]
          · rw [if_neg hc, if_neg (fun q => hc ⟨by omega, q.2⟩)]
  refine ⟨Nat.le_of_ble_eq_true rfl, am_fold ?_⟩; rw [h_X3_join_0]
  simp only [↓ap_cc, ↓ap_const, ↓ap_iload, ↓ap_aload, ↓ap_istore, ↓ap_astore, ↓ap_iinc, ↓ap_bin, ↓ap_idiv, ↓ap_irem, ↓ap_callSA, ↓ap_iretA, ↓ap_zretA, ↓ap_i2c, ↓ap_dup, ↓ap_dup2, ↓ap_nn, ↓ap_ic, ↓ap_if, ↓ap_sw, ↓ap_head, ↓ap_getI, ↓ap_getR, ↓ap_putI, ↓ap_putN, ↓ap_putR, ↓ap_iald, ↓ap_cald, ↓ap_iast, ↓ap_cast, ↓ap_aald, ↓ap_aast, ↓ap_alen, ↓ap_stat, ↓ap_pop, ↓ap_mm, ↓ap_copy, ↓ap_ret, ↓ap_iret, ↓ap_zret, ↓ap_aret, ↓ap_retA, ↓ap_new, ↓ap_newa, ↓ap_callV, ↓ap_callS, ↓ap_callI, am_in, List.map_cons, List.map_nil, List.getElem?_cons_zero, List.getElem?_cons_succ, List.set_cons_zero, List.set_cons_succ, List.take_succ_cons, List.take_zero, List.drop_succ_cons, List.drop_zero, List.reverse_cons, List.reverse_nil, List.nil_append, List.cons_append, List.append_nil, List.length_cons, List.length_nil, List.replicate_succ, List.replicate_zero, Option.toList_some, Option.toList_none, true_and, and_true, Option.some.injEq, exists_eq_left', am_wI_mk, am_wA_mk, am_wR_mk, Nat.reduceAdd, Nat.reduceSub, Nat.reduceLeDiff, Nat.zero_add, Nat.le_refl, not_true_eq_false, not_false_eq_true, forall_const, false_implies, true_implies, implies_true, and_self, Prod.mk.injEq, eq_self, true_or, or_true, false_and, and_false, or_false, false_or, Nat.reduceEqDiff, ↓a_X3_join_60, ↓a_X3_join_54, ↓a_X3_join_17, ↓a_X3_join_0, s0, s1, s2, s3, s4, s5, s6, s7, s8, s9, s10, s11, r1, r2, r3, r5, r6, r7, r8, r10, r11, r12, r13, t0, t13, t14, t15, t16, t17, t18, t19, t20, t21, t22, t23, t24, t25, t26, t27, q0, q1, q2, q3, q4, q5, q6, q7, q8, q9, q10, q11, q12, q13, q15, q16, arr1 s1, arr1 s2, arr1 s3, arr1 s4, arr1 s5, arr1 s6, arr1 s7, arr1 s8, arr1 s9, arr1 s10, arr1 s11, arr1 t13, arr1 t14, arr1 t15, arr1 t16, arr1 t17, arr1 t18, arr1 t19, arr1 t20, arr1 t21, arr1 t22, arr1 t23, arr1 t24, arr1 t25, arr1 t26, arr1 t27]
  have e1 : (if nI y < nI x then nI y else nI x) = nI (if x < y then x else y) := by
    by_cases h : x < y
    · rw [if_pos h, if_neg (fun q => by rw [nlt (by omega) (by omega)] at q; omega)]
    · rw [if_neg h, if_pos (by rw [nlt (by omega) (by omega)]; omega)]
  have e2 : (if nI x < nI y then nI y else nI x) = nI (if x < y then y else x) := by
    by_cases h : x < y
    · rw [if_pos h, if_pos (by rw [nlt (by omega) (by omega)]; omega)]
    · rw [if_neg h, if_neg (fun q => by rw [nlt (by omega) (by omega)] at q; omega)]
  rw [e1, e2, hkp, hgo]
  exact l17 0 (by omega) I Fr.rfl (fun l hl => by rw [if_neg (fun q => by omega)])
/-- the first places of lines that hold q, of the first p places -/
def hv (a : Lg) (q : Nat → Bool) (fp : Nat → Nat) : Nat → Nat → Bool
  | 0, _ => false
  | p + 1, v => hv a q fp p v || (q (gO a p) && decide (fp (gO a p) = v))
theorem hv_i {q : Nat → Bool} {fp : Nat → Nat} : ∀ {p v : Nat}, hv a q fp p v = true ↔ ∃ i, i < p ∧ q (gO a i) = true ∧ fp (gO a i) = v
  | 0, v => by simp [hv]
  | p + 1, v => by
    rw [hv, Bool.or_eq_true, hv_i, Bool.and_eq_true, decide_eq_true_eq]
    constructor
    · rintro (⟨i, h1, h2⟩ | h)
      · exact ⟨i, by omega, h2⟩
      · exact ⟨p, by omega, h⟩
    · rintro ⟨i, h1, h2⟩
      by_cases hip : i = p
      · subst hip; exact Or.inr h2
      · exact Or.inl ⟨i, by omega, h2⟩
theorem hv_has {q : Nat → Bool} {fp : Nat → Nat} {k v : Nat} (hk : k ≤ gn a) (h : ∀ e, q e = true → e < gn a ∧ gR a e < k) : hv a q fp k v = hasV q fp (gn a) v := by
  rw [Bool.eq_iff_iff, hv_i, hasV_i]
  constructor
  · rintro ⟨i, h1, h2, h3⟩; exact ⟨gO a i, gO_lt (by omega), h2, h3⟩
  · rintro ⟨e, h1, h2, h3⟩
    have := h e h2
    exact ⟨gR a e, this.2, by rw [gO_gR h1]; exact h2, by rw [gO_gR h1]; exact h3⟩
def gVp (a : Lg) (q : Nat → Bool) (fp : Nat → Nat) (b p v : Nat) : Bool := decide (v = fp b) || hv a q fp p v
theorem gVp_b (q : Nat → Bool) (fp : Nat → Nat) (b p : Nat) : gVp a q fp b p (fp b) = true := by unfold gVp; simp
theorem gVp_s (q : Nat → Bool) (fp : Nat → Nat) (b p v : Nat) : gVp a q fp b (p + 1) v = (gVp a q fp b p v || (q (gO a p) && decide (fp (gO a p) = v))) := by
  unfold gVp; rw [hv, Bool.or_assoc]
/-- the joins counted up to place p -/
def gJp (a : Lg) (q : Nat → Bool) (fp : Nat → Nat) (b p : Nat) : Nat := cnt (fun v => hv a q fp p v && decide (v ≠ fp b)) (gn a)
/-- one more rival whose thread was joined before changes nothing -/
theorem join_same {q : Nat → Bool} {fp : Nat → Nat} {b p : Nat} (h : q (gO a p) = false ∨ gVp a q fp b p (fp (gO a p)) = true) : (∀ v, gVp a q fp b (p + 1) v = gVp a q fp b p v) ∧ gJp a q fp b (p + 1) = gJp a q fp b p := by
  have one : ∀ v, gVp a q fp b (p + 1) v = gVp a q fp b p v := by
    intro v
    rw [gVp_s]
    cases hq : q (gO a p) with
    | false => simp
    | true =>
      rw [hq] at h
      by_cases hv : fp (gO a p) = v
      · rw [hv] at h; simp at h; rw [h]; rfl
      · simp [hv]
  refine ⟨one, cnt_congr (fun v _ => ?_)⟩
  by_cases hvb : v = fp b
  · simp [hvb]
  · have := one v
    unfold gVp at this
    simp only [hvb, decide_false, Bool.false_or] at this
    rw [this]
/-- one more rival with a thread of its own: one join more -/
theorem join_more {q : Nat → Bool} {fp : Nat → Nat} {b p : Nat} (hq : q (gO a p) = true) (hn : gVp a q fp b p (fp (gO a p)) = false) (hl : fp (gO a p) < gn a) : gJp a q fp b (p + 1) = gJp a q fp b p + 1 := by
  unfold gVp at hn
  rw [Bool.or_eq_false_iff, decide_eq_false_iff_not] at hn
  refine cnt_add hl ?_ ?_ (fun v hne => ?_)
  · rw [hn.2]; rfl
  · rw [hv, hq]; simp [hn.1]
  · rw [hv, hq]
    have : ¬ fp (gO a p) = v := fun q => hne q.symm
    simp [this]
theorem nite {x y u v : Nat} (hx : x < 2147483648) (hy : y < 2147483648) : (if nI x = nI y then nI u else nI v) = nI (if x = y then u else v) := by
  by_cases h : x = y
  · rw [if_pos h, if_pos (by rw [h])]
  · rw [if_neg h, if_neg (fun q => h ((neq hx hy).mp q))]
theorem join_mn {V V' : Nat → Bool} {n e : Nat} (hm : V (mn V n) = true ∧ mn V n < n ∧ ∀ w, V w = true → mn V n ≤ w) (he : e < n) (hV' : ∀ v, V' v = (V v || decide (e = v))) : mn V' n = if mn V n < e then mn V n else e := by
  refine mn_eq ?_ ?_ (fun w hw => ?_)
  · rw [hV']; split
    · rw [hm.1]; rfl
    · simp
  · split <;> omega
  · rw [hV', Bool.or_eq_true, decide_eq_true_eq] at hw
    rcases hw with h | h
    · have := hm.2.2 w h; split <;> omega
    · split <;> omega
theorem join_val {V V' : Nat → Bool} {n e f : Nat} (hm : V (mn V n) = true ∧ mn V n < n ∧ ∀ w, V w = true → mn V n ≤ w) (he : e < n) (hVe : V e = false) (hV' : ∀ v, V' v = (V v || decide (e = v))) : (if (if V f = true then mn V n else f) = (if mn V n < e then e else mn V n) then (if mn V n < e then mn V n else e) else (if V f = true then mn V n else f)) = if V' f = true then mn V' n else f := by
  have hne : mn V n ≠ e := fun q => by rw [q, hVe] at hm; cases hm.1
  rw [join_mn hm he hV', hV']
  by_cases hf : V f = true
  · simp only [hf, if_true, Bool.true_or]
    by_cases hlt : mn V n < e
    · simp only [hlt, if_true]; rw [if_neg hne]
    · simp only [hlt, if_false, if_true]
  · have hf' : V f = false := by simpa using hf
    have hfm : f ≠ mn V n := fun q => hf (by rw [q]; exact hm.1)
    simp only [hf', Bool.false_eq_true, if_false, Bool.false_or, decide_eq_true_eq]
    by_cases hlt : mn V n < e
    · simp only [hlt, if_true]
      by_cases hfe : f = e
      · rw [if_pos hfe, if_pos hfe.symm]
      · rw [if_neg hfe, if_neg (fun q => hfe q.symm)]
    · simp only [hlt, if_false]
      rw [if_neg hfm]
      by_cases hfe : e = f
      · rw [if_pos hfe, hfe]
      · rw [if_neg hfe]
/-- first places while line l joins: those of lines done before, and its own -/
def JnI (I : Nat → Nat → Int32) (T : Nat) (a : Lg) (k : Nat) (q : Nat → Bool) (fp : Nat → Nat) (b p : Nat) : Prop := (∀ x, x < gn a → gR a x < k → I (T + 24) x = nI (if gVp a q fp b p (fp x) = true then mn (gVp a q fp b p) (gn a) else fp x)) ∧ I (T + 24) (gO a k) = nI (mn (gVp a q fp b p) (gn a)) ∧ I (T + 22) (gO a k) = nI (gJp a q fp b p)
theorem f_joinRivals {k b : Nat} {fp : Nat → Nat} (hS : ThS S R T) (hI : LogI I (T + 1) a) (hB : LgB a) (hO : OrdI I T a) (hR : RatL I T a (gO a k)) (hk : k < gn a) (hfp : ∀ x, x < gn a → gR a x < k → fp x < k) (hb : b < gn a ∧ gR a b < k) (hJ : JnI I T a k (gQ a (gs a 1) (gO a k)) fp b 0) (hp : ∀ I', Fr (T + 22) (T + 24) I I' → (∀ j, I' (T + 23) j = I (T + 23) j) → (∀ j, j ≠ gO a k → I' (T + 22) j = I (T + 22) j) → JnI I' T a k (gQ a (gs a 1) (gO a k)) fp b k → post none (S, I', R)) : sp_X3_joinRivals [.inr T, .inl (nI (gO a k))] (S, I, R) post := by
  obtain ⟨⟨⟨s0, s1, s2, s3, s4, s5, s6, s7, s8, s9, s10, s11⟩, r1, r2, r3, r5, r6, r7, r8, r10, r11, r12, r13⟩, ⟨t0, t13, t14, t15, t16, t17, t18, t19, t20, t21, t22, t23, t24, t25, t26, t27⟩, q0, q1, q2, q3, q4, q5, q6, q7, q8, q9, q10, q11, q12, q13, q15, q16⟩ := id hS
  have bn := hB.n
  have bk := hB.k
  have hl := gO_lt (a := a) hk
  have hRk := gR_gO (a := a) hk
  have bfb := hfp b hb.1 hb.2
  have l2 : ∀ p, p ≤ k → ∀ I' (o : Option am_V), Fr (T + 22) (T + 24) I I' → (∀ j, I' (T + 23) j = I (T + 23) j) → (∀ j, j ≠ gO a k → I' (T + 22) j = I (T + 22) j) → JnI I' T a k (gQ a (gs a 1) (gO a k)) fp b p → am_OK h_X3_joinRivals post 2 [some (.inr T), some (.inl (nI (gO a k))), some (.inl (nI p)), o] (S, I', R) := by
    refine dn k ?_ ?_
    · intro I' o hf h23 h22 hJ
      have hO' := hO.fr hf (by omega)
      apply am_fold; rw [h_X3_joinRivals_2]
      simp only [↓ap_cc, ↓ap_const, ↓ap_iload, ↓ap_aload, ↓ap_istore, ↓ap_astore, ↓ap_iinc, ↓ap_bin, ↓ap_idiv, ↓ap_irem, ↓ap_callSA, ↓ap_iretA, ↓ap_zretA, ↓ap_i2c, ↓ap_dup, ↓ap_dup2, ↓ap_nn, ↓ap_ic, ↓ap_if, ↓ap_sw, ↓ap_head, ↓ap_getI, ↓ap_getR, ↓ap_putI, ↓ap_putN, ↓ap_putR, ↓ap_iald, ↓ap_cald, ↓ap_iast, ↓ap_cast, ↓ap_aald, ↓ap_aast, ↓ap_alen, ↓ap_stat, ↓ap_pop, ↓ap_mm, ↓ap_copy, ↓ap_ret, ↓ap_iret, ↓ap_zret, ↓ap_aret, ↓ap_retA, ↓ap_new, ↓ap_newa, ↓ap_callV, ↓ap_callS, ↓ap_callI, am_in, List.map_cons, List.map_nil, List.getElem?_cons_zero, List.getElem?_cons_succ, List.set_cons_zero, List.set_cons_succ, List.take_succ_cons, List.take_zero, List.drop_succ_cons, List.drop_zero, List.reverse_cons, List.reverse_nil, List.nil_append, List.cons_append, List.append_nil, List.length_cons, List.length_nil, List.replicate_succ, List.replicate_zero, Option.toList_some, Option.toList_none, true_and, and_true, Option.some.injEq, exists_eq_left', am_wI_mk, am_wA_mk, am_wR_mk, Nat.reduceAdd, Nat.reduceSub, Nat.reduceLeDiff, Nat.zero_add, Nat.le_refl, not_true_eq_false, not_false_eq_true, forall_const, false_implies, true_implies, implies_true, and_self, Prod.mk.injEq, eq_self, true_or, or_true, false_and, and_false, or_false, false_or, Nat.reduceEqDiff, ↓a_X3_joinRivals_94, ↓a_X3_joinRivals_88, ↓a_X3_joinRivals_2, ↓a_X3_joinRivals_0, s0, s1, s2, s3, s4, s5, s6, s7, s8, s9, s10, s11, r1, r2, r3, r5, r6, r7, r8, r10, r11, r12, r13, t0, t13, t14, t15, t16, t17, t18, t19, t20, t21, t22, t23, t24, t25, t26, t27, q0, q1, q2, q3, q4, q5, q6, q7, q8, q9, q10, q11, q12, q13, q15, q16, arr1 s1, arr1 s2, arr1 s3, arr1 s4, arr1 s5, arr1 s6, arr1 s7, arr1 s8, arr1 s9, arr1 s10, arr1 s11, arr1 t13, arr1 t14, arr1 t15, arr1 t16, arr1 t17, arr1 t18, arr1 t19, arr1 t20, arr1 t21, arr1 t22, arr1 t23, arr1 t24, arr1 t25, arr1 t26, arr1 t27]
      try simp (disch := omega) only [nm1, nm1', nsub1, np1, npd, nadd, n0m1, m1lt, nlt0, nge0, ngt0, nle0, nlt, nle, neq, neq0, m1n, m4n, vpn, vcl, ne_eq, bI_0, bI_1, bI_01, lit01, lit00, oI_s, oI_n, true_and, and_true, not_true_eq_false, not_false_eq_true, true_implies, false_implies, and_self, implies_true, forall_const, Bool.not_eq_false, Bool.not_eq_true, iu_s, iu_k1, iu_j1, ia_s1, ia_k1, lt2, lt3, lt5, lt6, lt7, lt8, lt9, lt10, lt11, lt12, lt13, lt15, lt16, lt17, lt20, lt26, lt30, lt32, lt36, lt50, lt60, lt64, lt100, lt300, lt400, lt500, lt1000, lt65536, lt100001, lt10000000, lt48, lt57, lt71, lt80, lt97, lt98, lt108, lt110, lt126, lt191, lt200, lt227, lt681, lt832, lt7919, lt1000000, lt18, lt45, lt65535, lt100000, decide_eq_true_eq, decide_eq_false_iff_not, Nat.le_refl, true_or, or_true, eq_self, hO'.2]
      rw [hRk]
      try simp (disch := omega) only [nm1, nm1', nsub1, np1, npd, nadd, n0m1, m1lt, nlt0, nge0, ngt0, nle0, nlt, nle, neq, neq0, m1n, m4n, vpn, vcl, ne_eq, bI_0, bI_1, bI_01, lit01, lit00, oI_s, oI_n, true_and, and_true, not_true_eq_false, not_false_eq_true, true_implies, false_implies, and_self, implies_true, forall_const, Bool.not_eq_false, Bool.not_eq_true, iu_s, iu_k1, iu_j1, ia_s1, ia_k1, lt2, lt3, lt5, lt6, lt7, lt8, lt9, lt10, lt11, lt12, lt13, lt15, lt16, lt17, lt20, lt26, lt30, lt32, lt36, lt50, lt60, lt64, lt100, lt300, lt400, lt500, lt1000, lt65536, lt100001, lt10000000, lt48, lt57, lt71, lt80, lt97, lt98, lt108, lt110, lt126, lt191, lt200, lt227, lt681, lt832, lt7919, lt1000000, lt18, lt45, lt65535, lt100000, decide_eq_true_eq, decide_eq_false_iff_not, Nat.le_refl, true_or, or_true, eq_self]
      exact hp I' hf h23 h22 hJ
    · intro p hpk ih I' o hf h23 h22 hJ
      have hO' := hO.fr hf (by omega)
      have hI' := hI.fr hf (by omega)
      have hR' := hR.fr hf (by omega)
      have he := gO_lt (a := a) (k := p) (by omega)
      have hRe := gR_gO (a := a) (k := p) (by omega)
      have hE : gE a (gO a p) (gO a k) := gO_srt hpk hk
      have bfe := hfp (gO a p) he (by omega)
      have vb := gVp_b (a := a) (gQ a (gs a 1) (gO a k)) fp b p
      have hm := mn_i vb (n := gn a) (by omega)
      have hmb := hm.2.2 _ vb
      have brv : bts (gRv a (gO a k)) (gn a) < 2 ^ gn a := bts_lt _ _
      have pw : (2 : Nat) ^ gn a ≤ 2 ^ 30 := Nat.pow_le_pow_right (by decide) bn
      have same : (gQ a (gs a 1) (gO a k) (gO a p) = false ∨ gVp a (gQ a (gs a 1) (gO a k)) fp b p (fp (gO a p)) = true) → ∀ o : Option am_V, am_OK h_X3_joinRivals post 2 [some (.inr T), some (.inl (nI (gO a k))), some (.inl (nI (p + 1))), o] (S, I', R) := by
        intro h o
        have js := join_same h
        have eV : gVp a (gQ a (gs a 1) (gO a k)) fp b (p + 1) = gVp a (gQ a (gs a 1) (gO a k)) fp b p := funext js.1
        refine ih I' o hf h23 h22 ?_
        unfold JnI at hJ ⊢
        rw [eV, js.2]; exact hJ
      apply am_fold; rw [h_X3_joinRivals_2]
      simp only [↓ap_cc, ↓ap_const, ↓ap_iload, ↓ap_aload, ↓ap_istore, ↓ap_astore, ↓ap_iinc, ↓ap_bin, ↓ap_idiv, ↓ap_irem, ↓ap_callSA, ↓ap_iretA, ↓ap_zretA, ↓ap_i2c, ↓ap_dup, ↓ap_dup2, ↓ap_nn, ↓ap_ic, ↓ap_if, ↓ap_sw, ↓ap_head, ↓ap_getI, ↓ap_getR, ↓ap_putI, ↓ap_putN, ↓ap_putR, ↓ap_iald, ↓ap_cald, ↓ap_iast, ↓ap_cast, ↓ap_aald, ↓ap_aast, ↓ap_alen, ↓ap_stat, ↓ap_pop, ↓ap_mm, ↓ap_copy, ↓ap_ret, ↓ap_iret, ↓ap_zret, ↓ap_aret, ↓ap_retA, ↓ap_new, ↓ap_newa, ↓ap_callV, ↓ap_callS, ↓ap_callI, am_in, List.map_cons, List.map_nil, List.getElem?_cons_zero, List.getElem?_cons_succ, List.set_cons_zero, List.set_cons_succ, List.take_succ_cons, List.take_zero, List.drop_succ_cons, List.drop_zero, List.reverse_cons, List.reverse_nil, List.nil_append, List.cons_append, List.append_nil, List.length_cons, List.length_nil, List.replicate_succ, List.replicate_zero, Option.toList_some, Option.toList_none, true_and, and_true, Option.some.injEq, exists_eq_left', am_wI_mk, am_wA_mk, am_wR_mk, Nat.reduceAdd, Nat.reduceSub, Nat.reduceLeDiff, Nat.zero_add, Nat.le_refl, not_true_eq_false, not_false_eq_true, forall_const, false_implies, true_implies, implies_true, and_self, Prod.mk.injEq, eq_self, true_or, or_true, false_and, and_false, or_false, false_or, Nat.reduceEqDiff, ↓a_X3_joinRivals_94, ↓a_X3_joinRivals_88, ↓a_X3_joinRivals_2, ↓a_X3_joinRivals_0, s0, s1, s2, s3, s4, s5, s6, s7, s8, s9, s10, s11, r1, r2, r3, r5, r6, r7, r8, r10, r11, r12, r13, t0, t13, t14, t15, t16, t17, t18, t19, t20, t21, t22, t23, t24, t25, t26, t27, q0, q1, q2, q3, q4, q5, q6, q7, q8, q9, q10, q11, q12, q13, q15, q16, arr1 s1, arr1 s2, arr1 s3, arr1 s4, arr1 s5, arr1 s6, arr1 s7, arr1 s8, arr1 s9, arr1 s10, arr1 s11, arr1 t13, arr1 t14, arr1 t15, arr1 t16, arr1 t17, arr1 t18, arr1 t19, arr1 t20, arr1 t21, arr1 t22, arr1 t23, arr1 t24, arr1 t25, arr1 t26, arr1 t27]
      try simp (disch := omega) only [nm1, nm1', nsub1, np1, npd, nadd, n0m1, m1lt, nlt0, nge0, ngt0, nle0, nlt, nle, neq, neq0, m1n, m4n, vpn, vcl, ne_eq, bI_0, bI_1, bI_01, lit01, lit00, oI_s, oI_n, true_and, and_true, not_true_eq_false, not_false_eq_true, true_implies, false_implies, and_self, implies_true, forall_const, Bool.not_eq_false, Bool.not_eq_true, iu_s, iu_k1, iu_j1, ia_s1, ia_k1, lt2, lt3, lt5, lt6, lt7, lt8, lt9, lt10, lt11, lt12, lt13, lt15, lt16, lt17, lt20, lt26, lt30, lt32, lt36, lt50, lt60, lt64, lt100, lt300, lt400, lt500, lt1000, lt65536, lt100001, lt10000000, lt48, lt57, lt71, lt80, lt97, lt98, lt108, lt110, lt126, lt191, lt200, lt227, lt681, lt832, lt7919, lt1000000, lt18, lt45, lt65535, lt100000, decide_eq_true_eq, decide_eq_false_iff_not, Nat.le_refl, true_or, or_true, eq_self, hO'.2, hO'.1, hR'.2.2.2.2]
      rw [hRk]
      refine ⟨fun h => ?_, fun _ => f_isIn (by omega) (by omega) ?_⟩
      · omega
      simp only [↓ap_cc, ↓ap_const, ↓ap_iload, ↓ap_aload, ↓ap_istore, ↓ap_astore, ↓ap_iinc, ↓ap_bin, ↓ap_idiv, ↓ap_irem, ↓ap_callSA, ↓ap_iretA, ↓ap_zretA, ↓ap_i2c, ↓ap_dup, ↓ap_dup2, ↓ap_nn, ↓ap_ic, ↓ap_if, ↓ap_sw, ↓ap_head, ↓ap_getI, ↓ap_getR, ↓ap_putI, ↓ap_putN, ↓ap_putR, ↓ap_iald, ↓ap_cald, ↓ap_iast, ↓ap_cast, ↓ap_aald, ↓ap_aast, ↓ap_alen, ↓ap_stat, ↓ap_pop, ↓ap_mm, ↓ap_copy, ↓ap_ret, ↓ap_iret, ↓ap_zret, ↓ap_aret, ↓ap_retA, ↓ap_new, ↓ap_newa, ↓ap_callV, ↓ap_callS, ↓ap_callI, am_in, List.map_cons, List.map_nil, List.getElem?_cons_zero, List.getElem?_cons_succ, List.set_cons_zero, List.set_cons_succ, List.take_succ_cons, List.take_zero, List.drop_succ_cons, List.drop_zero, List.reverse_cons, List.reverse_nil, List.nil_append, List.cons_append, List.append_nil, List.length_cons, List.length_nil, List.replicate_succ, List.replicate_zero, Option.toList_some, Option.toList_none, true_and, and_true, Option.some.injEq, exists_eq_left', am_wI_mk, am_wA_mk, am_wR_mk, Nat.reduceAdd, Nat.reduceSub, Nat.reduceLeDiff, Nat.zero_add, Nat.le_refl, not_true_eq_false, not_false_eq_true, forall_const, false_implies, true_implies, implies_true, and_self, Prod.mk.injEq, eq_self, true_or, or_true, false_and, and_false, or_false, false_or, Nat.reduceEqDiff, ↓a_X3_joinRivals_94, ↓a_X3_joinRivals_88, ↓a_X3_joinRivals_2, ↓a_X3_joinRivals_0, s0, s1, s2, s3, s4, s5, s6, s7, s8, s9, s10, s11, r1, r2, r3, r5, r6, r7, r8, r10, r11, r12, r13, t0, t13, t14, t15, t16, t17, t18, t19, t20, t21, t22, t23, t24, t25, t26, t27, q0, q1, q2, q3, q4, q5, q6, q7, q8, q9, q10, q11, q12, q13, q15, q16, arr1 s1, arr1 s2, arr1 s3, arr1 s4, arr1 s5, arr1 s6, arr1 s7, arr1 s8, arr1 s9, arr1 s10, arr1 s11, arr1 t13, arr1 t14, arr1 t15, arr1 t16, arr1 t17, arr1 t18, arr1 t19, arr1 t20, arr1 t21, arr1 t22, arr1 t23, arr1 t24, arr1 t25, arr1 t26, arr1 t27]
      try simp (disch := omega) only [nm1, nm1', nsub1, np1, npd, nadd, n0m1, m1lt, nlt0, nge0, ngt0, nle0, nlt, nle, neq, neq0, m1n, m4n, vpn, vcl, ne_eq, bI_0, bI_1, bI_01, lit01, lit00, oI_s, oI_n, true_and, and_true, not_true_eq_false, not_false_eq_true, true_implies, false_implies, and_self, implies_true, forall_const, Bool.not_eq_false, Bool.not_eq_true, iu_s, iu_k1, iu_j1, ia_s1, ia_k1, lt2, lt3, lt5, lt6, lt7, lt8, lt9, lt10, lt11, lt12, lt13, lt15, lt16, lt17, lt20, lt26, lt30, lt32, lt36, lt50, lt60, lt64, lt100, lt300, lt400, lt500, lt1000, lt65536, lt100001, lt10000000, lt48, lt57, lt71, lt80, lt97, lt98, lt108, lt110, lt126, lt191, lt200, lt227, lt681, lt832, lt7919, lt1000000, lt18, lt45, lt65535, lt100000, decide_eq_true_eq, decide_eq_false_iff_not, Nat.le_refl, true_or, or_true, eq_self, bts_t]
      rw [decide_eq_true he, Bool.true_and]
      refine ⟨fun h => same (Or.inl (by unfold gQ; rw [h]; rfl)) _, fun h => ?_⟩
      rw [hJ.1 _ he (by omega), hJ.2.1]
      by_cases hV : gVp a (gQ a (gs a 1) (gO a k)) fp b p (fp (gO a p)) = true
      · rw [if_pos hV]
        exact ⟨fun _ => same (Or.inr hV) _, fun h2 => absurd rfl h2⟩
      · rw [if_neg hV]
        have hne : fp (gO a p) ≠ mn (gVp a (gQ a (gs a 1) (gO a k)) fp b p) (gn a) := fun q => hV (by rw [q]; exact hm.1)
        refine ⟨fun h2 => ?_, fun _ => f_isPassed hS hI' hB hR'.1 hl he hE ?_⟩
        · rw [neq (by omega) (by omega)] at h2; exact absurd h2 hne
        simp only [↓ap_cc, ↓ap_const, ↓ap_iload, ↓ap_aload, ↓ap_istore, ↓ap_astore, ↓ap_iinc, ↓ap_bin, ↓ap_idiv, ↓ap_irem, ↓ap_callSA, ↓ap_iretA, ↓ap_zretA, ↓ap_i2c, ↓ap_dup, ↓ap_dup2, ↓ap_nn, ↓ap_ic, ↓ap_if, ↓ap_sw, ↓ap_head, ↓ap_getI, ↓ap_getR, ↓ap_putI, ↓ap_putN, ↓ap_putR, ↓ap_iald, ↓ap_cald, ↓ap_iast, ↓ap_cast, ↓ap_aald, ↓ap_aast, ↓ap_alen, ↓ap_stat, ↓ap_pop, ↓ap_mm, ↓ap_copy, ↓ap_ret, ↓ap_iret, ↓ap_zret, ↓ap_aret, ↓ap_retA, ↓ap_new, ↓ap_newa, ↓ap_callV, ↓ap_callS, ↓ap_callI, am_in, List.map_cons, List.map_nil, List.getElem?_cons_zero, List.getElem?_cons_succ, List.set_cons_zero, List.set_cons_succ, List.take_succ_cons, List.take_zero, List.drop_succ_cons, List.drop_zero, List.reverse_cons, List.reverse_nil, List.nil_append, List.cons_append, List.append_nil, List.length_cons, List.length_nil, List.replicate_succ, List.replicate_zero, Option.toList_some, Option.toList_none, true_and, and_true, Option.some.injEq, exists_eq_left', am_wI_mk, am_wA_mk, am_wR_mk, Nat.reduceAdd, Nat.reduceSub, Nat.reduceLeDiff, Nat.zero_add, Nat.le_refl, not_true_eq_false, not_false_eq_true, forall_const, false_implies, true_implies, implies_true, and_self, Prod.mk.injEq, eq_self, true_or, or_true, false_and, and_false, or_false, false_or, Nat.reduceEqDiff, ↓a_X3_joinRivals_94, ↓a_X3_joinRivals_88, ↓a_X3_joinRivals_2, ↓a_X3_joinRivals_0, s0, s1, s2, s3, s4, s5, s6, s7, s8, s9, s10, s11, r1, r2, r3, r5, r6, r7, r8, r10, r11, r12, r13, t0, t13, t14, t15, t16, t17, t18, t19, t20, t21, t22, t23, t24, t25, t26, t27, q0, q1, q2, q3, q4, q5, q6, q7, q8, q9, q10, q11, q12, q13, q15, q16, arr1 s1, arr1 s2, arr1 s3, arr1 s4, arr1 s5, arr1 s6, arr1 s7, arr1 s8, arr1 s9, arr1 s10, arr1 s11, arr1 t13, arr1 t14, arr1 t15, arr1 t16, arr1 t17, arr1 t18, arr1 t19, arr1 t20, arr1 t21, arr1 t22, arr1 t23, arr1 t24, arr1 t25, arr1 t26, arr1 t27]
        try simp (disch := omega) only [nm1, nm1', nsub1, np1, npd, nadd, n0m1, m1lt, nlt0, nge0, ngt0, nle0, nlt, nle, neq, neq0, m1n, m4n, vpn, vcl, ne_eq, bI_0, bI_1, bI_01, lit01, lit00, oI_s, oI_n, true_and, and_true, not_true_eq_false, not_false_eq_true, true_implies, false_implies, and_self, implies_true, forall_const, Bool.not_eq_false, Bool.not_eq_true, iu_s, iu_k1, iu_j1, ia_s1, ia_k1, lt2, lt3, lt5, lt6, lt7, lt8, lt9, lt10, lt11, lt12, lt13, lt15, lt16, lt17, lt20, lt26, lt30, lt32, lt36, lt50, lt60, lt64, lt100, lt300, lt400, lt500, lt1000, lt65536, lt100001, lt10000000, lt48, lt57, lt71, lt80, lt97, lt98, lt108, lt110, lt126, lt191, lt200, lt227, lt681, lt832, lt7919, lt1000000, lt18, lt45, lt65535, lt100000, decide_eq_true_eq, decide_eq_false_iff_not, Nat.le_refl, true_or, or_true, eq_self]
        refine ⟨fun h2 => same (Or.inl (by unfold gQ; rw [decide_eq_false (by omega)]; simp)) _, fun h2 => ?_⟩
        have hq : gQ a (gs a 1) (gO a k) (gO a p) = true := by unfold gQ; rw [h, decide_eq_true (by omega)]; rfl
        rw [hJ.1 _ he (by omega), hJ.2.1, if_neg hV, hO'.2 _ hl, hRk]
        refine f_join hS hI' hB hO' (by omega) (by omega) (fun q => hne q.symm) hk (fun I'' hf'' hj => ?_)
        simp only [↓ap_cc, ↓ap_const, ↓ap_iload, ↓ap_aload, ↓ap_istore, ↓ap_astore, ↓ap_iinc, ↓ap_bin, ↓ap_idiv, ↓ap_irem, ↓ap_callSA, ↓ap_iretA, ↓ap_zretA, ↓ap_i2c, ↓ap_dup, ↓ap_dup2, ↓ap_nn, ↓ap_ic, ↓ap_if, ↓ap_sw, ↓ap_head, ↓ap_getI, ↓ap_getR, ↓ap_putI, ↓ap_putN, ↓ap_putR, ↓ap_iald, ↓ap_cald, ↓ap_iast, ↓ap_cast, ↓ap_aald, ↓ap_aast, ↓ap_alen, ↓ap_stat, ↓ap_pop, ↓ap_mm, ↓ap_copy, ↓ap_ret, ↓ap_iret, ↓ap_zret, ↓ap_aret, ↓ap_retA, ↓ap_new, ↓ap_newa, ↓ap_callV, ↓ap_callS, ↓ap_callI, am_in, List.map_cons, List.map_nil, List.getElem?_cons_zero, List.getElem?_cons_succ, List.set_cons_zero, List.set_cons_succ, List.take_succ_cons, List.take_zero, List.drop_succ_cons, List.drop_zero, List.reverse_cons, List.reverse_nil, List.nil_append, List.cons_append, List.append_nil, List.length_cons, List.length_nil, List.replicate_succ, List.replicate_zero, Option.toList_some, Option.toList_none, true_and, and_true, Option.some.injEq, exists_eq_left', am_wI_mk, am_wA_mk, am_wR_mk, Nat.reduceAdd, Nat.reduceSub, Nat.reduceLeDiff, Nat.zero_add, Nat.le_refl, not_true_eq_false, not_false_eq_true, forall_const, false_implies, true_implies, implies_true, and_self, Prod.mk.injEq, eq_self, true_or, or_true, false_and, and_false, or_false, false_or, Nat.reduceEqDiff, ↓a_X3_joinRivals_94, ↓a_X3_joinRivals_88, ↓a_X3_joinRivals_2, ↓a_X3_joinRivals_0, s0, s1, s2, s3, s4, s5, s6, s7, s8, s9, s10, s11, r1, r2, r3, r5, r6, r7, r8, r10, r11, r12, r13, t0, t13, t14, t15, t16, t17, t18, t19, t20, t21, t22, t23, t24, t25, t26, t27, q0, q1, q2, q3, q4, q5, q6, q7, q8, q9, q10, q11, q12, q13, q15, q16, arr1 s1, arr1 s2, arr1 s3, arr1 s4, arr1 s5, arr1 s6, arr1 s7, arr1 s8, arr1 s9, arr1 s10, arr1 s11, arr1 t13, arr1 t14, arr1 t15, arr1 t16, arr1 t17, arr1 t18, arr1 t19, arr1 t20, arr1 t21, arr1 t22, arr1 t23, arr1 t24, arr1 t25, arr1 t26, arr1 t27]
        have hV' : gVp a (gQ a (gs a 1) (gO a k)) fp b p (fp (gO a p)) = false := by simpa using hV
        have jm := join_more hq hV' (by omega)
        have hVs : ∀ v, gVp a (gQ a (gs a 1) (gO a k)) fp b (p + 1) v = (gVp a (gQ a (gs a 1) (gO a k)) fp b p v || decide (fp (gO a p) = v)) := fun v => by rw [gVp_s, hq, Bool.true_and]
        have bx : ∀ x, x < gn a → gR a x < k → fp x < 30 := fun x hx hxk => by have := hfp x hx hxk; omega
        have bJ : gJp a (gQ a (gs a 1) (gO a k)) fp b p ≤ gn a := cnt_le _ _
        have e22 : I'' (T + 22) (gO a k) = nI (gJp a (gQ a (gs a 1) (gO a k)) fp b p) := by rw [hf'' (T + 22) (by omega)]; exact hJ.2.2
        try simp (disch := omega) only [nm1, nm1', nsub1, np1, npd, nadd, n0m1, m1lt, nlt0, nge0, ngt0, nle0, nlt, nle, neq, neq0, m1n, m4n, vpn, vcl, ne_eq, bI_0, bI_1, bI_01, lit01, lit00, oI_s, oI_n, true_and, and_true, not_true_eq_false, not_false_eq_true, true_implies, false_implies, and_self, implies_true, forall_const, Bool.not_eq_false, Bool.not_eq_true, iu_s, iu_k1, iu_j1, ia_s1, ia_k1, lt2, lt3, lt5, lt6, lt7, lt8, lt9, lt10, lt11, lt12, lt13, lt15, lt16, lt17, lt20, lt26, lt30, lt32, lt36, lt50, lt60, lt64, lt100, lt300, lt400, lt500, lt1000, lt65536, lt100001, lt10000000, lt48, lt57, lt71, lt80, lt97, lt98, lt108, lt110, lt126, lt191, lt200, lt227, lt681, lt832, lt7919, lt1000000, lt18, lt45, lt65535, lt100000, decide_eq_true_eq, decide_eq_false_iff_not, Nat.le_refl, true_or, or_true, eq_self, e22]
        refine ih _ _ ((hf.tr (hf''.wide (by omega) (by omega))).u (by omega) (by omega)) (fun j => ?_) (fun j hj2 => ?_) ⟨fun x hx hxk => ?_, ?_, ?_⟩
        · try simp (disch := omega) only [nm1, nm1', nsub1, np1, npd, nadd, n0m1, m1lt, nlt0, nge0, ngt0, nle0, nlt, nle, neq, neq0, m1n, m4n, vpn, vcl, ne_eq, bI_0, bI_1, bI_01, lit01, lit00, oI_s, oI_n, true_and, and_true, not_true_eq_false, not_false_eq_true, true_implies, false_implies, and_self, implies_true, forall_const, Bool.not_eq_false, Bool.not_eq_true, iu_s, iu_k1, iu_j1, ia_s1, ia_k1, lt2, lt3, lt5, lt6, lt7, lt8, lt9, lt10, lt11, lt12, lt13, lt15, lt16, lt17, lt20, lt26, lt30, lt32, lt36, lt50, lt60, lt64, lt100, lt300, lt400, lt500, lt1000, lt65536, lt100001, lt10000000, lt48, lt57, lt71, lt80, lt97, lt98, lt108, lt110, lt126, lt191, lt200, lt227, lt681, lt832, lt7919, lt1000000, lt18, lt45, lt65535, lt100000, decide_eq_true_eq, decide_eq_false_iff_not, Nat.le_refl, true_or, or_true, eq_self]; rw [hf'' (T + 23) (by omega)]; exact h23 j
        · try simp (disch := omega) only [nm1, nm1', nsub1, np1, npd, nadd, n0m1, m1lt, nlt0, nge0, ngt0, nle0, nlt, nle, neq, neq0, m1n, m4n, vpn, vcl, ne_eq, bI_0, bI_1, bI_01, lit01, lit00, oI_s, oI_n, true_and, and_true, not_true_eq_false, not_false_eq_true, true_implies, false_implies, and_self, implies_true, forall_const, Bool.not_eq_false, Bool.not_eq_true, iu_s, iu_k1, iu_j1, ia_s1, ia_k1, lt2, lt3, lt5, lt6, lt7, lt8, lt9, lt10, lt11, lt12, lt13, lt15, lt16, lt17, lt20, lt26, lt30, lt32, lt36, lt50, lt60, lt64, lt100, lt300, lt400, lt500, lt1000, lt65536, lt100001, lt10000000, lt48, lt57, lt71, lt80, lt97, lt98, lt108, lt110, lt126, lt191, lt200, lt227, lt681, lt832, lt7919, lt1000000, lt18, lt45, lt65535, lt100000, decide_eq_true_eq, decide_eq_false_iff_not, Nat.le_refl, true_or, or_true, eq_self]; rw [hf'' (T + 22) (by omega)]; exact h22 j hj2
        · try simp (disch := omega) only [nm1, nm1', nsub1, np1, npd, nadd, n0m1, m1lt, nlt0, nge0, ngt0, nle0, nlt, nle, neq, neq0, m1n, m4n, vpn, vcl, ne_eq, bI_0, bI_1, bI_01, lit01, lit00, oI_s, oI_n, true_and, and_true, not_true_eq_false, not_false_eq_true, true_implies, false_implies, and_self, implies_true, forall_const, Bool.not_eq_false, Bool.not_eq_true, iu_s, iu_k1, iu_j1, ia_s1, ia_k1, lt2, lt3, lt5, lt6, lt7, lt8, lt9, lt10, lt11, lt12, lt13, lt15, lt16, lt17, lt20, lt26, lt30, lt32, lt36, lt50, lt60, lt64, lt100, lt300, lt400, lt500, lt1000, lt65536, lt100001, lt10000000, lt48, lt57, lt71, lt80, lt97, lt98, lt108, lt110, lt126, lt191, lt200, lt227, lt681, lt832, lt7919, lt1000000, lt18, lt45, lt65535, lt100000, decide_eq_true_eq, decide_eq_false_iff_not, Nat.le_refl, true_or, or_true, eq_self]
          have bxx := bx x hx hxk
          rw [hj x hx (by omega), hJ.1 x hx hxk, nite (by split <;> omega) (by split <;> omega)]
          rw [← join_val hm (by omega) hV' hVs]
        · try simp (disch := omega) only [nm1, nm1', nsub1, np1, npd, nadd, n0m1, m1lt, nlt0, nge0, ngt0, nle0, nlt, nle, neq, neq0, m1n, m4n, vpn, vcl, ne_eq, bI_0, bI_1, bI_01, lit01, lit00, oI_s, oI_n, true_and, and_true, not_true_eq_false, not_false_eq_true, true_implies, false_implies, and_self, implies_true, forall_const, Bool.not_eq_false, Bool.not_eq_true, iu_s, iu_k1, iu_j1, ia_s1, ia_k1, lt2, lt3, lt5, lt6, lt7, lt8, lt9, lt10, lt11, lt12, lt13, lt15, lt16, lt17, lt20, lt26, lt30, lt32, lt36, lt50, lt60, lt64, lt100, lt300, lt400, lt500, lt1000, lt65536, lt100001, lt10000000, lt48, lt57, lt71, lt80, lt97, lt98, lt108, lt110, lt126, lt191, lt200, lt227, lt681, lt832, lt7919, lt1000000, lt18, lt45, lt65535, lt100000, decide_eq_true_eq, decide_eq_false_iff_not, Nat.le_refl, true_or, or_true, eq_self]
          rw [hj _ hl (by omega), hJ.2.1, nite (by omega) (by split <;> omega)]
          rw [join_mn hm (by omega) hVs]
          by_cases hlt : mn (gVp a (gQ a (gs a 1) (gO a k)) fp b p) (gn a) < fp (gO a p)
          · rw [if_pos hlt, if_pos hlt, if_neg (fun q => hne q.symm)]
          · rw [if_neg hlt, if_neg hlt, if_pos rfl]
        · try simp (disch := omega) only [nm1, nm1', nsub1, np1, npd, nadd, n0m1, m1lt, nlt0, nge0, ngt0, nle0, nlt, nle, neq, neq0, m1n, m4n, vpn, vcl, ne_eq, bI_0, bI_1, bI_01, lit01, lit00, oI_s, oI_n, true_and, and_true, not_true_eq_false, not_false_eq_true, true_implies, false_implies, and_self, implies_true, forall_const, Bool.not_eq_false, Bool.not_eq_true, iu_s, iu_k1, iu_j1, ia_s1, ia_k1, lt2, lt3, lt5, lt6, lt7, lt8, lt9, lt10, lt11, lt12, lt13, lt15, lt16, lt17, lt20, lt26, lt30, lt32, lt36, lt50, lt60, lt64, lt100, lt300, lt400, lt500, lt1000, lt65536, lt100001, lt10000000, lt48, lt57, lt71, lt80, lt97, lt98, lt108, lt110, lt126, lt191, lt200, lt227, lt681, lt832, lt7919, lt1000000, lt18, lt45, lt65535, lt100000, decide_eq_true_eq, decide_eq_false_iff_not, Nat.le_refl, true_or, or_true, eq_self]; rw [jm]
  refine ⟨Nat.le_of_ble_eq_true rfl, am_fold ?_⟩; rw [h_X3_joinRivals_0]
  simp only [↓ap_cc, ↓ap_const, ↓ap_iload, ↓ap_aload, ↓ap_istore, ↓ap_astore, ↓ap_iinc, ↓ap_bin, ↓ap_idiv, ↓ap_irem, ↓ap_callSA, ↓ap_iretA, ↓ap_zretA, ↓ap_i2c, ↓ap_dup, ↓ap_dup2, ↓ap_nn, ↓ap_ic, ↓ap_if, ↓ap_sw, ↓ap_head, ↓ap_getI, ↓ap_getR, ↓ap_putI, ↓ap_putN, ↓ap_putR, ↓ap_iald, ↓ap_cald, ↓ap_iast, ↓ap_cast, ↓ap_aald, ↓ap_aast, ↓ap_alen, ↓ap_stat, ↓ap_pop, ↓ap_mm, ↓ap_copy, ↓ap_ret, ↓ap_iret, ↓ap_zret, ↓ap_aret, ↓ap_retA, ↓ap_new, ↓ap_newa, ↓ap_callV, ↓ap_callS, ↓ap_callI, am_in, List.map_cons, List.map_nil, List.getElem?_cons_zero, List.getElem?_cons_succ, List.set_cons_zero, List.set_cons_succ, List.take_succ_cons, List.take_zero, List.drop_succ_cons, List.drop_zero, List.reverse_cons, List.reverse_nil, List.nil_append, List.cons_append, List.append_nil, List.length_cons, List.length_nil, List.replicate_succ, List.replicate_zero, Option.toList_some, Option.toList_none, true_and, and_true, Option.some.injEq, exists_eq_left', am_wI_mk, am_wA_mk, am_wR_mk, Nat.reduceAdd, Nat.reduceSub, Nat.reduceLeDiff, Nat.zero_add, Nat.le_refl, not_true_eq_false, not_false_eq_true, forall_const, false_implies, true_implies, implies_true, and_self, Prod.mk.injEq, eq_self, true_or, or_true, false_and, and_false, or_false, false_or, Nat.reduceEqDiff, ↓a_X3_joinRivals_94, ↓a_X3_joinRivals_88, ↓a_X3_joinRivals_2, ↓a_X3_joinRivals_0, s0, s1, s2, s3, s4, s5, s6, s7, s8, s9, s10, s11, r1, r2, r3, r5, r6, r7, r8, r10, r11, r12, r13, t0, t13, t14, t15, t16, t17, t18, t19, t20, t21, t22, t23, t24, t25, t26, t27, q0, q1, q2, q3, q4, q5, q6, q7, q8, q9, q10, q11, q12, q13, q15, q16, arr1 s1, arr1 s2, arr1 s3, arr1 s4, arr1 s5, arr1 s6, arr1 s7, arr1 s8, arr1 s9, arr1 s10, arr1 s11, arr1 t13, arr1 t14, arr1 t15, arr1 t16, arr1 t17, arr1 t18, arr1 t19, arr1 t20, arr1 t21, arr1 t22, arr1 t23, arr1 t24, arr1 t25, arr1 t26, arr1 t27]
  exact l2 0 (by omega) I none Fr.rfl (fun _ => rfl) (fun _ _ => rfl) hJ

