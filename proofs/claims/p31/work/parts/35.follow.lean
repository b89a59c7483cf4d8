-- needs: 10 11 12 13 14 20 21 22 23 30 31 32 33 34
variable {S : List (Nat × Nat)} {R : Nat → Nat → Option Nat} {I : Nat → Nat → Int32} {T : Nat} {a : Lg} {post : am_R}
def FolK (I : Nat → Nat → Int32) (T : Nat) (a : Lg) (th k : Nat) : Prop := ∀ x, x < gn a → gR a x < k → I (T + 21) x = oI (-1) (gA a th x) ∧ I (T + 22) x = nI ((gSt a th k).2.1 x) ∧ I (T + 23) x = nI ((gSt a th k).2.2 x) ∧ I (T + 24) x = nI ((gSt a th k).1 x)
theorem gSt_n {th k : Nat} (h : gA a th (gO a k) = none) : gSt a th (k + 1) = (un (gSt a th k).1 (gO a k) k, un (gSt a th k).2.1 (gO a k) 0, un (gSt a th k).2.2 (gO a k) 1) := by
  rw [gSt, h]
theorem gSt_b {th k b : Nat} (h : gA a th (gO a k) = some b) : gSt a th (k + 1) = (fun x => if x = gO a k ∨ (gR a x < k ∧ gV (gn a) (gQ a th (gO a k)) (gSt a th k).1 b ((gSt a th k).1 x) = true) then mn (gV (gn a) (gQ a th (gO a k)) (gSt a th k).1 b) (gn a) else (gSt a th k).1 x, un (gSt a th k).2.1 (gO a k) (cnt (fun v => hasV (gQ a th (gO a k)) (gSt a th k).1 (gn a) v && decide (v ≠ (gSt a th k).1 b)) (gn a)), un (gSt a th k).2.2 (gO a k) ((gSt a th k).2.2 b + 1)) := by
  rw [gSt, h]
theorem f_addToThread {k : Nat} (hS : ThS S R T) (hI : LogI I (T + 1) a) (hB : LgB a) (hO : OrdI I T a) (hR : RatL I T a (gO a k)) (hk : k < gn a) (hF : FolK I T a (gs a 1) k) (hp : ∀ I', Fr (T + 21) (T + 24) I I' → FolK I' T a (gs a 1) (k + 1) → post none (S, I', R)) : sp_X3_addToThread [.inr T, .inl (nI (gO a k))] (S, I, R) post := by
  obtain ⟨⟨⟨s0, s1, s2, s3, s4, s5, s6, s7, s8, s9, s10, s11⟩, r1, r2, r3, r5, r6, r7, r8, r10, r11, r12, r13⟩, ⟨t0, t13, t14, t15, t16, t17, t18, t19, t20, t21, t22, t23, t24, t25, t26, t27⟩, q0, q1, q2, q3, q4, q5, q6, q7, q8, q9, q10, q11, q12, q13, q15, q16⟩ := id hS
  have bn := hB.n
  have bk := hB.k
  have hl := gO_lt (a := a) hk
  have hRk := gR_gO (a := a) hk
  have hst := gSt_I hB (gs a 1) k (by omega)
  have nl : ∀ x, x < gn a → gR a x < k + 1 → x ≠ gO a k → gR a x < k := fun x hx hxk hne => by
    have : gR a x ≠ k := fun q => hne (gR_inj hx hl (by rw [q, hRk]))
    omega
  have ln : ∀ x, gR a x < k → x ≠ gO a k := fun x hx q => by rw [q, hRk] at hx; omega
  refine ⟨Nat.le_of_ble_eq_true rfl, am_fold ?_⟩; rw [h_X3_addToThread_0]
  simp only [↓ap_cc, ↓ap_const, ↓ap_iload, ↓ap_aload, ↓ap_istore, ↓ap_astore, ↓ap_iinc, ↓ap_bin, ↓ap_idiv, ↓ap_irem, ↓ap_callSA, ↓ap_iretA, ↓ap_zretA, ↓ap_i2c, ↓ap_dup, ↓ap_dup2, ↓ap_nn, ↓ap_ic, ↓ap_if, ↓ap_sw, ↓ap_head, ↓ap_getI, ↓ap_getR, ↓ap_putI, ↓ap_putN, ↓ap_putR, ↓ap_iald, ↓ap_cald, ↓ap_iast, ↓ap_cast, ↓ap_aald, ↓ap_aast, ↓ap_alen, ↓ap_stat, ↓ap_pop, ↓ap_mm, ↓ap_copy, ↓ap_ret, ↓ap_iret, ↓ap_zret, ↓ap_aret, ↓ap_retA, ↓ap_new, ↓ap_newa, ↓ap_callV, ↓ap_callS, ↓ap_callI, am_in, List.map_cons, List.map_nil, List.getElem?_cons_zero, List.getElem?_cons_succ, List.set_cons_zero, List.set_cons_succ, List.take_succ_cons, List.take_zero, List.drop_succ_cons, List.drop_zero, List.reverse_cons, List.reverse_nil, List.nil_append, List.cons_append, List.append_nil, List.length_cons, List.length_nil, List.replicate_succ, List.replicate_zero, Option.toList_some, Option.toList_none, true_and, and_true, Option.some.injEq, exists_eq_left', am_wI_mk, am_wA_mk, am_wR_mk, Nat.reduceAdd, Nat.reduceSub, Nat.reduceLeDiff, Nat.zero_add, Nat.le_refl, not_true_eq_false, not_false_eq_true, forall_const, false_implies, true_implies, implies_true, and_self, Prod.mk.injEq, eq_self, true_or, or_true, false_and, and_false, or_false, false_or, Nat.reduceEqDiff, ↓a_X3_addToThread_85, ↓a_X3_addToThread_45, ↓a_X3_addToThread_0, s0, s1, s2, s3, s4, s5, s6, s7, s8, s9, s10, s11, r1, r2, r3, r5, r6, r7, r8, r10, r11, r12, r13, t0, t13, t14, t15, t16, t17, t18, t19, t20, t21, t22, t23, t24, t25, t26, t27, q0, q1, q2, q3, q4, q5, q6, q7, q8, q9, q10, q11, q12, q13, q15, q16, arr1 s1, arr1 s2, arr1 s3, arr1 s4, arr1 s5, arr1 s6, arr1 s7, arr1 s8, arr1 s9, arr1 s10, arr1 s11, arr1 t13, arr1 t14, arr1 t15, arr1 t16, arr1 t17, arr1 t18, arr1 t19, arr1 t20, arr1 t21, arr1 t22, arr1 t23, arr1 t24, arr1 t25, arr1 t26, arr1 t27]
  refine f_answerOf hS hI hB hR hl ?_
  simp only [↓ap_cc, ↓ap_const, ↓ap_iload, ↓ap_aload, ↓ap_istore, ↓ap_astore, ↓ap_iinc, ↓ap_bin, ↓ap_idiv, ↓ap_irem, ↓ap_callSA, ↓ap_iretA, ↓ap_zretA, ↓ap_i2c, ↓ap_dup, ↓ap_dup2, ↓ap_nn, ↓ap_ic, ↓ap_if, ↓ap_sw, ↓ap_head, ↓ap_getI, ↓ap_getR, ↓ap_putI, ↓ap_putN, ↓ap_putR, ↓ap_iald, ↓ap_cald, ↓ap_iast, ↓ap_cast, ↓ap_aald, ↓ap_aast, ↓ap_alen, ↓ap_stat, ↓ap_pop, ↓ap_mm, ↓ap_copy, ↓ap_ret, ↓ap_iret, ↓ap_zret, ↓ap_aret, ↓ap_retA, ↓ap_new, ↓ap_newa, ↓ap_callV, ↓ap_callS, ↓ap_callI, am_in, List.map_cons, List.map_nil, List.getElem?_cons_zero, List.getElem?_cons_succ, List.set_cons_zero, List.set_cons_succ, List.take_succ_cons, List.take_zero, List.drop_succ_cons, List.drop_zero, List.reverse_cons, List.reverse_nil, List.nil_append, List.cons_append, List.append_nil, List.length_cons, List.length_nil, List.replicate_succ, List.replicate_zero, Option.toList_some, Option.toList_none, true_and, and_true, Option.some.injEq, exists_eq_left', am_wI_mk, am_wA_mk, am_wR_mk, Nat.reduceAdd, Nat.reduceSub, Nat.reduceLeDiff, Nat.zero_add, Nat.le_refl, not_true_eq_false, not_false_eq_true, forall_const, false_implies, true_implies, implies_true, and_self, Prod.mk.injEq, eq_self, true_or, or_true, false_and, and_false, or_false, false_or, Nat.reduceEqDiff, ↓a_X3_addToThread_85, ↓a_X3_addToThread_45, ↓a_X3_addToThread_0, s0, s1, s2, s3, s4, s5, s6, s7, s8, s9, s10, s11, r1, r2, r3, r5, r6, r7, r8, r10, r11, r12, r13, t0, t13, t14, t15, t16, t17, t18, t19, t20, t21, t22, t23, t24, t25, t26, t27, q0, q1, q2, q3, q4, q5, q6, q7, q8, q9, q10, q11, q12, q13, q15, q16, arr1 s1, arr1 s2, arr1 s3, arr1 s4, arr1 s5, arr1 s6, arr1 s7, arr1 s8, arr1 s9, arr1 s10, arr1 s11, arr1 t13, arr1 t14, arr1 t15, arr1 t16, arr1 t17, arr1 t18, arr1 t19, arr1 t20, arr1 t21, arr1 t22, arr1 t23, arr1 t24, arr1 t25, arr1 t26, arr1 t27]
  cases hA : gA a (gs a 1) (gO a k) with
  | none =>
    have eS := gSt_n hA
    rw [oI_n]
    try simp (disch := omega) only [nm1, nm1', nsub1, np1, npd, nadd, n0m1, m1lt, nlt0, nge0, ngt0, nle0, nlt, nle, neq, neq0, m1n, m4n, vpn, vcl, ne_eq, bI_0, bI_1, bI_01, lit01, lit00, oI_s, oI_n, true_and, and_true, not_true_eq_false, not_false_eq_true, true_implies, false_implies, and_self, implies_true, forall_const, Bool.not_eq_false, Bool.not_eq_true, iu_s, iu_k1, iu_j1, ia_s1, ia_k1, lt2, lt3, lt5, lt6, lt7, lt8, lt9, lt10, lt11, lt12, lt13, lt15, lt16, lt17, lt20, lt26, lt30, lt32, lt36, lt50, lt60, lt64, lt100, lt300, lt400, lt500, lt1000, lt65536, lt100001, lt10000000, lt48, lt57, lt71, lt80, lt97, lt98, lt108, lt110, lt126, lt191, lt200, lt227, lt681, lt832, lt7919, lt1000000, lt18, lt45, lt65535, lt100000, decide_eq_true_eq, decide_eq_false_iff_not, Nat.le_refl, true_or, or_true, eq_self, hO.2]
    rw [hRk]
    refine hp _ ((((Fr.rfl.u (by omega) (by omega)).u (by omega) (by omega)).u (by omega) (by omega)).u (by omega) (by omega)) (fun x hx hxk => ?_)
    rw [eS]
    by_cases hxl : x = gO a k
    · subst hxl
      try simp (disch := omega) only [nm1, nm1', nsub1, np1, npd, nadd, n0m1, m1lt, nlt0, nge0, ngt0, nle0, nlt, nle, neq, neq0, m1n, m4n, vpn, vcl, ne_eq, bI_0, bI_1, bI_01, lit01, lit00, oI_s, oI_n, true_and, and_true, not_true_eq_false, not_false_eq_true, true_implies, false_implies, and_self, implies_true, forall_const, Bool.not_eq_false, Bool.not_eq_true, iu_s, iu_k1, iu_j1, ia_s1, ia_k1, lt2, lt3, lt5, lt6, lt7, lt8, lt9, lt10, lt11, lt12, lt13, lt15, lt16, lt17, lt20, lt26, lt30, lt32, lt36, lt50, lt60, lt64, lt100, lt300, lt400, lt500, lt1000, lt65536, lt100001, lt10000000, lt48, lt57, lt71, lt80, lt97, lt98, lt108, lt110, lt126, lt191, lt200, lt227, lt681, lt832, lt7919, lt1000000, lt18, lt45, lt65535, lt100000, decide_eq_true_eq, decide_eq_false_iff_not, Nat.le_refl, true_or, or_true, eq_self, un_s]
      rw [hA]; exact ⟨rfl, rfl, rfl⟩
    · have h1 := hF x hx (nl x hx hxk hxl)
      try simp (disch := omega) only [nm1, nm1', nsub1, np1, npd, nadd, n0m1, m1lt, nlt0, nge0, ngt0, nle0, nlt, nle, neq, neq0, m1n, m4n, vpn, vcl, ne_eq, bI_0, bI_1, bI_01, lit01, lit00, oI_s, oI_n, true_and, and_true, not_true_eq_false, not_false_eq_true, true_implies, false_implies, and_self, implies_true, forall_const, Bool.not_eq_false, Bool.not_eq_true, iu_s, iu_k1, iu_j1, ia_s1, ia_k1, lt2, lt3, lt5, lt6, lt7, lt8, lt9, lt10, lt11, lt12, lt13, lt15, lt16, lt17, lt20, lt26, lt30, lt32, lt36, lt50, lt60, lt64, lt100, lt300, lt400, lt500, lt1000, lt65536, lt100001, lt10000000, lt48, lt57, lt71, lt80, lt97, lt98, lt108, lt110, lt126, lt191, lt200, lt227, lt681, lt832, lt7919, lt1000000, lt18, lt45, lt65535, lt100000, decide_eq_true_eq, decide_eq_false_iff_not, Nat.le_refl, true_or, or_true, eq_self, un_n hxl]
      exact h1
  | some b =>
    have eS := gSt_b hA
    have hb := gA_i hB hl hA
    have hbr : gR a b < k := by have := (gR_E hb.1 hl).mpr hb.2; omega
    have hFb := hF b hb.1 hbr
    have bne := ln b hbr
    have sb := hst b hb.1 hbr
    have qlt : ∀ e, gQ a (gs a 1) (gO a k) e = true → e < gn a ∧ gR a e < k := fun e he => by
      have := gQ_i he
      refine ⟨this.1, ?_⟩
      have := (gR_E this.1 hl).mpr this.2.1
      omega
    rw [oI_s]
    try simp (disch := omega) only [nm1, nm1', nsub1, np1, npd, nadd, n0m1, m1lt, nlt0, nge0, ngt0, nle0, nlt, nle, neq, neq0, m1n, m4n, vpn, vcl, ne_eq, bI_0, bI_1, bI_01, lit01, lit00, oI_s, oI_n, true_and, and_true, not_true_eq_false, not_false_eq_true, true_implies, false_implies, and_self, implies_true, forall_const, Bool.not_eq_false, Bool.not_eq_true, iu_s, iu_k1, iu_j1, ia_s1, ia_k1, lt2, lt3, lt5, lt6, lt7, lt8, lt9, lt10, lt11, lt12, lt13, lt15, lt16, lt17, lt20, lt26, lt30, lt32, lt36, lt50, lt60, lt64, lt100, lt300, lt400, lt500, lt1000, lt65536, lt100001, lt10000000, lt48, lt57, lt71, lt80, lt97, lt98, lt108, lt110, lt126, lt191, lt200, lt227, lt681, lt832, lt7919, lt1000000, lt18, lt45, lt65535, lt100000, decide_eq_true_eq, decide_eq_false_iff_not, Nat.le_refl, true_or, or_true, eq_self, hR.2.2.2.2, hFb.2.2.1, hFb.2.2.2]
    obtain ⟨I1, hI1⟩ : ∃ I1, am_u (am_u (am_u (am_u I (T + 21) (gO a k) (nI b)) (T + 22) (gO a k) 0) (T + 23) (gO a k) (nI ((gSt a (gs a 1) k).2.2 b + 1))) (T + 24) (gO a k) (nI ((gSt a (gs a 1) k).1 b)) = I1 := ⟨_, rfl⟩
    rw [hI1]
    have hf1 : Fr (T + 21) (T + 24) I I1 := by rw [← hI1]; exact (((Fr.rfl.u (by omega) (by omega)).u (by omega) (by omega)).u (by omega) (by omega)).u (by omega) (by omega)
    have o1 : ∀ x, x ≠ gO a k → ∀ d, 21 ≤ d → d ≤ 24 → I1 (T + d) x = I (T + d) x := fun x hx d h1 h2 => by
      rw [← hI1]
      rcases (by omega : d = 21 ∨ d = 22 ∨ d = 23 ∨ d = 24) with rfl | rfl | rfl | rfl <;> try simp (disch := omega) only [nm1, nm1', nsub1, np1, npd, nadd, n0m1, m1lt, nlt0, nge0, ngt0, nle0, nlt, nle, neq, neq0, m1n, m4n, vpn, vcl, ne_eq, bI_0, bI_1, bI_01, lit01, lit00, oI_s, oI_n, true_and, and_true, not_true_eq_false, not_false_eq_true, true_implies, false_implies, and_self, implies_true, forall_const, Bool.not_eq_false, Bool.not_eq_true, iu_s, iu_k1, iu_j1, ia_s1, ia_k1, lt2, lt3, lt5, lt6, lt7, lt8, lt9, lt10, lt11, lt12, lt13, lt15, lt16, lt17, lt20, lt26, lt30, lt32, lt36, lt50, lt60, lt64, lt100, lt300, lt400, lt500, lt1000, lt65536, lt100001, lt10000000, lt48, lt57, lt71, lt80, lt97, lt98, lt108, lt110, lt126, lt191, lt200, lt227, lt681, lt832, lt7919, lt1000000, lt18, lt45, lt65535, lt100000, decide_eq_true_eq, decide_eq_false_iff_not, Nat.le_refl, true_or, or_true, eq_self]
    have c21 : I1 (T + 21) (gO a k) = nI b := by rw [← hI1]; try simp (disch := omega) only [nm1, nm1', nsub1, np1, npd, nadd, n0m1, m1lt, nlt0, nge0, ngt0, nle0, nlt, nle, neq, neq0, m1n, m4n, vpn, vcl, ne_eq, bI_0, bI_1, bI_01, lit01, lit00, oI_s, oI_n, true_and, and_true, not_true_eq_false, not_false_eq_true, true_implies, false_implies, and_self, implies_true, forall_const, Bool.not_eq_false, Bool.not_eq_true, iu_s, iu_k1, iu_j1, ia_s1, ia_k1, lt2, lt3, lt5, lt6, lt7, lt8, lt9, lt10, lt11, lt12, lt13, lt15, lt16, lt17, lt20, lt26, lt30, lt32, lt36, lt50, lt60, lt64, lt100, lt300, lt400, lt500, lt1000, lt65536, lt100001, lt10000000, lt48, lt57, lt71, lt80, lt97, lt98, lt108, lt110, lt126, lt191, lt200, lt227, lt681, lt832, lt7919, lt1000000, lt18, lt45, lt65535, lt100000, decide_eq_true_eq, decide_eq_false_iff_not, Nat.le_refl, true_or, or_true, eq_self]
    have c22 : I1 (T + 22) (gO a k) = nI 0 := by rw [← hI1]; try simp (disch := omega) only [nm1, nm1', nsub1, np1, npd, nadd, n0m1, m1lt, nlt0, nge0, ngt0, nle0, nlt, nle, neq, neq0, m1n, m4n, vpn, vcl, ne_eq, bI_0, bI_1, bI_01, lit01, lit00, oI_s, oI_n, true_and, and_true, not_true_eq_false, not_false_eq_true, true_implies, false_implies, and_self, implies_true, forall_const, Bool.not_eq_false, Bool.not_eq_true, iu_s, iu_k1, iu_j1, ia_s1, ia_k1, lt2, lt3, lt5, lt6, lt7, lt8, lt9, lt10, lt11, lt12, lt13, lt15, lt16, lt17, lt20, lt26, lt30, lt32, lt36, lt50, lt60, lt64, lt100, lt300, lt400, lt500, lt1000, lt65536, lt100001, lt10000000, lt48, lt57, lt71, lt80, lt97, lt98, lt108, lt110, lt126, lt191, lt200, lt227, lt681, lt832, lt7919, lt1000000, lt18, lt45, lt65535, lt100000, decide_eq_true_eq, decide_eq_false_iff_not, Nat.le_refl, true_or, or_true, eq_self]; rfl
    have c23 : I1 (T + 23) (gO a k) = nI ((gSt a (gs a 1) k).2.2 b + 1) := by rw [← hI1]; try simp (disch := omega) only [nm1, nm1', nsub1, np1, npd, nadd, n0m1, m1lt, nlt0, nge0, ngt0, nle0, nlt, nle, neq, neq0, m1n, m4n, vpn, vcl, ne_eq, bI_0, bI_1, bI_01, lit01, lit00, oI_s, oI_n, true_and, and_true, not_true_eq_false, not_false_eq_true, true_implies, false_implies, and_self, implies_true, forall_const, Bool.not_eq_false, Bool.not_eq_true, iu_s, iu_k1, iu_j1, ia_s1, ia_k1, lt2, lt3, lt5, lt6, lt7, lt8, lt9, lt10, lt11, lt12, lt13, lt15, lt16, lt17, lt20, lt26, lt30, lt32, lt36, lt50, lt60, lt64, lt100, lt300, lt400, lt500, lt1000, lt65536, lt100001, lt10000000, lt48, lt57, lt71, lt80, lt97, lt98, lt108, lt110, lt126, lt191, lt200, lt227, lt681, lt832, lt7919, lt1000000, lt18, lt45, lt65535, lt100000, decide_eq_true_eq, decide_eq_false_iff_not, Nat.le_refl, true_or, or_true, eq_self]
    have c24 : I1 (T + 24) (gO a k) = nI ((gSt a (gs a 1) k).1 b) := by rw [← hI1]; try simp (disch := omega) only [nm1, nm1', nsub1, np1, npd, nadd, n0m1, m1lt, nlt0, nge0, ngt0, nle0, nlt, nle, neq, neq0, m1n, m4n, vpn, vcl, ne_eq, bI_0, bI_1, bI_01, lit01, lit00, oI_s, oI_n, true_and, and_true, not_true_eq_false, not_false_eq_true, true_implies, false_implies, and_self, implies_true, forall_const, Bool.not_eq_false, Bool.not_eq_true, iu_s, iu_k1, iu_j1, ia_s1, ia_k1, lt2, lt3, lt5, lt6, lt7, lt8, lt9, lt10, lt11, lt12, lt13, lt15, lt16, lt17, lt20, lt26, lt30, lt32, lt36, lt50, lt60, lt64, lt100, lt300, lt400, lt500, lt1000, lt65536, lt100001, lt10000000, lt48, lt57, lt71, lt80, lt97, lt98, lt108, lt110, lt126, lt191, lt200, lt227, lt681, lt832, lt7919, lt1000000, lt18, lt45, lt65535, lt100000, decide_eq_true_eq, decide_eq_false_iff_not, Nat.le_refl, true_or, or_true, eq_self]
    have hI1' := hI.fr hf1 (by omega)
    have hJ0 : JnI I1 T a k (gQ a (gs a 1) (gO a k)) (gSt a (gs a 1) k).1 b 0 := by
      have e0 : ∀ v, gVp a (gQ a (gs a 1) (gO a k)) (gSt a (gs a 1) k).1 b 0 v = decide (v = (gSt a (gs a 1) k).1 b) := fun v => by unfold gVp; rw [hv, Bool.or_false]
      have em : mn (gVp a (gQ a (gs a 1) (gO a k)) (gSt a (gs a 1) k).1 b 0) (gn a) = (gSt a (gs a 1) k).1 b := mn_eq (by rw [e0]; simp) (by omega) (fun w hw => by rw [e0, decide_eq_true_eq] at hw; omega)
      refine ⟨fun x hx hxk => ?_, ?_, ?_⟩
      · rw [em, e0, o1 x (ln x hxk) 24 (by omega) (by omega), (hF x hx hxk).2.2.2]
        by_cases h : (gSt a (gs a 1) k).1 x = (gSt a (gs a 1) k).1 b
        · simp [h]
        · simp [h]
      · rw [em]; exact c24
      · rw [c22]; congr 1; exact (cnt_false (fun i _ => rfl)).symm
    -- what the joins leave
    have fin : ∀ I', Fr (T + 22) (T + 24) I1 I' → (∀ j, I' (T + 23) j = I1 (T + 23) j) → (∀ j, j ≠ gO a k → I' (T + 22) j = I1 (T + 22) j) → JnI I' T a k (gQ a (gs a 1) (gO a k)) (gSt a (gs a 1) k).1 b k → post none (S, I', R) := by
      intro I' hf' h23 h22 hJ
      have eV : gVp a (gQ a (gs a 1) (gO a k)) (gSt a (gs a 1) k).1 b k = gV (gn a) (gQ a (gs a 1) (gO a k)) (gSt a (gs a 1) k).1 b := funext (fun v => by unfold gVp gV; rw [hv_has (by omega) qlt])
      have eJ : gJp a (gQ a (gs a 1) (gO a k)) (gSt a (gs a 1) k).1 b k = cnt (fun v => hasV (gQ a (gs a 1) (gO a k)) (gSt a (gs a 1) k).1 (gn a) v && decide (v ≠ (gSt a (gs a 1) k).1 b)) (gn a) := cnt_congr (fun v _ => by rw [hv_has (by omega) qlt])
      unfold JnI at hJ
      rw [eV, eJ] at hJ
      refine hp I' (hf1.tr (hf'.wide (by omega) (by omega))) (fun x hx hxk => ?_)
      rw [eS]
      by_cases hxl : x = gO a k
      · subst hxl
        refine ⟨?_, ?_, ?_, ?_⟩
        · rw [hf' (T + 21) (by omega), c21, hA]; rfl
        · simp only [un_s]; exact hJ.2.2
        · simp only [un_s]; rw [h23]; exact c23
        · simp only [true_or, if_true]; exact hJ.2.1
      · have hxr := nl x hx hxk hxl
        have h1 := hF x hx hxr
        refine ⟨?_, ?_, ?_, ?_⟩
        · rw [hf' (T + 21) (by omega), o1 x hxl 21 (by omega) (by omega)]; exact h1.1
        · simp only [un_n hxl]; rw [h22 x hxl, o1 x hxl 22 (by omega) (by omega)]; exact h1.2.1
        · simp only [un_n hxl]; rw [h23, o1 x hxl 23 (by omega) (by omega)]; exact h1.2.2.1
        · simp only [hxl, hxr, false_or, true_and]
          exact hJ.1 x hx hxr
    refine ⟨fun h => ?_, fun h => ?_⟩
    · have brv : bts (gRv a (gO a k)) (gn a) < 2 ^ gn a := bts_lt _ _
      have pw : (2 : Nat) ^ gn a ≤ 2 ^ 30 := Nat.pow_le_pow_right (by decide) bn
      have h0 : bts (gRv a (gO a k)) (gn a) = 0 := by
        first | exact h | (rw [neq0 (by omega)] at h; exact h)
      have nq : ∀ e, gQ a (gs a 1) (gO a k) e = false := fun e => by
        cases hq : gQ a (gs a 1) (gO a k) e
        · rfl
        · have h2 := gQ_i hq
          have h3 := bts_t (gRv a (gO a k)) (gn a) e
          rw [h0, h2.2.2.1, decide_eq_true h2.1] at h3
          simp at h3
      have all : ∀ p, gVp a (gQ a (gs a 1) (gO a k)) (gSt a (gs a 1) k).1 b p = gVp a (gQ a (gs a 1) (gO a k)) (gSt a (gs a 1) k).1 b 0 ∧ gJp a (gQ a (gs a 1) (gO a k)) (gSt a (gs a 1) k).1 b p = gJp a (gQ a (gs a 1) (gO a k)) (gSt a (gs a 1) k).1 b 0 := by
        intro p
        induction p with
        | zero => exact ⟨rfl, rfl⟩
        | succ p ih =>
          have js := join_same (a := a) (fp := (gSt a (gs a 1) k).1) (b := b) (p := p) (Or.inl (nq (gO a p)))
          exact ⟨(funext js.1).trans ih.1, js.2.trans ih.2⟩
      refine fin I1 Fr.rfl (fun _ => rfl) (fun _ _ => rfl) ?_
      unfold JnI at hJ0 ⊢
      rw [(all k).1, (all k).2]; exact hJ0
    · refine f_joinRivals hS hI1' hB (hO.fr hf1 (by omega)) (hR.fr hf1 (by omega)) hk (fun x hx hxk => by have := (hst x hx hxk).1; omega) ⟨hb.1, hbr⟩ hJ0 (fun I' hf' h23 h22 hJ => ?_)
      simp only [↓ap_cc, ↓ap_const, ↓ap_iload, ↓ap_aload, ↓ap_istore, ↓ap_astore, ↓ap_iinc, ↓ap_bin, ↓ap_idiv, ↓ap_irem, ↓ap_callSA, ↓ap_iretA, ↓ap_zretA, ↓ap_i2c, ↓ap_dup, ↓ap_dup2, ↓ap_nn, ↓ap_ic, ↓ap_if, ↓ap_sw, ↓ap_head, ↓ap_getI, ↓ap_getR, ↓ap_putI, ↓ap_putN, ↓ap_putR, ↓ap_iald, ↓ap_cald, ↓ap_iast, ↓ap_cast, ↓ap_aald, ↓ap_aast, ↓ap_alen, ↓ap_stat, ↓ap_pop, ↓ap_mm, ↓ap_copy, ↓ap_ret, ↓ap_iret, ↓ap_zret, ↓ap_aret, ↓ap_retA, ↓ap_new, ↓ap_newa, ↓ap_callV, ↓ap_callS, ↓ap_callI, am_in, List.map_cons, List.map_nil, List.getElem?_cons_zero, List.getElem?_cons_succ, List.set_cons_zero, List.set_cons_succ, List.take_succ_cons, List.take_zero, List.drop_succ_cons, List.drop_zero, List.reverse_cons, List.reverse_nil, List.nil_append, List.cons_append, List.append_nil, List.length_cons, List.length_nil, List.replicate_succ, List.replicate_zero, Option.toList_some, Option.toList_none, true_and, and_true, Option.some.injEq, exists_eq_left', am_wI_mk, am_wA_mk, am_wR_mk, Nat.reduceAdd, Nat.reduceSub, Nat.reduceLeDiff, Nat.zero_add, Nat.le_refl, not_true_eq_false, not_false_eq_true, forall_const, false_implies, true_implies, implies_true, and_self, Prod.mk.injEq, eq_self, true_or, or_true, false_and, and_false, or_false, false_or, Nat.reduceEqDiff, ↓a_X3_addToThread_85, ↓a_X3_addToThread_45, ↓a_X3_addToThread_0, s0, s1, s2, s3, s4, s5, s6, s7, s8, s9, s10, s11, r1, r2, r3, r5, r6, r7, r8, r10, r11, r12, r13, t0, t13, t14, t15, t16, t17, t18, t19, t20, t21, t22, t23, t24, t25, t26, t27, q0, q1, q2, q3, q4, q5, q6, q7, q8, q9, q10, q11, q12, q13, q15, q16, arr1 s1, arr1 s2, arr1 s3, arr1 s4, arr1 s5, arr1 s6, arr1 s7, arr1 s8, arr1 s9, arr1 s10, arr1 s11, arr1 t13, arr1 t14, arr1 t15, arr1 t16, arr1 t17, arr1 t18, arr1 t19, arr1 t20, arr1 t21, arr1 t22, arr1 t23, arr1 t24, arr1 t25, arr1 t26, arr1 t27]
      exact fin I' hf' h23 h22 hJ

