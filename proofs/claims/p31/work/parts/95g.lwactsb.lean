-- needs: 10 11 12 13 14 15 20 21 22 23 30 31 32 33 34 35 36 37 38 40 41 42 50 51 52 55 59 60 64 65 66 67 68 69 70 71 95a 95b 95e 95f 90
variable {S : List (Nat × Nat)} {R : Nat → Nat → Option Nat} {I : Nat → Nat → Int32} {q : Nat → Nat} {s : St} {post : am_R}
theorem neq1 {a : Nat} (ha : a < 2147483648) : nI a = 1 ↔ a = 1 := by
  rw [show (1 : Int32) = nI 1 from rfl, neq ha (by decide)]
theorem ol_bad1 : o_line s 0 (nI 12) 0 0 = (-1, s) := by
  unfold o_line
  rw [if_neg (fun h => absurd h.2.1.2 (by decide))]
theorem ol_bad2 : o_line s 0 0 (nI 65536) 0 = (-1, s) := by
  unfold o_line
  rw [if_neg (fun h => absurd h.2.2.1.2 (by decide))]
theorem ol_yes {τ p x y : Nat} (hτ : τ ≤ 100000) (hp : p < 12) (hx : x ≤ 65535) (hy : y ≤ 65535) (h : gn s.a < 30) : o_line s (nI τ) (nI p) (nI x) (nI y) = (nI (gn s.a), psh s (aL s.a τ p x y)) := by
  unfold o_line
  rw [if_pos ⟨isT_n hτ, isP_n hp, isB_n hx, isB_n hy⟩, pN_n (by omega), pN_n (by omega), pN_n (by omega), pN_n (by omega), if_neg (by omega)]
/-- a line -/
theorem a_line {v : Nat} {o5 o7 o8 o9 o10 o11 o12 : Option am_V} (hV : LwV S I R q s) (hK : ActK post S I R) (hv : v < 10000000) : t_L_acts_258 [some (.inr 4), some (.inr 114), some (.inr 115), some (.inr 116), some (.inr 117), o5, some (.inl (nI v)), o7, o8, o9, o10, o11, o12] [] (S, I, R) (am_OK h_L_acts post) post := by
  obtain ⟨hSL, hI, hC, hCI, hW, h8, hn0⟩ := id hV
  have hB := hW.1.1
  have hS := hSL
  obtain ⟨g0, g1, g2, g3⟩ := id hS
  have bt := h8.1
  have bn := h8.2.1
  have bk := h8.2.2.1
  have s4 := hC.1.1
  simp only [↓a_L_acts_258]
  simp only [↓ap_cc, ↓ap_const, ↓ap_iload, ↓ap_aload, ↓ap_istore, ↓ap_astore, ↓ap_iinc, ↓ap_bin, ↓ap_idiv, ↓ap_irem, ↓ap_callSA, ↓ap_iretA, ↓ap_zretA, ↓ap_i2c, ↓ap_dup, ↓ap_dup2, ↓ap_nn, ↓ap_ic, ↓ap_if, ↓ap_sw, ↓ap_head, ↓ap_getI, ↓ap_getR, ↓ap_putI, ↓ap_putN, ↓ap_putR, ↓ap_iald, ↓ap_cald, ↓ap_iast, ↓ap_cast, ↓ap_aald, ↓ap_aast, ↓ap_alen, ↓ap_stat, ↓ap_pop, ↓ap_mm, ↓ap_copy, ↓ap_ret, ↓ap_iret, ↓ap_zret, ↓ap_aret, ↓ap_retA, ↓ap_new, ↓ap_newa, ↓ap_callV, ↓ap_callS, ↓ap_callI, am_in, List.map_cons, List.map_nil, List.getElem?_cons_zero, List.getElem?_cons_succ, List.set_cons_zero, List.set_cons_succ, List.take_succ_cons, List.take_zero, List.drop_succ_cons, List.drop_zero, List.reverse_cons, List.reverse_nil, List.nil_append, List.cons_append, List.append_nil, List.length_cons, List.length_nil, List.replicate_succ, List.replicate_zero, Option.toList_some, Option.toList_none, true_and, and_true, Option.some.injEq, exists_eq_left', am_wI_mk, am_wA_mk, am_wR_mk, Nat.reduceAdd, Nat.reduceSub, Nat.reduceLeDiff, Nat.zero_add, Nat.le_refl, not_true_eq_false, not_false_eq_true, forall_const, false_implies, true_implies, implies_true, and_self, Prod.mk.injEq, eq_self, true_or, or_true, false_and, and_false, or_false, false_or, Nat.reduceEqDiff, ↓a_L_acts_297, ↓a_L_acts_298, g0, g1, g2, g3, arr1 g0, arr1 g1, arr1 g2, arr1 g3, s4]
  try simp (disch := omega) only [nm1, nm1', nsub1, np1, npd, nadd, n0m1, m1lt, nlt0, nge0, ngt0, nle0, nlt, nle, neq, neq0, m1n, m4n, vpn, vcl, ne_eq, bI_0, bI_1, bI_01, lit01, lit00, oI_s, oI_n, true_and, and_true, not_true_eq_false, not_false_eq_true, true_implies, false_implies, and_self, implies_true, forall_const, Bool.not_eq_false, Bool.not_eq_true, iu_s, iu_k1, iu_j1, ia_s1, ia_k1, lt2, lt3, lt5, lt6, lt7, lt8, lt9, lt10, lt11, lt12, lt13, lt15, lt16, lt17, lt20, lt26, lt30, lt32, lt36, lt50, lt60, lt64, lt100, lt300, lt400, lt500, lt1000, lt65536, lt100001, lt10000000, lt48, lt57, lt71, lt80, lt97, lt98, lt108, lt110, lt126, lt191, lt200, lt227, lt681, lt832, lt7919, lt1000000, lt18, lt45, lt65535, lt100000, decide_eq_true_eq, decide_eq_false_iff_not, Nat.le_refl, true_or, or_true, eq_self, hI.n]
  refine ⟨fun hne => ?_, fun he => ?_⟩
  rotate_left
  · refine c_line hC hCI hW (fun I1 R1 q1 hS1 hI1 hf1 hr1 => ?_)
    rw [ol_bad1] at hI1 ⊢
    have hI1 : ClI I1 q1 s := hI1
    have hV1 := hV.same hS1 hI1 hf1
    simp only [↓ap_cc, ↓ap_const, ↓ap_iload, ↓ap_aload, ↓ap_istore, ↓ap_astore, ↓ap_iinc, ↓ap_bin, ↓ap_idiv, ↓ap_irem, ↓ap_callSA, ↓ap_iretA, ↓ap_zretA, ↓ap_i2c, ↓ap_dup, ↓ap_dup2, ↓ap_nn, ↓ap_ic, ↓ap_if, ↓ap_sw, ↓ap_head, ↓ap_getI, ↓ap_getR, ↓ap_putI, ↓ap_putN, ↓ap_putR, ↓ap_iald, ↓ap_cald, ↓ap_iast, ↓ap_cast, ↓ap_aald, ↓ap_aast, ↓ap_alen, ↓ap_stat, ↓ap_pop, ↓ap_mm, ↓ap_copy, ↓ap_ret, ↓ap_iret, ↓ap_zret, ↓ap_aret, ↓ap_retA, ↓ap_new, ↓ap_newa, ↓ap_callV, ↓ap_callS, ↓ap_callI, am_in, List.map_cons, List.map_nil, List.getElem?_cons_zero, List.getElem?_cons_succ, List.set_cons_zero, List.set_cons_succ, List.take_succ_cons, List.take_zero, List.drop_succ_cons, List.drop_zero, List.reverse_cons, List.reverse_nil, List.nil_append, List.cons_append, List.append_nil, List.length_cons, List.length_nil, List.replicate_succ, List.replicate_zero, Option.toList_some, Option.toList_none, true_and, and_true, Option.some.injEq, exists_eq_left', am_wI_mk, am_wA_mk, am_wR_mk, Nat.reduceAdd, Nat.reduceSub, Nat.reduceLeDiff, Nat.zero_add, Nat.le_refl, not_true_eq_false, not_false_eq_true, forall_const, false_implies, true_implies, implies_true, and_self, Prod.mk.injEq, eq_self, true_or, or_true, false_and, and_false, or_false, false_or, Nat.reduceEqDiff, ↓a_L_acts_297, ↓a_L_acts_298, g0, g1, g2, g3, arr1 g0, arr1 g1, arr1 g2, arr1 g3, s4]
    refine c_line hS1 hI1 hW (fun I2 R2 q2 hS2 hI2 hf2 hr2 => ?_)
    rw [ol_bad2] at hI2 ⊢
    simp only [↓ap_cc, ↓ap_const, ↓ap_iload, ↓ap_aload, ↓ap_istore, ↓ap_astore, ↓ap_iinc, ↓ap_bin, ↓ap_idiv, ↓ap_irem, ↓ap_callSA, ↓ap_iretA, ↓ap_zretA, ↓ap_i2c, ↓ap_dup, ↓ap_dup2, ↓ap_nn, ↓ap_ic, ↓ap_if, ↓ap_sw, ↓ap_head, ↓ap_getI, ↓ap_getR, ↓ap_putI, ↓ap_putN, ↓ap_putR, ↓ap_iald, ↓ap_cald, ↓ap_iast, ↓ap_cast, ↓ap_aald, ↓ap_aast, ↓ap_alen, ↓ap_stat, ↓ap_pop, ↓ap_mm, ↓ap_copy, ↓ap_ret, ↓ap_iret, ↓ap_zret, ↓ap_aret, ↓ap_retA, ↓ap_new, ↓ap_newa, ↓ap_callV, ↓ap_callS, ↓ap_callI, am_in, List.map_cons, List.map_nil, List.getElem?_cons_zero, List.getElem?_cons_succ, List.set_cons_zero, List.set_cons_succ, List.take_succ_cons, List.take_zero, List.drop_succ_cons, List.drop_zero, List.reverse_cons, List.reverse_nil, List.nil_append, List.cons_append, List.append_nil, List.length_cons, List.length_nil, List.replicate_succ, List.replicate_zero, Option.toList_some, Option.toList_none, true_and, and_true, Option.some.injEq, exists_eq_left', am_wI_mk, am_wA_mk, am_wR_mk, Nat.reduceAdd, Nat.reduceSub, Nat.reduceLeDiff, Nat.zero_add, Nat.le_refl, not_true_eq_false, not_false_eq_true, forall_const, false_implies, true_implies, implies_true, and_self, Prod.mk.injEq, eq_self, true_or, or_true, false_and, and_false, or_false, false_or, Nat.reduceEqDiff, ↓a_L_acts_297, ↓a_L_acts_298, g0, g1, g2, g3, arr1 g0, arr1 g1, arr1 g2, arr1 g3, s4]
    exact hK _ _ _ _ (hV1.same hS2 hI2 hf2) (fun k hk => by rw [hf2 k (by omega), hf1 k (by omega)]) (fun k hk => by rw [hr2 k hk, hr1 k hk])
  have c335 : ∀ τ, τ ≤ 100000 → t_L_acts_335 [some (.inr 4), some (.inr 114), some (.inr 115), some (.inr 116), some (.inr 117), o5, some (.inl (nI v)), o7, some (.inl (nI (4 * gn s.a))), o9, o10, o11, o12] [.inl (nI τ), .inl (nI (4 * gn s.a)), .inr 116] (S, I, R) (am_OK h_L_acts post) post := by
    intro τ hτ
    obtain ⟨p, hp⟩ : ∃ p, v / 7 - v / 7 / 5 * 5 = p := ⟨_, rfl⟩
    obtain ⟨x, hx⟩ : ∃ x, v / 11 - v / 11 / 64 * 64 = x := ⟨_, rfl⟩
    obtain ⟨y, hy⟩ : ∃ y, v / 13 - v / 13 / 32 * 32 = y := ⟨_, rfl⟩
    have bp : p < 5 ∧ x < 64 ∧ y < 32 := by omega
    simp only [↓a_L_acts_335]
    simp only [↓ap_cc, ↓ap_const, ↓ap_iload, ↓ap_aload, ↓ap_istore, ↓ap_astore, ↓ap_iinc, ↓ap_bin, ↓ap_idiv, ↓ap_irem, ↓ap_callSA, ↓ap_iretA, ↓ap_zretA, ↓ap_i2c, ↓ap_dup, ↓ap_dup2, ↓ap_nn, ↓ap_ic, ↓ap_if, ↓ap_sw, ↓ap_head, ↓ap_getI, ↓ap_getR, ↓ap_putI, ↓ap_putN, ↓ap_putR, ↓ap_iald, ↓ap_cald, ↓ap_iast, ↓ap_cast, ↓ap_aald, ↓ap_aast, ↓ap_alen, ↓ap_stat, ↓ap_pop, ↓ap_mm, ↓ap_copy, ↓ap_ret, ↓ap_iret, ↓ap_zret, ↓ap_aret, ↓ap_retA, ↓ap_new, ↓ap_newa, ↓ap_callV, ↓ap_callS, ↓ap_callI, am_in, List.map_cons, List.map_nil, List.getElem?_cons_zero, List.getElem?_cons_succ, List.set_cons_zero, List.set_cons_succ, List.take_succ_cons, List.take_zero, List.drop_succ_cons, List.drop_zero, List.reverse_cons, List.reverse_nil, List.nil_append, List.cons_append, List.append_nil, List.length_cons, List.length_nil, List.replicate_succ, List.replicate_zero, Option.toList_some, Option.toList_none, true_and, and_true, Option.some.injEq, exists_eq_left', am_wI_mk, am_wA_mk, am_wR_mk, Nat.reduceAdd, Nat.reduceSub, Nat.reduceLeDiff, Nat.zero_add, Nat.le_refl, not_true_eq_false, not_false_eq_true, forall_const, false_implies, true_implies, implies_true, and_self, Prod.mk.injEq, eq_self, true_or, or_true, false_and, and_false, or_false, false_or, Nat.reduceEqDiff, ↓a_L_acts_424, ↓a_L_acts_425, g0, g1, g2, g3, arr1 g0, arr1 g1, arr1 g2, arr1 g3, s4]
    try simp (disch := omega) only [nm1, nm1', nsub1, np1, npd, nadd, n0m1, m1lt, nlt0, nge0, ngt0, nle0, nlt, nle, neq, neq0, m1n, m4n, vpn, vcl, ne_eq, bI_0, bI_1, bI_01, lit01, lit00, oI_s, oI_n, true_and, and_true, not_true_eq_false, not_false_eq_true, true_implies, false_implies, and_self, implies_true, forall_const, Bool.not_eq_false, Bool.not_eq_true, iu_s, iu_k1, iu_j1, ia_s1, ia_k1, lt2, lt3, lt5, lt6, lt7, lt8, lt9, lt10, lt11, lt12, lt13, lt15, lt16, lt17, lt20, lt26, lt30, lt32, lt36, lt50, lt60, lt64, lt100, lt300, lt400, lt500, lt1000, lt65536, lt100001, lt10000000, lt48, lt57, lt71, lt80, lt97, lt98, lt108, lt110, lt126, lt191, lt200, lt227, lt681, lt832, lt7919, lt1000000, lt18, lt45, lt65535, lt100000, decide_eq_true_eq, decide_eq_false_iff_not, Nat.le_refl, true_or, or_true, eq_self, ndiv, nmul, nsub, hp, hx, hy, Nat.reduceEqDiff, hI.n]
    obtain ⟨I1, hI1⟩ : ∃ I1, am_u (am_u (am_u (am_u (am_u I 116 (4 * gn s.a) (nI τ)) 116 (4 * gn s.a + 1) (nI p)) 116 (4 * gn s.a + 2) (nI x)) 116 (4 * gn s.a + 3) (nI y)) 114 9 (nI (gn s.a + 1)) = I1 := ⟨_, rfl⟩
    rw [hI1]
    have f1 : Fr 114 117 I I1 := by rw [← hI1]; exact ((((Fr.rfl.u (by decide) (by decide)).u (by decide) (by decide)).u (by decide) (by decide)).u (by decide) (by decide)).u (by decide) (by decide)
    have L1 : LwI I1 (aL s.a τ p x y) := by
      refine ⟨⟨?_, ?_, ?_, fun j hj => ?_⟩, fun j w hj hw => ?_, fun j w hj hw => ?_, fun j w hj hw => ?_, fun j hj => ?_⟩
      · rw [← hI1, iu_j1 (by decide)]; simp (disch := omega) only [iu_k1]; exact hI.t
      · rw [← hI1, iu_s]; rfl
      · rw [← hI1, iu_j1 (by decide)]; simp (disch := omega) only [iu_k1]; exact hI.k
      · rw [← hI1, iu_j1 (by omega)]; simp (disch := omega) only [iu_k1]; exact hI.s hj
      · have hj : j < gt s.a := hj
        rw [← hI1]; simp (disch := omega) only [iu_k1]; exact hI.T hj hw
      · rw [aL_n] at hj
        rw [← hI1, iu_k1 (by decide)]
        simp only [aL_L]
        by_cases hjt : j = gn s.a
        · subst hjt
          rw [if_pos rfl]
          rcases (by omega : w = 0 ∨ w = 1 ∨ w = 2 ∨ w = 3) with rfl | rfl | rfl | rfl
          · simp (disch := omega) only [iu_j1, iu_s, Nat.add_zero, if_true]
          · simp (disch := omega) only [iu_j1, iu_s, if_true, if_false, Nat.reduceEqDiff, reduceCtorEq, Nat.one_ne_zero]
          · simp (disch := omega) only [iu_j1, iu_s, if_true, if_false, Nat.reduceEqDiff, reduceCtorEq]
          · simp (disch := omega) only [iu_j1, iu_s, if_true, if_false, Nat.reduceEqDiff, reduceCtorEq]
        · rw [if_neg hjt, iu_j1 (by omega), iu_j1 (by omega), iu_j1 (by omega), iu_j1 (by omega)]
          exact hI.L (by omega) hw
      · have hj : j < gk s.a := hj
        rw [← hI1]; simp (disch := omega) only [iu_k1]; exact hI.F hj hw
      · have hj : j < gk s.a := hj
        rw [← hI1]; simp (disch := omega) only [iu_k1]; exact hI.F2 hj
    have eL : ∀ w, w < 4 → I1 116 (4 * gn s.a + w) = nI (gL (aL s.a τ p x y) w (gn s.a)) := fun w hw => L1.L (j := gn s.a) (by rw [aL_n]; omega) hw
    have e0 : I1 116 (4 * gn s.a) = nI τ := by have := eL 0 (by decide); simpa only [aL_L, if_true, Nat.add_zero] using this
    have e1 : I1 116 (4 * gn s.a + 1) = nI p := by have := eL 1 (by decide); simpa [aL_L] using this
    have e2 : I1 116 (4 * gn s.a + 2) = nI x := by have := eL 2 (by decide); simpa [aL_L] using this
    have e3 : I1 116 (4 * gn s.a + 3) = nI y := by have := eL 3 (by decide); simpa [aL_L] using this
    refine c_line hC (hCI.law hC f1) hW (fun I2 R2 q2 hS2 hI2 hf2 hr2 => ?_)
    have hT := ol_yes (s := s) (τ := τ) (p := p) (x := x) (y := y) hτ (by omega) (by omega) (by omega) (by omega)
    have hW2 := k_line (x := nI τ) (y := nI p) (z := nI x) (w := nI y) hW hCI.2.1.1
    rw [hT] at hI2 hW2 ⊢
    have L2 := hf2.lw L1
    have e9 : I2 114 9 = nI (gn s.a + 1) := by rw [L2.n]; rfl
    simp only [↓ap_cc, ↓ap_const, ↓ap_iload, ↓ap_aload, ↓ap_istore, ↓ap_astore, ↓ap_iinc, ↓ap_bin, ↓ap_idiv, ↓ap_irem, ↓ap_callSA, ↓ap_iretA, ↓ap_zretA, ↓ap_i2c, ↓ap_dup, ↓ap_dup2, ↓ap_nn, ↓ap_ic, ↓ap_if, ↓ap_sw, ↓ap_head, ↓ap_getI, ↓ap_getR, ↓ap_putI, ↓ap_putN, ↓ap_putR, ↓ap_iald, ↓ap_cald, ↓ap_iast, ↓ap_cast, ↓ap_aald, ↓ap_aast, ↓ap_alen, ↓ap_stat, ↓ap_pop, ↓ap_mm, ↓ap_copy, ↓ap_ret, ↓ap_iret, ↓ap_zret, ↓ap_aret, ↓ap_retA, ↓ap_new, ↓ap_newa, ↓ap_callV, ↓ap_callS, ↓ap_callI, am_in, List.map_cons, List.map_nil, List.getElem?_cons_zero, List.getElem?_cons_succ, List.set_cons_zero, List.set_cons_succ, List.take_succ_cons, List.take_zero, List.drop_succ_cons, List.drop_zero, List.reverse_cons, List.reverse_nil, List.nil_append, List.cons_append, List.append_nil, List.length_cons, List.length_nil, List.replicate_succ, List.replicate_zero, Option.toList_some, Option.toList_none, true_and, and_true, Option.some.injEq, exists_eq_left', am_wI_mk, am_wA_mk, am_wR_mk, Nat.reduceAdd, Nat.reduceSub, Nat.reduceLeDiff, Nat.zero_add, Nat.le_refl, not_true_eq_false, not_false_eq_true, forall_const, false_implies, true_implies, implies_true, and_self, Prod.mk.injEq, eq_self, true_or, or_true, false_and, and_false, or_false, false_or, Nat.reduceEqDiff, ↓a_L_acts_424, ↓a_L_acts_425, g0, g1, g2, g3, arr1 g0, arr1 g1, arr1 g2, arr1 g3, s4]
    try simp (disch := omega) only [nm1, nm1', nsub1, np1, npd, nadd, n0m1, m1lt, nlt0, nge0, ngt0, nle0, nlt, nle, neq, neq0, m1n, m4n, vpn, vcl, ne_eq, bI_0, bI_1, bI_01, lit01, lit00, oI_s, oI_n, true_and, and_true, not_true_eq_false, not_false_eq_true, true_implies, false_implies, and_self, implies_true, forall_const, Bool.not_eq_false, Bool.not_eq_true, iu_s, iu_k1, iu_j1, ia_s1, ia_k1, lt2, lt3, lt5, lt6, lt7, lt8, lt9, lt10, lt11, lt12, lt13, lt15, lt16, lt17, lt20, lt26, lt30, lt32, lt36, lt50, lt60, lt64, lt100, lt300, lt400, lt500, lt1000, lt65536, lt100001, lt10000000, lt48, lt57, lt71, lt80, lt97, lt98, lt108, lt110, lt126, lt191, lt200, lt227, lt681, lt832, lt7919, lt1000000, lt18, lt45, lt65535, lt100000, decide_eq_true_eq, decide_eq_false_iff_not, Nat.le_refl, true_or, or_true, eq_self, e9]
    refine hK _ _ _ (psh s (aL s.a τ p x y)) ⟨hSL, L2, hS2, hI2, hW2, ⟨bt, ?_, bk, h8.2.2.2⟩, hn0⟩ (fun k hk => by rw [hf2 k (by omega), f1 k (by omega)]) hr2
    show gn s.a + 1 ≤ 12
    omega
  simp only [↓a_L_acts_299]
  simp only [↓ap_cc, ↓ap_const, ↓ap_iload, ↓ap_aload, ↓ap_istore, ↓ap_astore, ↓ap_iinc, ↓ap_bin, ↓ap_idiv, ↓ap_irem, ↓ap_callSA, ↓ap_iretA, ↓ap_zretA, ↓ap_i2c, ↓ap_dup, ↓ap_dup2, ↓ap_nn, ↓ap_ic, ↓ap_if, ↓ap_sw, ↓ap_head, ↓ap_getI, ↓ap_getR, ↓ap_putI, ↓ap_putN, ↓ap_putR, ↓ap_iald, ↓ap_cald, ↓ap_iast, ↓ap_cast, ↓ap_aald, ↓ap_aast, ↓ap_alen, ↓ap_stat, ↓ap_pop, ↓ap_mm, ↓ap_copy, ↓ap_ret, ↓ap_iret, ↓ap_zret, ↓ap_aret, ↓ap_retA, ↓ap_new, ↓ap_newa, ↓ap_callV, ↓ap_callS, ↓ap_callI, am_in, List.map_cons, List.map_nil, List.getElem?_cons_zero, List.getElem?_cons_succ, List.set_cons_zero, List.set_cons_succ, List.take_succ_cons, List.take_zero, List.drop_succ_cons, List.drop_zero, List.reverse_cons, List.reverse_nil, List.nil_append, List.cons_append, List.append_nil, List.length_cons, List.length_nil, List.replicate_succ, List.replicate_zero, Option.toList_some, Option.toList_none, true_and, and_true, Option.some.injEq, exists_eq_left', am_wI_mk, am_wA_mk, am_wR_mk, Nat.reduceAdd, Nat.reduceSub, Nat.reduceLeDiff, Nat.zero_add, Nat.le_refl, not_true_eq_false, not_false_eq_true, forall_const, false_implies, true_implies, implies_true, and_self, Prod.mk.injEq, eq_self, true_or, or_true, false_and, and_false, or_false, false_or, Nat.reduceEqDiff, ↓a_L_acts_327, g0, g1, g2, g3, arr1 g0, arr1 g1, arr1 g2, arr1 g3, s4]
  try simp (disch := omega) only [nm1, nm1', nsub1, np1, npd, nadd, n0m1, m1lt, nlt0, nge0, ngt0, nle0, nlt, nle, neq, neq0, m1n, m4n, vpn, vcl, ne_eq, bI_0, bI_1, bI_01, lit01, lit00, oI_s, oI_n, true_and, and_true, not_true_eq_false, not_false_eq_true, true_implies, false_implies, and_self, implies_true, forall_const, Bool.not_eq_false, Bool.not_eq_true, iu_s, iu_k1, iu_j1, ia_s1, ia_k1, lt2, lt3, lt5, lt6, lt7, lt8, lt9, lt10, lt11, lt12, lt13, lt15, lt16, lt17, lt20, lt26, lt30, lt32, lt36, lt50, lt60, lt64, lt100, lt300, lt400, lt500, lt1000, lt65536, lt100001, lt10000000, lt48, lt57, lt71, lt80, lt97, lt98, lt108, lt110, lt126, lt191, lt200, lt227, lt681, lt832, lt7919, lt1000000, lt18, lt45, lt65535, lt100000, decide_eq_true_eq, decide_eq_false_iff_not, Nat.le_refl, true_or, or_true, eq_self, lt4, ndiv, nmul, nsub, hI.n, Nat.reduceEqDiff]
  exact ⟨fun _ => c335 _ (by omega), fun _ => c335 _ (by omega)⟩
theorem od_yes {x : Nat} (hn : gn s.a < 2147483648) (hx : x < gn s.a) : o_drop s (nI x) = (nI (gk (dropL s.a x)), psh s (dropL s.a x)) := by
  unfold o_drop
  rw [if_pos (isL_n hn hx), pN_n (by omega)]
theorem ow_no (h : gk s.a = 0) : o_withdraw s 0 = (-1, s) := by
  unfold o_withdraw
  rw [if_neg (fun q => by have := q.2; rw [h] at this; exact absurd this (by decide))]
theorem ow_yes {x : Nat} (hn : gk s.a < 2147483648) (hx : x < gk s.a) : o_withdraw s (nI x) = (nI (gk s.a - 1), psh s (rmF s.a x)) := by
  unfold o_withdraw
  rw [if_pos ⟨nI_pos' (by omega), (nlt (by omega) hn).mpr hx⟩, pN_n (by omega)]
theorem os_yes {w v : Nat} (hw : w < 8) (h1 : am_t1 w ≤ nI v) (h2 : nI v ≤ am_t2 w) (hv : v < 2147483648) : o_set s (nI w) (nI v) = (nI (gs s.a w), psh s (aS s.a w v)) := by
  unfold o_set
  have e : pN (nI w) = w := pN_n (by omega)
  rw [if_pos ⟨nI_pos' (by omega), (by rw [show (8 : Int32) = nI 8 from rfl, nlt (by omega) (by decide)]; exact hw), by rw [e]; exact h1, by rw [e]; exact h2⟩, e, pN_n hv]
/-- a setting -/
theorem a_set {v : Nat} {o5 o7 o8 o9 o10 o11 o12 : Option am_V} (hV : LwV S I R q s) (hK : ActK post S I R) (hv : v < 10000000) : t_L_acts_758 [some (.inr 4), some (.inr 114), some (.inr 115), some (.inr 116), some (.inr 117), o5, some (.inl (nI v)), o7, o8, o9, o10, o11, o12] [] (S, I, R) (am_OK h_L_acts post) post := by
  obtain ⟨hSL, hI, hC, hCI, hW, h8, hn0⟩ := id hV
  have hB := hW.1.1
  have hS := hSL
  obtain ⟨g0, g1, g2, g3⟩ := id hS
  have bt := h8.1
  have bn := h8.2.1
  have bk := h8.2.2.1
  have s4 := hC.1.1
  obtain ⟨w, hw⟩ : ∃ w, v - v / 8 * 8 = w := ⟨_, rfl⟩
  have w8 : w < 8 := by omega
  have c832 : ∀ (u : Nat) (o10 o11 : Option am_V), u < 2147483648 → am_t1 w ≤ nI u → nI u ≤ am_t2 w → t_L_acts_832 [some (.inr 4), some (.inr 114), some (.inr 115), some (.inr 116), some (.inr 117), o5, some (.inl (nI v)), o7, o8, some (.inl (nI w)), o10, o11, o12] [.inl (nI u)] (S, I, R) (am_OK h_L_acts post) post := by
    intro u o10 o11 hu h1 h2
    simp only [↓a_L_acts_832]
    simp only [↓ap_cc, ↓ap_const, ↓ap_iload, ↓ap_aload, ↓ap_istore, ↓ap_astore, ↓ap_iinc, ↓ap_bin, ↓ap_idiv, ↓ap_irem, ↓ap_callSA, ↓ap_iretA, ↓ap_zretA, ↓ap_i2c, ↓ap_dup, ↓ap_dup2, ↓ap_nn, ↓ap_ic, ↓ap_if, ↓ap_sw, ↓ap_head, ↓ap_getI, ↓ap_getR, ↓ap_putI, ↓ap_putN, ↓ap_putR, ↓ap_iald, ↓ap_cald, ↓ap_iast, ↓ap_cast, ↓ap_aald, ↓ap_aast, ↓ap_alen, ↓ap_stat, ↓ap_pop, ↓ap_mm, ↓ap_copy, ↓ap_ret, ↓ap_iret, ↓ap_zret, ↓ap_aret, ↓ap_retA, ↓ap_new, ↓ap_newa, ↓ap_callV, ↓ap_callS, ↓ap_callI, am_in, List.map_cons, List.map_nil, List.getElem?_cons_zero, List.getElem?_cons_succ, List.set_cons_zero, List.set_cons_succ, List.take_succ_cons, List.take_zero, List.drop_succ_cons, List.drop_zero, List.reverse_cons, List.reverse_nil, List.nil_append, List.cons_append, List.append_nil, List.length_cons, List.length_nil, List.replicate_succ, List.replicate_zero, Option.toList_some, Option.toList_none, true_and, and_true, Option.some.injEq, exists_eq_left', am_wI_mk, am_wA_mk, am_wR_mk, Nat.reduceAdd, Nat.reduceSub, Nat.reduceLeDiff, Nat.zero_add, Nat.le_refl, not_true_eq_false, not_false_eq_true, forall_const, false_implies, true_implies, implies_true, and_self, Prod.mk.injEq, eq_self, true_or, or_true, false_and, and_false, or_false, false_or, Nat.reduceEqDiff, ↓a_L_acts_863, ↓a_L_acts_864, g0, g1, g2, g3, arr1 g0, arr1 g1, arr1 g2, arr1 g3, s4]
    try simp (disch := omega) only [nm1, nm1', nsub1, np1, npd, nadd, n0m1, m1lt, nlt0, nge0, ngt0, nle0, nlt, nle, neq, neq0, m1n, m4n, vpn, vcl, ne_eq, bI_0, bI_1, bI_01, lit01, lit00, oI_s, oI_n, true_and, and_true, not_true_eq_false, not_false_eq_true, true_implies, false_implies, and_self, implies_true, forall_const, Bool.not_eq_false, Bool.not_eq_true, iu_s, iu_k1, iu_j1, ia_s1, ia_k1, lt2, lt3, lt5, lt6, lt7, lt8, lt9, lt10, lt11, lt12, lt13, lt15, lt16, lt17, lt20, lt26, lt30, lt32, lt36, lt50, lt60, lt64, lt100, lt300, lt400, lt500, lt1000, lt65536, lt100001, lt10000000, lt48, lt57, lt71, lt80, lt97, lt98, lt108, lt110, lt126, lt191, lt200, lt227, lt681, lt832, lt7919, lt1000000, lt18, lt45, lt65535, lt100000, decide_eq_true_eq, decide_eq_false_iff_not, Nat.le_refl, true_or, or_true, eq_self, hI.s]
    have f1 : Fr 114 117 I (am_u I 114 w (nI u)) := Fr.rfl.u (by decide) (by decide)
    have L1 : LwI (am_u I 114 w (nI u)) (aS s.a w u) := by
      refine ⟨⟨?_, ?_, ?_, fun j hj => ?_⟩, fun j w' hj hw' => ?_, fun j w' hj hw' => ?_, fun j w' hj hw' => ?_, fun j hj => ?_⟩
      · rw [iu_j1 (by omega)]; exact hI.t
      · rw [iu_j1 (by omega)]; exact hI.n
      · rw [iu_j1 (by omega)]; exact hI.k
      · rw [iu_i]
        simp only [aS_s]
        by_cases hjw : j = w
        · rw [if_pos hjw, if_pos hjw]
        · rw [if_neg hjw, if_neg hjw]; exact hI.s hj
      · have hj : j < gt s.a := hj
        rw [iu_k1 (by decide)]; exact hI.T hj hw'
      · have hj : j < gn s.a := hj
        rw [iu_k1 (by decide)]; exact hI.L hj hw'
      · have hj : j < gk s.a := hj
        rw [iu_k1 (by decide)]; exact hI.F hj hw'
      · have hj : j < gk s.a := hj
        rw [iu_k1 (by decide)]; exact hI.F2 hj
    refine c_set hC (hCI.law hC f1) hW (fun I2 R2 q2 hS2 hI2 hf2 hr2 => ?_)
    have hW2 := k_set (x := nI w) (y := nI u) hW hCI.2.1.1
    rw [os_yes w8 h1 h2 hu] at hI2 hW2 ⊢
    have L2 := hf2.lw L1
    simp only [↓ap_cc, ↓ap_const, ↓ap_iload, ↓ap_aload, ↓ap_istore, ↓ap_astore, ↓ap_iinc, ↓ap_bin, ↓ap_idiv, ↓ap_irem, ↓ap_callSA, ↓ap_iretA, ↓ap_zretA, ↓ap_i2c, ↓ap_dup, ↓ap_dup2, ↓ap_nn, ↓ap_ic, ↓ap_if, ↓ap_sw, ↓ap_head, ↓ap_getI, ↓ap_getR, ↓ap_putI, ↓ap_putN, ↓ap_putR, ↓ap_iald, ↓ap_cald, ↓ap_iast, ↓ap_cast, ↓ap_aald, ↓ap_aast, ↓ap_alen, ↓ap_stat, ↓ap_pop, ↓ap_mm, ↓ap_copy, ↓ap_ret, ↓ap_iret, ↓ap_zret, ↓ap_aret, ↓ap_retA, ↓ap_new, ↓ap_newa, ↓ap_callV, ↓ap_callS, ↓ap_callI, am_in, List.map_cons, List.map_nil, List.getElem?_cons_zero, List.getElem?_cons_succ, List.set_cons_zero, List.set_cons_succ, List.take_succ_cons, List.take_zero, List.drop_succ_cons, List.drop_zero, List.reverse_cons, List.reverse_nil, List.nil_append, List.cons_append, List.append_nil, List.length_cons, List.length_nil, List.replicate_succ, List.replicate_zero, Option.toList_some, Option.toList_none, true_and, and_true, Option.some.injEq, exists_eq_left', am_wI_mk, am_wA_mk, am_wR_mk, Nat.reduceAdd, Nat.reduceSub, Nat.reduceLeDiff, Nat.zero_add, Nat.le_refl, not_true_eq_false, not_false_eq_true, forall_const, false_implies, true_implies, implies_true, and_self, Prod.mk.injEq, eq_self, true_or, or_true, false_and, and_false, or_false, false_or, Nat.reduceEqDiff, ↓a_L_acts_863, ↓a_L_acts_864, g0, g1, g2, g3, arr1 g0, arr1 g1, arr1 g2, arr1 g3, s4]
    exact hK _ _ _ (psh s (aS s.a w u)) ⟨hSL, L2, hS2, hI2, hW2, ⟨bt, bn, bk, h8.2.2.2⟩, hn0⟩ (fun k hk => by rw [hf2 k (by omega), f1 k (by omega)]) hr2
  have c811 : ∀ (m : Nat) (o10 o11 : Option am_V), 0 < m → m < 1000000 → (∀ u, u < m → (w = 6 → u ≠ 0) → am_t1 w ≤ nI u ∧ nI u ≤ am_t2 w) → t_L_acts_811 [some (.inr 4), some (.inr 114), some (.inr 115), some (.inr 116), some (.inr 117), o5, some (.inl (nI v)), o7, o8, some (.inl (nI w)), o10, o11, o12] [.inl (nI m), .inl (nI (v / 8))] (S, I, R) (am_OK h_L_acts post) post := by
    intro m o10 o11 hm hm2 hu
    have hmul : v / 8 / m * m ≤ v / 8 := Nat.div_mul_le_self _ _
    have hlt : v / 8 - v / 8 / m * m < m := by
      have := Nat.mod_lt (v / 8) hm
      rw [Nat.mod_eq_sub_div_mul] at this
      exact this
    obtain ⟨u, hue⟩ : ∃ u, v / 8 - v / 8 / m * m = u := ⟨_, rfl⟩
    simp only [↓a_L_acts_811]
    simp only [↓ap_cc, ↓ap_const, ↓ap_iload, ↓ap_aload, ↓ap_istore, ↓ap_astore, ↓ap_iinc, ↓ap_bin, ↓ap_idiv, ↓ap_irem, ↓ap_callSA, ↓ap_iretA, ↓ap_zretA, ↓ap_i2c, ↓ap_dup, ↓ap_dup2, ↓ap_nn, ↓ap_ic, ↓ap_if, ↓ap_sw, ↓ap_head, ↓ap_getI, ↓ap_getR, ↓ap_putI, ↓ap_putN, ↓ap_putR, ↓ap_iald, ↓ap_cald, ↓ap_iast, ↓ap_cast, ↓ap_aald, ↓ap_aast, ↓ap_alen, ↓ap_stat, ↓ap_pop, ↓ap_mm, ↓ap_copy, ↓ap_ret, ↓ap_iret, ↓ap_zret, ↓ap_aret, ↓ap_retA, ↓ap_new, ↓ap_newa, ↓ap_callV, ↓ap_callS, ↓ap_callI, am_in, List.map_cons, List.map_nil, List.getElem?_cons_zero, List.getElem?_cons_succ, List.set_cons_zero, List.set_cons_succ, List.take_succ_cons, List.take_zero, List.drop_succ_cons, List.drop_zero, List.reverse_cons, List.reverse_nil, List.nil_append, List.cons_append, List.append_nil, List.length_cons, List.length_nil, List.replicate_succ, List.replicate_zero, Option.toList_some, Option.toList_none, true_and, and_true, Option.some.injEq, exists_eq_left', am_wI_mk, am_wA_mk, am_wR_mk, Nat.reduceAdd, Nat.reduceSub, Nat.reduceLeDiff, Nat.zero_add, Nat.le_refl, not_true_eq_false, not_false_eq_true, forall_const, false_implies, true_implies, implies_true, and_self, Prod.mk.injEq, eq_self, true_or, or_true, false_and, and_false, or_false, false_or, Nat.reduceEqDiff, ↓a_L_acts_830, g0, g1, g2, g3, arr1 g0, arr1 g1, arr1 g2, arr1 g3, s4]
    try simp (disch := omega) only [nm1, nm1', nsub1, np1, npd, nadd, n0m1, m1lt, nlt0, nge0, ngt0, nle0, nlt, nle, neq, neq0, m1n, m4n, vpn, vcl, ne_eq, bI_0, bI_1, bI_01, lit01, lit00, oI_s, oI_n, true_and, and_true, not_true_eq_false, not_false_eq_true, true_implies, false_implies, and_self, implies_true, forall_const, Bool.not_eq_false, Bool.not_eq_true, iu_s, iu_k1, iu_j1, ia_s1, ia_k1, lt2, lt3, lt5, lt6, lt7, lt8, lt9, lt10, lt11, lt12, lt13, lt15, lt16, lt17, lt20, lt26, lt30, lt32, lt36, lt50, lt60, lt64, lt100, lt300, lt400, lt500, lt1000, lt65536, lt100001, lt10000000, lt48, lt57, lt71, lt80, lt97, lt98, lt108, lt110, lt126, lt191, lt200, lt227, lt681, lt832, lt7919, lt1000000, lt18, lt45, lt65535, lt100000, decide_eq_true_eq, decide_eq_false_iff_not, Nat.le_refl, true_or, or_true, eq_self, ndiv, nmul, nsub, hue, Nat.reduceEqDiff]
    refine ⟨by omega, fun h => ?_, fun h => ⟨fun h0 => ?_, fun h0 => ?_⟩⟩
    · have := hu u (by omega) (fun q => absurd q h)
      exact c832 u _ _ (by omega) this.1 this.2
    · have := hu u (by omega) (fun _ => h0)
      exact c832 u _ _ (by omega) this.1 this.2
    · have h6 : w = 6 := Classical.byContradiction h
      refine c832 1 _ _ (by decide) ?_ ?_
      · rw [h6]; decide
      · rw [h6]; decide
  simp only [↓a_L_acts_758]
  simp only [↓ap_cc, ↓ap_const, ↓ap_iload, ↓ap_aload, ↓ap_istore, ↓ap_astore, ↓ap_iinc, ↓ap_bin, ↓ap_idiv, ↓ap_irem, ↓ap_callSA, ↓ap_iretA, ↓ap_zretA, ↓ap_i2c, ↓ap_dup, ↓ap_dup2, ↓ap_nn, ↓ap_ic, ↓ap_if, ↓ap_sw, ↓ap_head, ↓ap_getI, ↓ap_getR, ↓ap_putI, ↓ap_putN, ↓ap_putR, ↓ap_iald, ↓ap_cald, ↓ap_iast, ↓ap_cast, ↓ap_aald, ↓ap_aast, ↓ap_alen, ↓ap_stat, ↓ap_pop, ↓ap_mm, ↓ap_copy, ↓ap_ret, ↓ap_iret, ↓ap_zret, ↓ap_aret, ↓ap_retA, ↓ap_new, ↓ap_newa, ↓ap_callV, ↓ap_callS, ↓ap_callI, am_in, List.map_cons, List.map_nil, List.getElem?_cons_zero, List.getElem?_cons_succ, List.set_cons_zero, List.set_cons_succ, List.take_succ_cons, List.take_zero, List.drop_succ_cons, List.drop_zero, List.reverse_cons, List.reverse_nil, List.nil_append, List.cons_append, List.append_nil, List.length_cons, List.length_nil, List.replicate_succ, List.replicate_zero, Option.toList_some, Option.toList_none, true_and, and_true, Option.some.injEq, exists_eq_left', am_wI_mk, am_wA_mk, am_wR_mk, Nat.reduceAdd, Nat.reduceSub, Nat.reduceLeDiff, Nat.zero_add, Nat.le_refl, not_true_eq_false, not_false_eq_true, forall_const, false_implies, true_implies, implies_true, and_self, Prod.mk.injEq, eq_self, true_or, or_true, false_and, and_false, or_false, false_or, Nat.reduceEqDiff, ↓a_L_acts_781, ↓a_L_acts_792, ↓a_L_acts_804, g0, g1, g2, g3, arr1 g0, arr1 g1, arr1 g2, arr1 g3, s4]
  try simp (disch := omega) only [nm1, nm1', nsub1, np1, npd, nadd, n0m1, m1lt, nlt0, nge0, ngt0, nle0, nlt, nle, neq, neq0, m1n, m4n, vpn, vcl, ne_eq, bI_0, bI_1, bI_01, lit01, lit00, oI_s, oI_n, true_and, and_true, not_true_eq_false, not_false_eq_true, true_implies, false_implies, and_self, implies_true, forall_const, Bool.not_eq_false, Bool.not_eq_true, iu_s, iu_k1, iu_j1, ia_s1, ia_k1, lt2, lt3, lt5, lt6, lt7, lt8, lt9, lt10, lt11, lt12, lt13, lt15, lt16, lt17, lt20, lt26, lt30, lt32, lt36, lt50, lt60, lt64, lt100, lt300, lt400, lt500, lt1000, lt65536, lt100001, lt10000000, lt48, lt57, lt71, lt80, lt97, lt98, lt108, lt110, lt126, lt191, lt200, lt227, lt681, lt832, lt7919, lt1000000, lt18, lt45, lt65535, lt100000, decide_eq_true_eq, decide_eq_false_iff_not, Nat.le_refl, true_or, or_true, eq_self, ndiv, nmul, nsub, hw, neq1, Nat.reduceEqDiff]
  have lo : ∀ u, (w = 6 → u ≠ 0) → u < 2147483648 → am_t1 w ≤ nI u := by
    intro u h6 hu
    rcases (by omega : w = 0 ∨ w = 1 ∨ w = 2 ∨ w = 3 ∨ w = 4 ∨ w = 5 ∨ w = 6 ∨ w = 7) with rfl | rfl | rfl | rfl | rfl | rfl | rfl | rfl
    case inr.inr.inr.inr.inr.inr.inl =>
      show nI 1 ≤ nI u
      rw [nle (by decide) hu]
      have := h6 rfl
      omega
    all_goals exact nI_pos' hu
  have hi : ∀ T, am_t2 w = nI T → T < 2147483648 → ∀ u, u ≤ T → nI u ≤ am_t2 w := by
    intro T hT hT2 u hu
    rw [hT, nle (by omega) hT2]; exact hu
  refine ⟨fun h0 => ⟨fun h1 => ⟨fun h6 => l_top ?_ w8, fun h6 => ?_⟩, fun h1 => ?_⟩, fun h0 => ?_⟩
  · obtain ⟨T, hT, hT2⟩ : ∃ T, am_t2 w = nI T ∧ T < 1000 := by
      rcases (by omega : w = 2 ∨ w = 3 ∨ w = 4 ∨ w = 5 ∨ w = 7) with rfl | rfl | rfl | rfl | rfl
      · exact ⟨100, rfl, by decide⟩
      · exact ⟨100, rfl, by decide⟩
      · exact ⟨50, rfl, by decide⟩
      · exact ⟨100, rfl, by decide⟩
      · exact ⟨100, rfl, by decide⟩
    have hi := hi T hT (by omega)
    have lo := lo
    rw [hT]
    simp only [↓ap_cc, ↓ap_const, ↓ap_iload, ↓ap_aload, ↓ap_istore, ↓ap_astore, ↓ap_iinc, ↓ap_bin, ↓ap_idiv, ↓ap_irem, ↓ap_callSA, ↓ap_iretA, ↓ap_zretA, ↓ap_i2c, ↓ap_dup, ↓ap_dup2, ↓ap_nn, ↓ap_ic, ↓ap_if, ↓ap_sw, ↓ap_head, ↓ap_getI, ↓ap_getR, ↓ap_putI, ↓ap_putN, ↓ap_putR, ↓ap_iald, ↓ap_cald, ↓ap_iast, ↓ap_cast, ↓ap_aald, ↓ap_aast, ↓ap_alen, ↓ap_stat, ↓ap_pop, ↓ap_mm, ↓ap_copy, ↓ap_ret, ↓ap_iret, ↓ap_zret, ↓ap_aret, ↓ap_retA, ↓ap_new, ↓ap_newa, ↓ap_callV, ↓ap_callS, ↓ap_callI, am_in, List.map_cons, List.map_nil, List.getElem?_cons_zero, List.getElem?_cons_succ, List.set_cons_zero, List.set_cons_succ, List.take_succ_cons, List.take_zero, List.drop_succ_cons, List.drop_zero, List.reverse_cons, List.reverse_nil, List.nil_append, List.cons_append, List.append_nil, List.length_cons, List.length_nil, List.replicate_succ, List.replicate_zero, Option.toList_some, Option.toList_none, true_and, and_true, Option.some.injEq, exists_eq_left', am_wI_mk, am_wA_mk, am_wR_mk, Nat.reduceAdd, Nat.reduceSub, Nat.reduceLeDiff, Nat.zero_add, Nat.le_refl, not_true_eq_false, not_false_eq_true, forall_const, false_implies, true_implies, implies_true, and_self, Prod.mk.injEq, eq_self, true_or, or_true, false_and, and_false, or_false, false_or, Nat.reduceEqDiff, g0, g1, g2, g3, arr1 g0, arr1 g1, arr1 g2, arr1 g3]
    try simp (disch := omega) only [nm1, nm1', nsub1, np1, npd, nadd, n0m1, m1lt, nlt0, nge0, ngt0, nle0, nlt, nle, neq, neq0, m1n, m4n, vpn, vcl, ne_eq, bI_0, bI_1, bI_01, lit01, lit00, oI_s, oI_n, true_and, and_true, not_true_eq_false, not_false_eq_true, true_implies, false_implies, and_self, implies_true, forall_const, Bool.not_eq_false, Bool.not_eq_true, iu_s, iu_k1, iu_j1, ia_s1, ia_k1, lt2, lt3, lt5, lt6, lt7, lt8, lt9, lt10, lt11, lt12, lt13, lt15, lt16, lt17, lt20, lt26, lt30, lt32, lt36, lt50, lt60, lt64, lt100, lt300, lt400, lt500, lt1000, lt65536, lt100001, lt10000000, lt48, lt57, lt71, lt80, lt97, lt98, lt108, lt110, lt126, lt191, lt200, lt227, lt681, lt832, lt7919, lt1000000, lt18, lt45, lt65535, lt100000, decide_eq_true_eq, decide_eq_false_iff_not, Nat.le_refl, true_or, or_true, eq_self]
    exact c811 (T + 1) _ _ (by omega) (by omega) (fun u hu h => ⟨lo u h (by omega), hi u (by omega)⟩)
  · have h6 : w = 6 := Classical.byContradiction h6
    exact c811 100 _ _ (by decide) (by decide) (fun u hu h => ⟨lo u h (by omega), hi 1000 (by rw [h6]; rfl) (by decide) u (by omega)⟩)
  · have h1 : w = 1 := Classical.byContradiction h1
    exact c811 60 _ _ (by decide) (by decide) (fun u hu h => ⟨lo u h (by omega), hi 200 (by rw [h1]; rfl) (by decide) u (by omega)⟩)
  · have h0 : w = 0 := Classical.byContradiction h0
    exact c811 500 _ _ (by decide) (by decide) (fun u hu h => ⟨lo u h (by omega), hi 100000 (by rw [h0]; rfl) (by decide) u (by omega)⟩)
/-- a correction goes, or a setting -/
theorem a_withdraw {v y : Nat} {o5 o8 o9 o10 o11 o12 : Option am_V} (hV : LwV S I R q s) (hK : ActK post S I R) (hv : v < 10000000) (hy : y < 26) : t_L_acts_693 [some (.inr 4), some (.inr 114), some (.inr 115), some (.inr 116), some (.inr 117), o5, some (.inl (nI v)), some (.inl (nI y)), o8, o9, o10, o11, o12] [] (S, I, R) (am_OK h_L_acts post) post := by
  obtain ⟨hSL, hI, hC, hCI, hW, h8, hn0⟩ := id hV
  have hB := hW.1.1
  have hS := hSL
  obtain ⟨g0, g1, g2, g3⟩ := id hS
  have bt := h8.1
  have bn := h8.2.1
  have bk := h8.2.2.1
  have s4 := hC.1.1
  simp only [↓a_L_acts_693]
  simp only [↓ap_cc, ↓ap_const, ↓ap_iload, ↓ap_aload, ↓ap_istore, ↓ap_astore, ↓ap_iinc, ↓ap_bin, ↓ap_idiv, ↓ap_irem, ↓ap_callSA, ↓ap_iretA, ↓ap_zretA, ↓ap_i2c, ↓ap_dup, ↓ap_dup2, ↓ap_nn, ↓ap_ic, ↓ap_if, ↓ap_sw, ↓ap_head, ↓ap_getI, ↓ap_getR, ↓ap_putI, ↓ap_putN, ↓ap_putR, ↓ap_iald, ↓ap_cald, ↓ap_iast, ↓ap_cast, ↓ap_aald, ↓ap_aast, ↓ap_alen, ↓ap_stat, ↓ap_pop, ↓ap_mm, ↓ap_copy, ↓ap_ret, ↓ap_iret, ↓ap_zret, ↓ap_aret, ↓ap_retA, ↓ap_new, ↓ap_newa, ↓ap_callV, ↓ap_callS, ↓ap_callI, am_in, List.map_cons, List.map_nil, List.getElem?_cons_zero, List.getElem?_cons_succ, List.set_cons_zero, List.set_cons_succ, List.take_succ_cons, List.take_zero, List.drop_succ_cons, List.drop_zero, List.reverse_cons, List.reverse_nil, List.nil_append, List.cons_append, List.append_nil, List.length_cons, List.length_nil, List.replicate_succ, List.replicate_zero, Option.toList_some, Option.toList_none, true_and, and_true, Option.some.injEq, exists_eq_left', am_wI_mk, am_wA_mk, am_wR_mk, Nat.reduceAdd, Nat.reduceSub, Nat.reduceLeDiff, Nat.zero_add, Nat.le_refl, not_true_eq_false, not_false_eq_true, forall_const, false_implies, true_implies, implies_true, and_self, Prod.mk.injEq, eq_self, true_or, or_true, false_and, and_false, or_false, false_or, Nat.reduceEqDiff, ↓a_L_acts_720, ↓a_L_acts_721, g0, g1, g2, g3, arr1 g0, arr1 g1, arr1 g2, arr1 g3, s4]
  try simp (disch := omega) only [nm1, nm1', nsub1, np1, npd, nadd, n0m1, m1lt, nlt0, nge0, ngt0, nle0, nlt, nle, neq, neq0, m1n, m4n, vpn, vcl, ne_eq, bI_0, bI_1, bI_01, lit01, lit00, oI_s, oI_n, true_and, and_true, not_true_eq_false, not_false_eq_true, true_implies, false_implies, and_self, implies_true, forall_const, Bool.not_eq_false, Bool.not_eq_true, iu_s, iu_k1, iu_j1, ia_s1, ia_k1, lt2, lt3, lt5, lt6, lt7, lt8, lt9, lt10, lt11, lt12, lt13, lt15, lt16, lt17, lt20, lt26, lt30, lt32, lt36, lt50, lt60, lt64, lt100, lt300, lt400, lt500, lt1000, lt65536, lt100001, lt10000000, lt48, lt57, lt71, lt80, lt97, lt98, lt108, lt110, lt126, lt191, lt200, lt227, lt681, lt832, lt7919, lt1000000, lt18, lt45, lt65535, lt100000, decide_eq_true_eq, decide_eq_false_iff_not, Nat.le_refl, true_or, or_true, eq_self, hI.k]
  refine ⟨fun _ => a_set hV hK hv, fun _ => ⟨fun h0 => ?_, fun h0 => ?_⟩⟩
  · have hmul : v / gk s.a * gk s.a ≤ v := Nat.div_mul_le_self _ _
    have hlt : v - v / gk s.a * gk s.a < gk s.a := by
      have := Nat.mod_lt v (by omega : 0 < gk s.a)
      rw [Nat.mod_eq_sub_div_mul] at this
      exact this
    obtain ⟨x, hx⟩ : ∃ x, v - v / gk s.a * gk s.a = x := ⟨_, rfl⟩
    simp only [↓a_L_acts_722]
    simp only [↓ap_cc, ↓ap_const, ↓ap_iload, ↓ap_aload, ↓ap_istore, ↓ap_astore, ↓ap_iinc, ↓ap_bin, ↓ap_idiv, ↓ap_irem, ↓ap_callSA, ↓ap_iretA, ↓ap_zretA, ↓ap_i2c, ↓ap_dup, ↓ap_dup2, ↓ap_nn, ↓ap_ic, ↓ap_if, ↓ap_sw, ↓ap_head, ↓ap_getI, ↓ap_getR, ↓ap_putI, ↓ap_putN, ↓ap_putR, ↓ap_iald, ↓ap_cald, ↓ap_iast, ↓ap_cast, ↓ap_aald, ↓ap_aast, ↓ap_alen, ↓ap_stat, ↓ap_pop, ↓ap_mm, ↓ap_copy, ↓ap_ret, ↓ap_iret, ↓ap_zret, ↓ap_aret, ↓ap_retA, ↓ap_new, ↓ap_newa, ↓ap_callV, ↓ap_callS, ↓ap_callI, am_in, List.map_cons, List.map_nil, List.getElem?_cons_zero, List.getElem?_cons_succ, List.set_cons_zero, List.set_cons_succ, List.take_succ_cons, List.take_zero, List.drop_succ_cons, List.drop_zero, List.reverse_cons, List.reverse_nil, List.nil_append, List.cons_append, List.append_nil, List.length_cons, List.length_nil, List.replicate_succ, List.replicate_zero, Option.toList_some, Option.toList_none, true_and, and_true, Option.some.injEq, exists_eq_left', am_wI_mk, am_wA_mk, am_wR_mk, Nat.reduceAdd, Nat.reduceSub, Nat.reduceLeDiff, Nat.zero_add, Nat.le_refl, not_true_eq_false, not_false_eq_true, forall_const, false_implies, true_implies, implies_true, and_self, Prod.mk.injEq, eq_self, true_or, or_true, false_and, and_false, or_false, false_or, Nat.reduceEqDiff, ↓a_L_acts_756, ↓a_L_acts_757, g0, g1, g2, g3, arr1 g0, arr1 g1, arr1 g2, arr1 g3, s4]
    try simp (disch := omega) only [nm1, nm1', nsub1, np1, npd, nadd, n0m1, m1lt, nlt0, nge0, ngt0, nle0, nlt, nle, neq, neq0, m1n, m4n, vpn, vcl, ne_eq, bI_0, bI_1, bI_01, lit01, lit00, oI_s, oI_n, true_and, and_true, not_true_eq_false, not_false_eq_true, true_implies, false_implies, and_self, implies_true, forall_const, Bool.not_eq_false, Bool.not_eq_true, iu_s, iu_k1, iu_j1, ia_s1, ia_k1, lt2, lt3, lt5, lt6, lt7, lt8, lt9, lt10, lt11, lt12, lt13, lt15, lt16, lt17, lt20, lt26, lt30, lt32, lt36, lt50, lt60, lt64, lt100, lt300, lt400, lt500, lt1000, lt65536, lt100001, lt10000000, lt48, lt57, lt71, lt80, lt97, lt98, lt108, lt110, lt126, lt191, lt200, lt227, lt681, lt832, lt7919, lt1000000, lt18, lt45, lt65535, lt100000, decide_eq_true_eq, decide_eq_false_iff_not, Nat.le_refl, true_or, or_true, eq_self, hI.k, ndiv, nmul, nsub, hx]
    refine ⟨by omega, l_goes (x := x) hS hI hB h8 (by omega) (fun I1 f1 L1 => ?_)⟩
    simp only [↓ap_cc, ↓ap_const, ↓ap_iload, ↓ap_aload, ↓ap_istore, ↓ap_astore, ↓ap_iinc, ↓ap_bin, ↓ap_idiv, ↓ap_irem, ↓ap_callSA, ↓ap_iretA, ↓ap_zretA, ↓ap_i2c, ↓ap_dup, ↓ap_dup2, ↓ap_nn, ↓ap_ic, ↓ap_if, ↓ap_sw, ↓ap_head, ↓ap_getI, ↓ap_getR, ↓ap_putI, ↓ap_putN, ↓ap_putR, ↓ap_iald, ↓ap_cald, ↓ap_iast, ↓ap_cast, ↓ap_aald, ↓ap_aast, ↓ap_alen, ↓ap_stat, ↓ap_pop, ↓ap_mm, ↓ap_copy, ↓ap_ret, ↓ap_iret, ↓ap_zret, ↓ap_aret, ↓ap_retA, ↓ap_new, ↓ap_newa, ↓ap_callV, ↓ap_callS, ↓ap_callI, am_in, List.map_cons, List.map_nil, List.getElem?_cons_zero, List.getElem?_cons_succ, List.set_cons_zero, List.set_cons_succ, List.take_succ_cons, List.take_zero, List.drop_succ_cons, List.drop_zero, List.reverse_cons, List.reverse_nil, List.nil_append, List.cons_append, List.append_nil, List.length_cons, List.length_nil, List.replicate_succ, List.replicate_zero, Option.toList_some, Option.toList_none, true_and, and_true, Option.some.injEq, exists_eq_left', am_wI_mk, am_wA_mk, am_wR_mk, Nat.reduceAdd, Nat.reduceSub, Nat.reduceLeDiff, Nat.zero_add, Nat.le_refl, not_true_eq_false, not_false_eq_true, forall_const, false_implies, true_implies, implies_true, and_self, Prod.mk.injEq, eq_self, true_or, or_true, false_and, and_false, or_false, false_or, Nat.reduceEqDiff, ↓a_L_acts_756, ↓a_L_acts_757, g0, g1, g2, g3, arr1 g0, arr1 g1, arr1 g2, arr1 g3, s4]
    refine c_withdraw hC (hCI.law hC f1) hW (fun I2 R2 q2 hS2 hI2 hf2 hr2 => ?_)
    have hW2 := k_withdraw (x := nI x) hW hCI.2.1.1
    rw [ow_yes (by omega) (by omega)] at hI2 hW2 ⊢
    have L2 := hf2.lw L1
    have e10 : I2 114 10 = nI (gk s.a - 1) := L2.k
    simp only [↓ap_cc, ↓ap_const, ↓ap_iload, ↓ap_aload, ↓ap_istore, ↓ap_astore, ↓ap_iinc, ↓ap_bin, ↓ap_idiv, ↓ap_irem, ↓ap_callSA, ↓ap_iretA, ↓ap_zretA, ↓ap_i2c, ↓ap_dup, ↓ap_dup2, ↓ap_nn, ↓ap_ic, ↓ap_if, ↓ap_sw, ↓ap_head, ↓ap_getI, ↓ap_getR, ↓ap_putI, ↓ap_putN, ↓ap_putR, ↓ap_iald, ↓ap_cald, ↓ap_iast, ↓ap_cast, ↓ap_aald, ↓ap_aast, ↓ap_alen, ↓ap_stat, ↓ap_pop, ↓ap_mm, ↓ap_copy, ↓ap_ret, ↓ap_iret, ↓ap_zret, ↓ap_aret, ↓ap_retA, ↓ap_new, ↓ap_newa, ↓ap_callV, ↓ap_callS, ↓ap_callI, am_in, List.map_cons, List.map_nil, List.getElem?_cons_zero, List.getElem?_cons_succ, List.set_cons_zero, List.set_cons_succ, List.take_succ_cons, List.take_zero, List.drop_succ_cons, List.drop_zero, List.reverse_cons, List.reverse_nil, List.nil_append, List.cons_append, List.append_nil, List.length_cons, List.length_nil, List.replicate_succ, List.replicate_zero, Option.toList_some, Option.toList_none, true_and, and_true, Option.some.injEq, exists_eq_left', am_wI_mk, am_wA_mk, am_wR_mk, Nat.reduceAdd, Nat.reduceSub, Nat.reduceLeDiff, Nat.zero_add, Nat.le_refl, not_true_eq_false, not_false_eq_true, forall_const, false_implies, true_implies, implies_true, and_self, Prod.mk.injEq, eq_self, true_or, or_true, false_and, and_false, or_false, false_or, Nat.reduceEqDiff, ↓a_L_acts_756, ↓a_L_acts_757, g0, g1, g2, g3, arr1 g0, arr1 g1, arr1 g2, arr1 g3, s4]
    try simp (disch := omega) only [nm1, nm1', nsub1, np1, npd, nadd, n0m1, m1lt, nlt0, nge0, ngt0, nle0, nlt, nle, neq, neq0, m1n, m4n, vpn, vcl, ne_eq, bI_0, bI_1, bI_01, lit01, lit00, oI_s, oI_n, true_and, and_true, not_true_eq_false, not_false_eq_true, true_implies, false_implies, and_self, implies_true, forall_const, Bool.not_eq_false, Bool.not_eq_true, iu_s, iu_k1, iu_j1, ia_s1, ia_k1, lt2, lt3, lt5, lt6, lt7, lt8, lt9, lt10, lt11, lt12, lt13, lt15, lt16, lt17, lt20, lt26, lt30, lt32, lt36, lt50, lt60, lt64, lt100, lt300, lt400, lt500, lt1000, lt65536, lt100001, lt10000000, lt48, lt57, lt71, lt80, lt97, lt98, lt108, lt110, lt126, lt191, lt200, lt227, lt681, lt832, lt7919, lt1000000, lt18, lt45, lt65535, lt100000, decide_eq_true_eq, decide_eq_false_iff_not, Nat.le_refl, true_or, or_true, eq_self, e10]
    refine hK _ _ _ (psh s (rmF s.a x)) ⟨hSL, L2, hS2, hI2, hW2, ⟨bt, bn, ?_, h8.2.2.2⟩, hn0⟩ (fun k hk => by rw [hf2 k (by omega), f1 k (by omega)]) hr2
    show gk s.a - 1 ≤ 6
    omega
  · refine c_withdraw hC hCI hW (fun I1 R1 q1 hS1 hI1 hf1 hr1 => ?_)
    rw [ow_no (Classical.byContradiction h0)] at hI1 ⊢
    simp only [↓ap_cc, ↓ap_const, ↓ap_iload, ↓ap_aload, ↓ap_istore, ↓ap_astore, ↓ap_iinc, ↓ap_bin, ↓ap_idiv, ↓ap_irem, ↓ap_callSA, ↓ap_iretA, ↓ap_zretA, ↓ap_i2c, ↓ap_dup, ↓ap_dup2, ↓ap_nn, ↓ap_ic, ↓ap_if, ↓ap_sw, ↓ap_head, ↓ap_getI, ↓ap_getR, ↓ap_putI, ↓ap_putN, ↓ap_putR, ↓ap_iald, ↓ap_cald, ↓ap_iast, ↓ap_cast, ↓ap_aald, ↓ap_aast, ↓ap_alen, ↓ap_stat, ↓ap_pop, ↓ap_mm, ↓ap_copy, ↓ap_ret, ↓ap_iret, ↓ap_zret, ↓ap_aret, ↓ap_retA, ↓ap_new, ↓ap_newa, ↓ap_callV, ↓ap_callS, ↓ap_callI, am_in, List.map_cons, List.map_nil, List.getElem?_cons_zero, List.getElem?_cons_succ, List.set_cons_zero, List.set_cons_succ, List.take_succ_cons, List.take_zero, List.drop_succ_cons, List.drop_zero, List.reverse_cons, List.reverse_nil, List.nil_append, List.cons_append, List.append_nil, List.length_cons, List.length_nil, List.replicate_succ, List.replicate_zero, Option.toList_some, Option.toList_none, true_and, and_true, Option.some.injEq, exists_eq_left', am_wI_mk, am_wA_mk, am_wR_mk, Nat.reduceAdd, Nat.reduceSub, Nat.reduceLeDiff, Nat.zero_add, Nat.le_refl, not_true_eq_false, not_false_eq_true, forall_const, false_implies, true_implies, implies_true, and_self, Prod.mk.injEq, eq_self, true_or, or_true, false_and, and_false, or_false, false_or, Nat.reduceEqDiff, ↓a_L_acts_720, ↓a_L_acts_721, g0, g1, g2, g3, arr1 g0, arr1 g1, arr1 g2, arr1 g3, s4]
    exact hK _ _ _ _ (hV.same hS1 hI1 hf1) (fun k hk => hf1 k (by omega)) hr1
