-- needs: 10 11 12 13 14 15 20 21 22 23 30 31 32 33 34 35 36 37 38 40 41 42 50 51 52 55 59 60 64 65 66 67 68 69 70 71 95a 95b 95e 90
variable {S : List (Nat × Nat)} {R : Nat → Nat → Option Nat} {I : Nat → Nat → Int32} {q : Nat → Nat} {s : St} {post : am_R}
/-- the law's rows and the developers' object hold the same state -/
def LwV (S : List (Nat × Nat)) (I : Nat → Nat → Int32) (R : Nat → Nat → Option Nat) (q : Nat → Nat) (s : St) : Prop := LwS S ∧ LwI I s.a ∧ ClS S R q ∧ ClI I q s ∧ WfS s ∧ Lw8 s.a ∧ s.n = 0
/-- what follows a step of the law -/
def ActK (post : am_R) (S : List (Nat × Nat)) (I : Nat → Nat → Int32) (R : Nat → Nat → Option Nat) : Prop := ∀ I' R' q' s', LwV S I' R' q' s' → (∀ k, (118 ≤ k ∨ k = 3) → I' k = I k) → (∀ k, k ≠ 34 → R' k = R k) → post (some (.inl 1)) (S, I', R')
theorem FrC.lw {I' : Nat → Nat → Int32} {a : Lg} (h : FrC I I') (hI : LwI I a) : LwI I' a := hI.same (fun k h1 h2 => h k (Or.inl h1))
theorem LwV.same {I1 : Nat → Nat → Int32} {R1 : Nat → Nat → Option Nat} {q1 : Nat → Nat} (hV : LwV S I R q s) (hS1 : ClS S R1 q1) (hI1 : ClI I1 q1 s) (hf : FrC I I1) : LwV S I1 R1 q1 s := ⟨hV.1, hf.lw hV.2.1, hS1, hI1, hV.2.2.2.2⟩
/-- where only rows of the law's own are other, the object is as it was -/
theorem ClI.law {I' : Nat → Nat → Int32} (hS : ClS S R q) (hI : ClI I q s) (hf : Fr 114 117 I I') : ClI I' q s := hI.same hS (fun k hk => hf k (by omega)) (by rw [hf 83 (by omega)]) (hf 84 (by omega))
theorem ndiv {x m : Nat} (hx : x < 2147483648) (hm : 0 < m) (hm2 : m < 2147483648) : nI x / nI m = nI (x / m) := pk_div (by omega) (by omega) (by omega)
theorem gl_le {a : Lg} (h8 : Lw8 a) : gl a ≤ 60 * gt a := by
  unfold gl
  by_cases h : gt a = 0
  · rw [if_pos h]; omega
  · rw [if_neg h]
    have := h8.2.2.2 (gt a - 1) (by omega)
    omega
theorem isP_n {p : Nat} (h : p < 12) : isP (nI p) := by
  refine ⟨nI_pos' (by omega), ?_⟩
  rw [show (12 : Int32) = nI 12 from rfl, nlt (by omega) (by decide)]; exact h
theorem isN_n {p : Nat} (h : p < 16) : isN (nI p) := by
  refine ⟨nI_pos' (by omega), ?_⟩
  rw [show (16 : Int32) = nI 16 from rfl, nlt (by omega) (by decide)]; exact h
theorem isT_n {p : Nat} (h : p ≤ 100000) : isT (nI p) := by
  refine ⟨nI_pos' (by omega), ?_⟩
  rw [show (100000 : Int32) = nI 100000 from rfl, nle (by omega) (by decide)]; exact h
theorem isB_n {p : Nat} (h : p ≤ 65535) : isB (nI p) := by
  refine ⟨nI_pos' (by omega), ?_⟩
  rw [show (65535 : Int32) = nI 65535 from rfl, nle (by omega) (by decide)]; exact h
theorem isL_n {a : Lg} {p : Nat} (hn : gn a < 2147483648) (h : p < gn a) : isL a (nI p) := ⟨nI_pos' (by omega), (nlt (by omega) hn).mpr h⟩
theorem ot_bad {p τ : Nat} : o_takes s (nI p) 16 (nI τ) = (-1, s) := by
  unfold o_takes
  rw [if_neg (fun h => absurd h.2.1.2 (by decide))]
theorem ot_no {p nm τ : Nat} (hp : p < 12) (hn : nm < 16) (hτ : τ ≤ 100000) (h : τ < gl s.a ∨ (gH s.a nm τ ≠ none ∧ gH s.a nm τ ≠ some p)) : o_takes s (nI p) (nI nm) (nI τ) = (-2, s) := by
  unfold o_takes
  rw [if_pos ⟨isP_n hp, isN_n hn, isT_n hτ⟩, pN_n (by omega), pN_n (by omega), pN_n (by omega)]
  unfold tk
  rw [if_pos h]
theorem ot_yes {p nm τ : Nat} (hp : p < 12) (hn : nm < 16) (hτ : τ ≤ 100000) (h : ¬ (τ < gl s.a ∨ (gH s.a nm τ ≠ none ∧ gH s.a nm τ ≠ some p))) (h2 : gt s.a < 20) : o_takes s (nI p) (nI nm) (nI τ) = (nI (gt s.a + 1), psh s (aT s.a p nm τ)) := by
  unfold o_takes
  rw [if_pos ⟨isP_n hp, isN_n hn, isT_n hτ⟩, pN_n (by omega), pN_n (by omega), pN_n (by omega)]
  unfold tk
  rw [if_neg h, if_neg (by omega)]
/-- a take -/
theorem a_takes {p nm v : Nat} {o5 o7 o10 o11 o12 : Option am_V} (hV : LwV S I R q s) (hK : ActK post S I R) (hp5 : p < 5) (hn6 : nm < 6) (hv : v < 10000000) : t_L_acts_62 [some (.inr 4), some (.inr 114), some (.inr 115), some (.inr 116), some (.inr 117), o5, some (.inl (nI v)), o7, some (.inl (nI p)), some (.inl (nI nm)), o10, o11, o12] [.inl (nI (gl s.a))] (S, I, R) (am_OK h_L_acts post) post := by
  obtain ⟨hSL, hI, hC, hCI, hW, h8, hn0⟩ := id hV
  have hB := hW.1.1
  have hS := hSL
  obtain ⟨g0, g1, g2, g3⟩ := id hS
  have bt := h8.1
  have bn := h8.2.1
  have bk := h8.2.2.1
  have s4 := hC.1.1
  have gl8 := gl_le h8
  obtain ⟨τ, hτ⟩ : ∃ τ, gl s.a + (v / 30 - v / 30 / 60 * 60) = τ := ⟨_, rfl⟩
  have ht1 : gl s.a ≤ τ ∧ τ ≤ gl s.a + 59 := by omega
  simp only [↓a_L_acts_62]
  simp only [↓ap_cc, ↓ap_const, ↓ap_iload, ↓ap_aload, ↓ap_istore, ↓ap_astore, ↓ap_iinc, ↓ap_bin, ↓ap_idiv, ↓ap_irem, ↓ap_callSA, ↓ap_iretA, ↓ap_zretA, ↓ap_i2c, ↓ap_dup, ↓ap_dup2, ↓ap_nn, ↓ap_ic, ↓ap_if, ↓ap_sw, ↓ap_head, ↓ap_getI, ↓ap_getR, ↓ap_putI, ↓ap_putN, ↓ap_putR, ↓ap_iald, ↓ap_cald, ↓ap_iast, ↓ap_cast, ↓ap_aald, ↓ap_aast, ↓ap_alen, ↓ap_stat, ↓ap_pop, ↓ap_mm, ↓ap_copy, ↓ap_ret, ↓ap_iret, ↓ap_zret, ↓ap_aret, ↓ap_retA, ↓ap_new, ↓ap_newa, ↓ap_callV, ↓ap_callS, ↓ap_callI, am_in, List.map_cons, List.map_nil, List.getElem?_cons_zero, List.getElem?_cons_succ, List.set_cons_zero, List.set_cons_succ, List.take_succ_cons, List.take_zero, List.drop_succ_cons, List.drop_zero, List.reverse_cons, List.reverse_nil, List.nil_append, List.cons_append, List.append_nil, List.length_cons, List.length_nil, List.replicate_succ, List.replicate_zero, Option.toList_some, Option.toList_none, true_and, and_true, Option.some.injEq, exists_eq_left', am_wI_mk, am_wA_mk, am_wR_mk, Nat.reduceAdd, Nat.reduceSub, Nat.reduceLeDiff, Nat.zero_add, Nat.le_refl, not_true_eq_false, not_false_eq_true, forall_const, false_implies, true_implies, implies_true, and_self, Prod.mk.injEq, eq_self, true_or, or_true, false_and, and_false, or_false, false_or, Nat.reduceEqDiff, g0, g1, g2, g3, arr1 g0, arr1 g1, arr1 g2, arr1 g3, s4]
  try simp (disch := omega) only [nm1, nm1', nsub1, np1, npd, nadd, n0m1, m1lt, nlt0, nge0, ngt0, nle0, nlt, nle, neq, neq0, m1n, m4n, vpn, vcl, ne_eq, bI_0, bI_1, bI_01, lit01, lit00, oI_s, oI_n, true_and, and_true, not_true_eq_false, not_false_eq_true, true_implies, false_implies, and_self, implies_true, forall_const, Bool.not_eq_false, Bool.not_eq_true, iu_s, iu_k1, iu_j1, ia_s1, ia_k1, lt2, lt3, lt5, lt6, lt7, lt8, lt9, lt10, lt11, lt12, lt13, lt15, lt16, lt17, lt20, lt26, lt30, lt32, lt36, lt50, lt60, lt64, lt100, lt300, lt400, lt500, lt1000, lt65536, lt100001, lt10000000, lt48, lt57, lt71, lt80, lt97, lt98, lt108, lt110, lt126, lt191, lt200, lt227, lt681, lt832, lt7919, lt1000000, lt18, lt45, lt65535, lt100000, decide_eq_true_eq, decide_eq_false_iff_not, Nat.le_refl, true_or, or_true, eq_self, ndiv, nmul, nsub, hτ, Nat.reduceEqDiff]
  refine l_has hS hI hB h8 (by omega) (by omega) ?_
  rw [gH_lst hW.1.2.2]
  simp only [↓ap_cc, ↓ap_const, ↓ap_iload, ↓ap_aload, ↓ap_istore, ↓ap_astore, ↓ap_iinc, ↓ap_bin, ↓ap_idiv, ↓ap_irem, ↓ap_callSA, ↓ap_iretA, ↓ap_zretA, ↓ap_i2c, ↓ap_dup, ↓ap_dup2, ↓ap_nn, ↓ap_ic, ↓ap_if, ↓ap_sw, ↓ap_head, ↓ap_getI, ↓ap_getR, ↓ap_putI, ↓ap_putN, ↓ap_putR, ↓ap_iald, ↓ap_cald, ↓ap_iast, ↓ap_cast, ↓ap_aald, ↓ap_aast, ↓ap_alen, ↓ap_stat, ↓ap_pop, ↓ap_mm, ↓ap_copy, ↓ap_ret, ↓ap_iret, ↓ap_zret, ↓ap_aret, ↓ap_retA, ↓ap_new, ↓ap_newa, ↓ap_callV, ↓ap_callS, ↓ap_callI, am_in, List.map_cons, List.map_nil, List.getElem?_cons_zero, List.getElem?_cons_succ, List.set_cons_zero, List.set_cons_succ, List.take_succ_cons, List.take_zero, List.drop_succ_cons, List.drop_zero, List.reverse_cons, List.reverse_nil, List.nil_append, List.cons_append, List.append_nil, List.length_cons, List.length_nil, List.replicate_succ, List.replicate_zero, Option.toList_some, Option.toList_none, true_and, and_true, Option.some.injEq, exists_eq_left', am_wI_mk, am_wA_mk, am_wR_mk, Nat.reduceAdd, Nat.reduceSub, Nat.reduceLeDiff, Nat.zero_add, Nat.le_refl, not_true_eq_false, not_false_eq_true, forall_const, false_implies, true_implies, implies_true, and_self, Prod.mk.injEq, eq_self, true_or, or_true, false_and, and_false, or_false, false_or, Nat.reduceEqDiff, ↓a_L_acts_119, ↓a_L_acts_120, g0, g1, g2, g3, arr1 g0, arr1 g1, arr1 g2, arr1 g3, s4]
  -- a name that is free, or the person's own
  have c121 : ¬ (τ < gl s.a ∨ (gH s.a nm τ ≠ none ∧ gH s.a nm τ ≠ some p)) → ∀ o12 : Option am_V, t_L_acts_121 [some (.inr 4), some (.inr 114), some (.inr 115), some (.inr 116), some (.inr 117), o5, some (.inl (nI v)), o7, some (.inl (nI p)), some (.inl (nI nm)), some (.inl (nI (gl s.a))), some (.inl (nI τ)), o12] [] (S, I, R) (am_OK h_L_acts post) post := by
    intro hfree o12
    have c137 : gt s.a = 8 → t_L_acts_137 [some (.inr 4), some (.inr 114), some (.inr 115), some (.inr 116), some (.inr 117), o5, some (.inl (nI v)), o7, some (.inl (nI p)), some (.inl (nI nm)), some (.inl (nI (gl s.a))), some (.inl (nI τ)), o12] [] (S, I, R) (am_OK h_L_acts post) post := by
      intro h
      simp only [↓a_L_acts_137]
      simp only [↓ap_cc, ↓ap_const, ↓ap_iload, ↓ap_aload, ↓ap_istore, ↓ap_astore, ↓ap_iinc, ↓ap_bin, ↓ap_idiv, ↓ap_irem, ↓ap_callSA, ↓ap_iretA, ↓ap_zretA, ↓ap_i2c, ↓ap_dup, ↓ap_dup2, ↓ap_nn, ↓ap_ic, ↓ap_if, ↓ap_sw, ↓ap_head, ↓ap_getI, ↓ap_getR, ↓ap_putI, ↓ap_putN, ↓ap_putR, ↓ap_iald, ↓ap_cald, ↓ap_iast, ↓ap_cast, ↓ap_aald, ↓ap_aast, ↓ap_alen, ↓ap_stat, ↓ap_pop, ↓ap_mm, ↓ap_copy, ↓ap_ret, ↓ap_iret, ↓ap_zret, ↓ap_aret, ↓ap_retA, ↓ap_new, ↓ap_newa, ↓ap_callV, ↓ap_callS, ↓ap_callI, am_in, List.map_cons, List.map_nil, List.getElem?_cons_zero, List.getElem?_cons_succ, List.set_cons_zero, List.set_cons_succ, List.take_succ_cons, List.take_zero, List.drop_succ_cons, List.drop_zero, List.reverse_cons, List.reverse_nil, List.nil_append, List.cons_append, List.append_nil, List.length_cons, List.length_nil, List.replicate_succ, List.replicate_zero, Option.toList_some, Option.toList_none, true_and, and_true, Option.some.injEq, exists_eq_left', am_wI_mk, am_wA_mk, am_wR_mk, Nat.reduceAdd, Nat.reduceSub, Nat.reduceLeDiff, Nat.zero_add, Nat.le_refl, not_true_eq_false, not_false_eq_true, forall_const, false_implies, true_implies, implies_true, and_self, Prod.mk.injEq, eq_self, true_or, or_true, false_and, and_false, or_false, false_or, Nat.reduceEqDiff, ↓a_L_acts_173, ↓a_L_acts_177, ↓a_L_acts_178, g0, g1, g2, g3, arr1 g0, arr1 g1, arr1 g2, arr1 g3, s4]
      refine c_takes hC hCI hW (fun I1 R1 q1 hS1 hI1 hf1 hr1 => ?_)
      rw [ot_bad] at hI1 ⊢
      have hI1 : ClI I1 q1 s := hI1
      have hV1 := hV.same hS1 hI1 hf1
      simp only [↓ap_cc, ↓ap_const, ↓ap_iload, ↓ap_aload, ↓ap_istore, ↓ap_astore, ↓ap_iinc, ↓ap_bin, ↓ap_idiv, ↓ap_irem, ↓ap_callSA, ↓ap_iretA, ↓ap_zretA, ↓ap_i2c, ↓ap_dup, ↓ap_dup2, ↓ap_nn, ↓ap_ic, ↓ap_if, ↓ap_sw, ↓ap_head, ↓ap_getI, ↓ap_getR, ↓ap_putI, ↓ap_putN, ↓ap_putR, ↓ap_iald, ↓ap_cald, ↓ap_iast, ↓ap_cast, ↓ap_aald, ↓ap_aast, ↓ap_alen, ↓ap_stat, ↓ap_pop, ↓ap_mm, ↓ap_copy, ↓ap_ret, ↓ap_iret, ↓ap_zret, ↓ap_aret, ↓ap_retA, ↓ap_new, ↓ap_newa, ↓ap_callV, ↓ap_callS, ↓ap_callI, am_in, List.map_cons, List.map_nil, List.getElem?_cons_zero, List.getElem?_cons_succ, List.set_cons_zero, List.set_cons_succ, List.take_succ_cons, List.take_zero, List.drop_succ_cons, List.drop_zero, List.reverse_cons, List.reverse_nil, List.nil_append, List.cons_append, List.append_nil, List.length_cons, List.length_nil, List.replicate_succ, List.replicate_zero, Option.toList_some, Option.toList_none, true_and, and_true, Option.some.injEq, exists_eq_left', am_wI_mk, am_wA_mk, am_wR_mk, Nat.reduceAdd, Nat.reduceSub, Nat.reduceLeDiff, Nat.zero_add, Nat.le_refl, not_true_eq_false, not_false_eq_true, forall_const, false_implies, true_implies, implies_true, and_self, Prod.mk.injEq, eq_self, true_or, or_true, false_and, and_false, or_false, false_or, Nat.reduceEqDiff, ↓a_L_acts_173, ↓a_L_acts_177, ↓a_L_acts_178, g0, g1, g2, g3, arr1 g0, arr1 g1, arr1 g2, arr1 g3, s4]
      try simp (disch := omega) only [nm1, nm1', nsub1, np1, npd, nadd, n0m1, m1lt, nlt0, nge0, ngt0, nle0, nlt, nle, neq, neq0, m1n, m4n, vpn, vcl, ne_eq, bI_0, bI_1, bI_01, lit01, lit00, oI_s, oI_n, true_and, and_true, not_true_eq_false, not_false_eq_true, true_implies, false_implies, and_self, implies_true, forall_const, Bool.not_eq_false, Bool.not_eq_true, iu_s, iu_k1, iu_j1, ia_s1, ia_k1, lt2, lt3, lt5, lt6, lt7, lt8, lt9, lt10, lt11, lt12, lt13, lt15, lt16, lt17, lt20, lt26, lt30, lt32, lt36, lt50, lt60, lt64, lt100, lt300, lt400, lt500, lt1000, lt65536, lt100001, lt10000000, lt48, lt57, lt71, lt80, lt97, lt98, lt108, lt110, lt126, lt191, lt200, lt227, lt681, lt832, lt7919, lt1000000, lt18, lt45, lt65535, lt100000, decide_eq_true_eq, decide_eq_false_iff_not, Nat.le_refl, true_or, or_true, eq_self]
      refine ⟨fun h0 => hK _ _ _ _ hV1 (fun k hk => hf1 k (by omega)) hr1, fun h0 => ?_⟩
      rw [npd (by omega)]
      refine c_takes hS1 hI1 hW (fun I2 R2 q2 hS2 hI2 hf2 hr2 => ?_)
      rw [ot_no (by omega) (by omega) (by omega) (Or.inl (by omega))] at hI2 ⊢
      simp only [↓ap_cc, ↓ap_const, ↓ap_iload, ↓ap_aload, ↓ap_istore, ↓ap_astore, ↓ap_iinc, ↓ap_bin, ↓ap_idiv, ↓ap_irem, ↓ap_callSA, ↓ap_iretA, ↓ap_zretA, ↓ap_i2c, ↓ap_dup, ↓ap_dup2, ↓ap_nn, ↓ap_ic, ↓ap_if, ↓ap_sw, ↓ap_head, ↓ap_getI, ↓ap_getR, ↓ap_putI, ↓ap_putN, ↓ap_putR, ↓ap_iald, ↓ap_cald, ↓ap_iast, ↓ap_cast, ↓ap_aald, ↓ap_aast, ↓ap_alen, ↓ap_stat, ↓ap_pop, ↓ap_mm, ↓ap_copy, ↓ap_ret, ↓ap_iret, ↓ap_zret, ↓ap_aret, ↓ap_retA, ↓ap_new, ↓ap_newa, ↓ap_callV, ↓ap_callS, ↓ap_callI, am_in, List.map_cons, List.map_nil, List.getElem?_cons_zero, List.getElem?_cons_succ, List.set_cons_zero, List.set_cons_succ, List.take_succ_cons, List.take_zero, List.drop_succ_cons, List.drop_zero, List.reverse_cons, List.reverse_nil, List.nil_append, List.cons_append, List.append_nil, List.length_cons, List.length_nil, List.replicate_succ, List.replicate_zero, Option.toList_some, Option.toList_none, true_and, and_true, Option.some.injEq, exists_eq_left', am_wI_mk, am_wA_mk, am_wR_mk, Nat.reduceAdd, Nat.reduceSub, Nat.reduceLeDiff, Nat.zero_add, Nat.le_refl, not_true_eq_false, not_false_eq_true, forall_const, false_implies, true_implies, implies_true, and_self, Prod.mk.injEq, eq_self, true_or, or_true, false_and, and_false, or_false, false_or, Nat.reduceEqDiff, ↓a_L_acts_173, ↓a_L_acts_177, ↓a_L_acts_178, g0, g1, g2, g3, arr1 g0, arr1 g1, arr1 g2, arr1 g3, s4]
      exact ⟨fun z => absurd rfl z, fun _ => hK _ _ _ _ (hV1.same hS2 hI2 hf2) (fun k hk => by rw [hf2 k (by omega), hf1 k (by omega)]) (fun k hk => by rw [hr2 k hk, hr1 k hk])⟩
    simp only [↓a_L_acts_121]
    simp only [↓ap_cc, ↓ap_const, ↓ap_iload, ↓ap_aload, ↓ap_istore, ↓ap_astore, ↓ap_iinc, ↓ap_bin, ↓ap_idiv, ↓ap_irem, ↓ap_callSA, ↓ap_iretA, ↓ap_zretA, ↓ap_i2c, ↓ap_dup, ↓ap_dup2, ↓ap_nn, ↓ap_ic, ↓ap_if, ↓ap_sw, ↓ap_head, ↓ap_getI, ↓ap_getR, ↓ap_putI, ↓ap_putN, ↓ap_putR, ↓ap_iald, ↓ap_cald, ↓ap_iast, ↓ap_cast, ↓ap_aald, ↓ap_aast, ↓ap_alen, ↓ap_stat, ↓ap_pop, ↓ap_mm, ↓ap_copy, ↓ap_ret, ↓ap_iret, ↓ap_zret, ↓ap_aret, ↓ap_retA, ↓ap_new, ↓ap_newa, ↓ap_callV, ↓ap_callS, ↓ap_callI, am_in, List.map_cons, List.map_nil, List.getElem?_cons_zero, List.getElem?_cons_succ, List.set_cons_zero, List.set_cons_succ, List.take_succ_cons, List.take_zero, List.drop_succ_cons, List.drop_zero, List.reverse_cons, List.reverse_nil, List.nil_append, List.cons_append, List.append_nil, List.length_cons, List.length_nil, List.replicate_succ, List.replicate_zero, Option.toList_some, Option.toList_none, true_and, and_true, Option.some.injEq, exists_eq_left', am_wI_mk, am_wA_mk, am_wR_mk, Nat.reduceAdd, Nat.reduceSub, Nat.reduceLeDiff, Nat.zero_add, Nat.le_refl, not_true_eq_false, not_false_eq_true, forall_const, false_implies, true_implies, implies_true, and_self, Prod.mk.injEq, eq_self, true_or, or_true, false_and, and_false, or_false, false_or, Nat.reduceEqDiff, g0, g1, g2, g3, arr1 g0, arr1 g1, arr1 g2, arr1 g3, s4]
    try simp (disch := omega) only [nm1, nm1', nsub1, np1, npd, nadd, n0m1, m1lt, nlt0, nge0, ngt0, nle0, nlt, nle, neq, neq0, m1n, m4n, vpn, vcl, ne_eq, bI_0, bI_1, bI_01, lit01, lit00, oI_s, oI_n, true_and, and_true, not_true_eq_false, not_false_eq_true, true_implies, false_implies, and_self, implies_true, forall_const, Bool.not_eq_false, Bool.not_eq_true, iu_s, iu_k1, iu_j1, ia_s1, ia_k1, lt2, lt3, lt5, lt6, lt7, lt8, lt9, lt10, lt11, lt12, lt13, lt15, lt16, lt17, lt20, lt26, lt30, lt32, lt36, lt50, lt60, lt64, lt100, lt300, lt400, lt500, lt1000, lt65536, lt100001, lt10000000, lt48, lt57, lt71, lt80, lt97, lt98, lt108, lt110, lt126, lt191, lt200, lt227, lt681, lt832, lt7919, lt1000000, lt18, lt45, lt65535, lt100000, decide_eq_true_eq, decide_eq_false_iff_not, Nat.le_refl, true_or, or_true, eq_self, hI.t]
    refine ⟨c137, fun h => ⟨fun _ => ?_, fun h2 => by omega⟩⟩
    simp only [↓a_L_acts_179]
    simp only [↓ap_cc, ↓ap_const, ↓ap_iload, ↓ap_aload, ↓ap_istore, ↓ap_astore, ↓ap_iinc, ↓ap_bin, ↓ap_idiv, ↓ap_irem, ↓ap_callSA, ↓ap_iretA, ↓ap_zretA, ↓ap_i2c, ↓ap_dup, ↓ap_dup2, ↓ap_nn, ↓ap_ic, ↓ap_if, ↓ap_sw, ↓ap_head, ↓ap_getI, ↓ap_getR, ↓ap_putI, ↓ap_putN, ↓ap_putR, ↓ap_iald, ↓ap_cald, ↓ap_iast, ↓ap_cast, ↓ap_aald, ↓ap_aast, ↓ap_alen, ↓ap_stat, ↓ap_pop, ↓ap_mm, ↓ap_copy, ↓ap_ret, ↓ap_iret, ↓ap_zret, ↓ap_aret, ↓ap_retA, ↓ap_new, ↓ap_newa, ↓ap_callV, ↓ap_callS, ↓ap_callI, am_in, List.map_cons, List.map_nil, List.getElem?_cons_zero, List.getElem?_cons_succ, List.set_cons_zero, List.set_cons_succ, List.take_succ_cons, List.take_zero, List.drop_succ_cons, List.drop_zero, List.reverse_cons, List.reverse_nil, List.nil_append, List.cons_append, List.append_nil, List.length_cons, List.length_nil, List.replicate_succ, List.replicate_zero, Option.toList_some, Option.toList_none, true_and, and_true, Option.some.injEq, exists_eq_left', am_wI_mk, am_wA_mk, am_wR_mk, Nat.reduceAdd, Nat.reduceSub, Nat.reduceLeDiff, Nat.zero_add, Nat.le_refl, not_true_eq_false, not_false_eq_true, forall_const, false_implies, true_implies, implies_true, and_self, Prod.mk.injEq, eq_self, true_or, or_true, false_and, and_false, or_false, false_or, Nat.reduceEqDiff, ↓a_L_acts_242, ↓a_L_acts_243, g0, g1, g2, g3, arr1 g0, arr1 g1, arr1 g2, arr1 g3, s4]
    try simp (disch := omega) only [nm1, nm1', nsub1, np1, npd, nadd, n0m1, m1lt, nlt0, nge0, ngt0, nle0, nlt, nle, neq, neq0, m1n, m4n, vpn, vcl, ne_eq, bI_0, bI_1, bI_01, lit01, lit00, oI_s, oI_n, true_and, and_true, not_true_eq_false, not_false_eq_true, true_implies, false_implies, and_self, implies_true, forall_const, Bool.not_eq_false, Bool.not_eq_true, iu_s, iu_k1, iu_j1, ia_s1, ia_k1, lt2, lt3, lt5, lt6, lt7, lt8, lt9, lt10, lt11, lt12, lt13, lt15, lt16, lt17, lt20, lt26, lt30, lt32, lt36, lt50, lt60, lt64, lt100, lt300, lt400, lt500, lt1000, lt65536, lt100001, lt10000000, lt48, lt57, lt71, lt80, lt97, lt98, lt108, lt110, lt126, lt191, lt200, lt227, lt681, lt832, lt7919, lt1000000, lt18, lt45, lt65535, lt100000, decide_eq_true_eq, decide_eq_false_iff_not, Nat.le_refl, true_or, or_true, eq_self, hI.t, nmul]
    have hT := ot_yes (s := s) (p := p) (nm := nm) (τ := τ) (by omega) (by omega) (by omega) hfree (by omega)
    obtain ⟨I1, hI1⟩ : ∃ I1, am_u (am_u (am_u (am_u I 115 (3 * gt s.a) (nI p)) 115 (3 * gt s.a + 1) (nI nm)) 115 (3 * gt s.a + 2) (nI τ)) 114 8 (nI (gt s.a + 1)) = I1 := ⟨_, rfl⟩
    rw [hI1]
    have f1 : Fr 114 117 I I1 := by rw [← hI1]; exact (((Fr.rfl.u (by decide) (by decide)).u (by decide) (by decide)).u (by decide) (by decide)).u (by decide) (by decide)
    have L1 : LwI I1 (aT s.a p nm τ) := by
      refine ⟨⟨?_, ?_, ?_, fun j hj => ?_⟩, fun j w hj hw => ?_, fun j w hj hw => ?_, fun j w hj hw => ?_, fun j hj => ?_⟩
      · rw [← hI1, iu_s]; rfl
      · rw [← hI1, iu_j1 (by decide), iu_k1 (by decide), iu_k1 (by decide), iu_k1 (by decide)]; exact hI.n
      · rw [← hI1, iu_j1 (by decide), iu_k1 (by decide), iu_k1 (by decide), iu_k1 (by decide)]; exact hI.k
      · rw [← hI1, iu_j1 (by omega), iu_k1 (by decide), iu_k1 (by decide), iu_k1 (by decide)]; exact hI.s hj
      · rw [aT_t] at hj
        rw [← hI1, iu_k1 (by decide)]
        simp only [aT_T]
        by_cases hjt : j = gt s.a
        · subst hjt
          rw [if_pos rfl]
          rcases (by omega : w = 0 ∨ w = 1 ∨ w = 2) with rfl | rfl | rfl
          · simp (disch := omega) only [iu_j1, iu_s, Nat.add_zero, if_true]
          · simp (disch := omega) only [iu_j1, iu_s, if_true, if_false, Nat.reduceEqDiff, reduceCtorEq, Nat.one_ne_zero]
          · simp (disch := omega) only [iu_j1, iu_s, if_true, if_false, Nat.reduceEqDiff, reduceCtorEq]
        · rw [if_neg hjt, iu_j1 (by omega), iu_j1 (by omega), iu_j1 (by omega)]
          exact hI.T (by omega) hw
      · have hj : j < gn s.a := hj
        rw [← hI1]; simp (disch := omega) only [iu_k1]; exact hI.L hj hw
      · have hj : j < gk s.a := hj
        rw [← hI1]; simp (disch := omega) only [iu_k1]; exact hI.F hj hw
      · have hj : j < gk s.a := hj
        rw [← hI1]; simp (disch := omega) only [iu_k1]; exact hI.F2 hj
    refine c_takes hC (hCI.law hC f1) hW (fun I2 R2 q2 hS2 hI2 hf2 hr2 => ?_)
    have hW2 := k_takes (x := nI p) (y := nI nm) (z := nI τ) hW hCI.2.1.1
    rw [hT] at hI2 hW2 ⊢
    have L2 := hf2.lw L1
    have e8 : I2 114 8 = nI (gt s.a + 1) := by rw [L2.t]; rfl
    simp only [↓ap_cc, ↓ap_const, ↓ap_iload, ↓ap_aload, ↓ap_istore, ↓ap_astore, ↓ap_iinc, ↓ap_bin, ↓ap_idiv, ↓ap_irem, ↓ap_callSA, ↓ap_iretA, ↓ap_zretA, ↓ap_i2c, ↓ap_dup, ↓ap_dup2, ↓ap_nn, ↓ap_ic, ↓ap_if, ↓ap_sw, ↓ap_head, ↓ap_getI, ↓ap_getR, ↓ap_putI, ↓ap_putN, ↓ap_putR, ↓ap_iald, ↓ap_cald, ↓ap_iast, ↓ap_cast, ↓ap_aald, ↓ap_aast, ↓ap_alen, ↓ap_stat, ↓ap_pop, ↓ap_mm, ↓ap_copy, ↓ap_ret, ↓ap_iret, ↓ap_zret, ↓ap_aret, ↓ap_retA, ↓ap_new, ↓ap_newa, ↓ap_callV, ↓ap_callS, ↓ap_callI, am_in, List.map_cons, List.map_nil, List.getElem?_cons_zero, List.getElem?_cons_succ, List.set_cons_zero, List.set_cons_succ, List.take_succ_cons, List.take_zero, List.drop_succ_cons, List.drop_zero, List.reverse_cons, List.reverse_nil, List.nil_append, List.cons_append, List.append_nil, List.length_cons, List.length_nil, List.replicate_succ, List.replicate_zero, Option.toList_some, Option.toList_none, true_and, and_true, Option.some.injEq, exists_eq_left', am_wI_mk, am_wA_mk, am_wR_mk, Nat.reduceAdd, Nat.reduceSub, Nat.reduceLeDiff, Nat.zero_add, Nat.le_refl, not_true_eq_false, not_false_eq_true, forall_const, false_implies, true_implies, implies_true, and_self, Prod.mk.injEq, eq_self, true_or, or_true, false_and, and_false, or_false, false_or, Nat.reduceEqDiff, ↓a_L_acts_242, ↓a_L_acts_243, g0, g1, g2, g3, arr1 g0, arr1 g1, arr1 g2, arr1 g3, s4]
    try simp (disch := omega) only [nm1, nm1', nsub1, np1, npd, nadd, n0m1, m1lt, nlt0, nge0, ngt0, nle0, nlt, nle, neq, neq0, m1n, m4n, vpn, vcl, ne_eq, bI_0, bI_1, bI_01, lit01, lit00, oI_s, oI_n, true_and, and_true, not_true_eq_false, not_false_eq_true, true_implies, false_implies, and_self, implies_true, forall_const, Bool.not_eq_false, Bool.not_eq_true, iu_s, iu_k1, iu_j1, ia_s1, ia_k1, lt2, lt3, lt5, lt6, lt7, lt8, lt9, lt10, lt11, lt12, lt13, lt15, lt16, lt17, lt20, lt26, lt30, lt32, lt36, lt50, lt60, lt64, lt100, lt300, lt400, lt500, lt1000, lt65536, lt100001, lt10000000, lt48, lt57, lt71, lt80, lt97, lt98, lt108, lt110, lt126, lt191, lt200, lt227, lt681, lt832, lt7919, lt1000000, lt18, lt45, lt65535, lt100000, decide_eq_true_eq, decide_eq_false_iff_not, Nat.le_refl, true_or, or_true, eq_self, e8]
    refine hK _ _ _ (psh s (aT s.a p nm τ)) ⟨hSL, L2, hS2, hI2, hW2, ⟨?_, bn, bk, fun j hj => ?_⟩, hn0⟩ (fun k hk => by rw [hf2 k (by omega), f1 k (by omega)]) hr2
    · show gt s.a + 1 ≤ 8
      omega
    · have hj : j < gt s.a + 1 := hj
      show gT (aT s.a p nm τ) 2 j ≤ 60 * (j + 1)
      simp only [aT_T]
      by_cases hjt : j = gt s.a
      · rw [if_pos hjt]
        simp only [if_false, Nat.reduceEqDiff, reduceCtorEq]
        omega
      · rw [if_neg hjt]; exact h8.2.2.2 j (by omega)
  cases hg : gH s.a nm τ with
  | none =>
    rw [oI_n]
    refine ⟨fun _ => c121 ?_ _, fun h => absurd (by decide) h⟩
    rw [hg]
    intro z
    rcases z with z | z
    · omega
    · exact z.1 rfl
  | some y =>
    have hy : y < 12 := by
      unfold gH at hg
      have := (ff_some hg).2.1
      omega
    rw [oI_s]
    try simp (disch := omega) only [nm1, nm1', nsub1, np1, npd, nadd, n0m1, m1lt, nlt0, nge0, ngt0, nle0, nlt, nle, neq, neq0, m1n, m4n, vpn, vcl, ne_eq, bI_0, bI_1, bI_01, lit01, lit00, oI_s, oI_n, true_and, and_true, not_true_eq_false, not_false_eq_true, true_implies, false_implies, and_self, implies_true, forall_const, Bool.not_eq_false, Bool.not_eq_true, iu_s, iu_k1, iu_j1, ia_s1, ia_k1, lt2, lt3, lt5, lt6, lt7, lt8, lt9, lt10, lt11, lt12, lt13, lt15, lt16, lt17, lt20, lt26, lt30, lt32, lt36, lt50, lt60, lt64, lt100, lt300, lt400, lt500, lt1000, lt65536, lt100001, lt10000000, lt48, lt57, lt71, lt80, lt97, lt98, lt108, lt110, lt126, lt191, lt200, lt227, lt681, lt832, lt7919, lt1000000, lt18, lt45, lt65535, lt100000, decide_eq_true_eq, decide_eq_false_iff_not, Nat.le_refl, true_or, or_true, eq_self]
    refine ⟨fun h => c121 ?_ _, fun h => ?_⟩
    · rw [hg, h]
      intro z
      rcases z with z | z
      · omega
      · exact z.2 rfl
    · refine c_takes hC hCI hW (fun I1 R1 q1 hS1 hI1 hf1 hr1 => ?_)
      rw [ot_no (by omega) (by omega) (by omega) (Or.inr ⟨by rw [hg]; exact Option.some_ne_none _, by rw [hg]; intro z; cases z; exact h rfl⟩)] at hI1 ⊢
      simp only [↓ap_cc, ↓ap_const, ↓ap_iload, ↓ap_aload, ↓ap_istore, ↓ap_astore, ↓ap_iinc, ↓ap_bin, ↓ap_idiv, ↓ap_irem, ↓ap_callSA, ↓ap_iretA, ↓ap_zretA, ↓ap_i2c, ↓ap_dup, ↓ap_dup2, ↓ap_nn, ↓ap_ic, ↓ap_if, ↓ap_sw, ↓ap_head, ↓ap_getI, ↓ap_getR, ↓ap_putI, ↓ap_putN, ↓ap_putR, ↓ap_iald, ↓ap_cald, ↓ap_iast, ↓ap_cast, ↓ap_aald, ↓ap_aast, ↓ap_alen, ↓ap_stat, ↓ap_pop, ↓ap_mm, ↓ap_copy, ↓ap_ret, ↓ap_iret, ↓ap_zret, ↓ap_aret, ↓ap_retA, ↓ap_new, ↓ap_newa, ↓ap_callV, ↓ap_callS, ↓ap_callI, am_in, List.map_cons, List.map_nil, List.getElem?_cons_zero, List.getElem?_cons_succ, List.set_cons_zero, List.set_cons_succ, List.take_succ_cons, List.take_zero, List.drop_succ_cons, List.drop_zero, List.reverse_cons, List.reverse_nil, List.nil_append, List.cons_append, List.append_nil, List.length_cons, List.length_nil, List.replicate_succ, List.replicate_zero, Option.toList_some, Option.toList_none, true_and, and_true, Option.some.injEq, exists_eq_left', am_wI_mk, am_wA_mk, am_wR_mk, Nat.reduceAdd, Nat.reduceSub, Nat.reduceLeDiff, Nat.zero_add, Nat.le_refl, not_true_eq_false, not_false_eq_true, forall_const, false_implies, true_implies, implies_true, and_self, Prod.mk.injEq, eq_self, true_or, or_true, false_and, and_false, or_false, false_or, Nat.reduceEqDiff, ↓a_L_acts_119, ↓a_L_acts_120, g0, g1, g2, g3, arr1 g0, arr1 g1, arr1 g2, arr1 g3, s4]
      exact ⟨fun z => absurd rfl z, fun _ => hK _ _ _ _ (hV.same hS1 hI1 hf1) (fun k hk => hf1 k (by omega)) hr1⟩
