-- needs: 10 11 12 13 14 20 21 22 23 50 51
variable {S : List (Nat × Nat)} {R : Nat → Nat → Option Nat} {I : Nat → Nat → Int32} {M r : Nat} {a : Lg} {post : am_R}
/-- whether line l might answer line e, if the threshold let it; the correction o is left aside -/
def gMayo (a : Lg) (o : Option Nat) (l e : Nat) : Bool := decide (e < gn a) && decide (gE a e l) && decide (gL a 0 l - gL a 0 e ≤ gs a 0) && decide (gX a 2 l e = none ∨ gX a 2 l e = o)
theorem gMayo_none (a : Lg) : gMayo a none = gMay a := by
  funext l e; unfold gMayo gMay; simp
theorem m_might {l e : Nat} {o : Option Nat} (hS : MoS S R M) (hr : M + 1 ≤ r ∧ r ≤ M + 2) (hI : RowI (I r) a) (hB : LgB a) (hW : WfF a) (hO : MOrd I M a) (hSc : MSco I M a) (hl : l < gn a) (he : e < gn a) (ho : ∀ x, o = some x → x < 2147483648) (hp : post (some (.inl (bI (gMayo a o l e && decide ((gs a 1 : Int) ≤ gSc a l e))))) (S, I, R)) : sp_X5_might [.inr M, .inr r, .inl (nI l), .inl (nI e), .inl (oI (-4) o)] (S, I, R) post := by
  obtain ⟨⟨m0, m1, m2, m3, m4, m5, m6, m7, m8, m9, m10, m11, m12, m13, m14⟩, n0, n1, n2, n4, n6, n7, n8, n9, n10, n11, n12, n13, n15, n18⟩ := id hS
  have hSr : S[r]? = some (1, 227) := by rcases (by omega : r = M + 1 ∨ r = M + 2) with h | h <;> (rw [h]; assumption)
  have bn := hB.n
  have bk := hB.k
  have bs := hB.s
  have bl := hB.Ln hl
  have be := hB.Ln he
  have hrl := gR_lt hl
  have hre := gR_lt he
  unfold gMayo at hp
  rw [decide_eq_true he, Bool.true_and] at hp
  refine ⟨Nat.le_of_ble_eq_true rfl, am_fold ?_⟩; rw [h_X5_might_0]
  simp only [↓ap_cc, ↓ap_const, ↓ap_iload, ↓ap_aload, ↓ap_istore, ↓ap_astore, ↓ap_iinc, ↓ap_bin, ↓ap_idiv, ↓ap_i2c, ↓ap_dup, ↓ap_dup2, ↓ap_nn, ↓ap_ic, ↓ap_if, ↓ap_sw, ↓ap_head, ↓ap_getI, ↓ap_getR, ↓ap_putI, ↓ap_putN, ↓ap_putR, ↓ap_iald, ↓ap_cald, ↓ap_iast, ↓ap_cast, ↓ap_aald, ↓ap_aast, ↓ap_alen, ↓ap_stat, ↓ap_pop, ↓ap_mm, ↓ap_copy, ↓ap_ret, ↓ap_iret, ↓ap_zret, ↓ap_aret, ↓ap_retA, ↓ap_new, ↓ap_newa, ↓ap_callV, ↓ap_callS, ↓ap_callI, am_in, List.map_cons, List.map_nil, List.getElem?_cons_zero, List.getElem?_cons_succ, List.set_cons_zero, List.set_cons_succ, List.take_succ_cons, List.take_zero, List.drop_succ_cons, List.drop_zero, List.reverse_cons, List.reverse_nil, List.nil_append, List.cons_append, List.append_nil, List.length_cons, List.length_nil, List.replicate_succ, List.replicate_zero, Option.toList_some, Option.toList_none, true_and, and_true, Option.some.injEq, exists_eq_left', am_wI_mk, am_wA_mk, am_wR_mk, Nat.reduceAdd, Nat.reduceSub, Nat.reduceLeDiff, Nat.zero_add, Nat.le_refl, not_true_eq_false, not_false_eq_true, forall_const, false_implies, true_implies, implies_true, and_self, Prod.mk.injEq, eq_self, true_or, or_true, false_and, and_false, or_false, false_or, Nat.reduceEqDiff, ↓a_X5_might_81, ↓a_X5_might_80, ↓a_X5_might_59, ↓a_X5_might_36, ↓a_X5_might_34, ↓a_X5_might_0, hSr, arr1 hSr, m0, m1, m2, m3, m4, m5, m6, m7, m8, m9, m10, m11, m12, m13, m14, n0, n1, n2, n4, n6, n7, n8, n9, n10, n11, n12, n13, n15, n18, arr1 m1, arr1 m2, arr1 m3, arr1 m4, arr1 m5, arr1 m6, arr1 m7, arr1 m8, arr1 m9, arr1 m10, arr1 m11, arr1 m12, arr1 m13, arr1 m14]
  try simp (disch := omega) only [nm1, nm1', nsub1, np1, npd, nadd, n0m1, m1lt, nlt0, nge0, ngt0, nle0, nlt, nle, neq, neq0, m1n, m4n, vpn, vcl, ne_eq, bI_0, bI_1, bI_01, lit01, lit00, oI_s, oI_n, true_and, and_true, not_true_eq_false, not_false_eq_true, true_implies, false_implies, and_self, implies_true, forall_const, Bool.not_eq_false, Bool.not_eq_true, iu_s, iu_k1, iu_j1, ia_s1, ia_k1, lt2, lt3, lt5, lt6, lt7, lt8, lt9, lt10, lt11, lt12, lt15, lt16, lt17, lt20, lt30, lt32, lt48, lt57, lt71, lt80, lt97, lt98, lt108, lt110, lt126, lt191, lt200, lt227, lt681, lt65535, lt100000, decide_eq_true_eq, decide_eq_false_iff_not, Nat.le_refl, true_or, or_true, eq_self, hO.2.1]
  refine ⟨fun h => ?_, fun h => ?_⟩
  · rw [decide_eq_false (p := gE a e l) (fun q => by have := (gR_E he hl).mpr q; omega)] at hp
    simp at hp; exact hp
  have hE : gE a e l := (gR_E he hl).mp (by omega)
  rw [decide_eq_true (p := gE a e l) hE, Bool.true_and] at hp
  have hle : gL a 0 e ≤ gL a 0 l := by unfold gE at hE; omega
  refine m_of0 hSr hI hB hl ?_
  simp only [↓ap_cc, ↓ap_const, ↓ap_iload, ↓ap_aload, ↓ap_istore, ↓ap_astore, ↓ap_iinc, ↓ap_bin, ↓ap_idiv, ↓ap_i2c, ↓ap_dup, ↓ap_dup2, ↓ap_nn, ↓ap_ic, ↓ap_if, ↓ap_sw, ↓ap_head, ↓ap_getI, ↓ap_getR, ↓ap_putI, ↓ap_putN, ↓ap_putR, ↓ap_iald, ↓ap_cald, ↓ap_iast, ↓ap_cast, ↓ap_aald, ↓ap_aast, ↓ap_alen, ↓ap_stat, ↓ap_pop, ↓ap_mm, ↓ap_copy, ↓ap_ret, ↓ap_iret, ↓ap_zret, ↓ap_aret, ↓ap_retA, ↓ap_new, ↓ap_newa, ↓ap_callV, ↓ap_callS, ↓ap_callI, am_in, List.map_cons, List.map_nil, List.getElem?_cons_zero, List.getElem?_cons_succ, List.set_cons_zero, List.set_cons_succ, List.take_succ_cons, List.take_zero, List.drop_succ_cons, List.drop_zero, List.reverse_cons, List.reverse_nil, List.nil_append, List.cons_append, List.append_nil, List.length_cons, List.length_nil, List.replicate_succ, List.replicate_zero, Option.toList_some, Option.toList_none, true_and, and_true, Option.some.injEq, exists_eq_left', am_wI_mk, am_wA_mk, am_wR_mk, Nat.reduceAdd, Nat.reduceSub, Nat.reduceLeDiff, Nat.zero_add, Nat.le_refl, not_true_eq_false, not_false_eq_true, forall_const, false_implies, true_implies, implies_true, and_self, Prod.mk.injEq, eq_self, true_or, or_true, false_and, and_false, or_false, false_or, Nat.reduceEqDiff, ↓a_X5_might_81, ↓a_X5_might_80, ↓a_X5_might_59, ↓a_X5_might_36, ↓a_X5_might_34, ↓a_X5_might_0, hSr, arr1 hSr, m0, m1, m2, m3, m4, m5, m6, m7, m8, m9, m10, m11, m12, m13, m14, n0, n1, n2, n4, n6, n7, n8, n9, n10, n11, n12, n13, n15, n18, arr1 m1, arr1 m2, arr1 m3, arr1 m4, arr1 m5, arr1 m6, arr1 m7, arr1 m8, arr1 m9, arr1 m10, arr1 m11, arr1 m12, arr1 m13, arr1 m14]
  refine m_of0 hSr hI hB he ?_
  simp only [↓ap_cc, ↓ap_const, ↓ap_iload, ↓ap_aload, ↓ap_istore, ↓ap_astore, ↓ap_iinc, ↓ap_bin, ↓ap_idiv, ↓ap_i2c, ↓ap_dup, ↓ap_dup2, ↓ap_nn, ↓ap_ic, ↓ap_if, ↓ap_sw, ↓ap_head, ↓ap_getI, ↓ap_getR, ↓ap_putI, ↓ap_putN, ↓ap_putR, ↓ap_iald, ↓ap_cald, ↓ap_iast, ↓ap_cast, ↓ap_aald, ↓ap_aast, ↓ap_alen, ↓ap_stat, ↓ap_pop, ↓ap_mm, ↓ap_copy, ↓ap_ret, ↓ap_iret, ↓ap_zret, ↓ap_aret, ↓ap_retA, ↓ap_new, ↓ap_newa, ↓ap_callV, ↓ap_callS, ↓ap_callI, am_in, List.map_cons, List.map_nil, List.getElem?_cons_zero, List.getElem?_cons_succ, List.set_cons_zero, List.set_cons_succ, List.take_succ_cons, List.take_zero, List.drop_succ_cons, List.drop_zero, List.reverse_cons, List.reverse_nil, List.nil_append, List.cons_append, List.append_nil, List.length_cons, List.length_nil, List.replicate_succ, List.replicate_zero, Option.toList_some, Option.toList_none, true_and, and_true, Option.some.injEq, exists_eq_left', am_wI_mk, am_wA_mk, am_wR_mk, Nat.reduceAdd, Nat.reduceSub, Nat.reduceLeDiff, Nat.zero_add, Nat.le_refl, not_true_eq_false, not_false_eq_true, forall_const, false_implies, true_implies, implies_true, and_self, Prod.mk.injEq, eq_self, true_or, or_true, false_and, and_false, or_false, false_or, Nat.reduceEqDiff, ↓a_X5_might_81, ↓a_X5_might_80, ↓a_X5_might_59, ↓a_X5_might_36, ↓a_X5_might_34, ↓a_X5_might_0, hSr, arr1 hSr, m0, m1, m2, m3, m4, m5, m6, m7, m8, m9, m10, m11, m12, m13, m14, n0, n1, n2, n4, n6, n7, n8, n9, n10, n11, n12, n13, n15, n18, arr1 m1, arr1 m2, arr1 m3, arr1 m4, arr1 m5, arr1 m6, arr1 m7, arr1 m8, arr1 m9, arr1 m10, arr1 m11, arr1 m12, arr1 m13, arr1 m14]
  try simp (disch := omega) only [nm1, nm1', nsub1, np1, npd, nadd, n0m1, m1lt, nlt0, nge0, ngt0, nle0, nlt, nle, neq, neq0, m1n, m4n, vpn, vcl, ne_eq, bI_0, bI_1, bI_01, lit01, lit00, oI_s, oI_n, true_and, and_true, not_true_eq_false, not_false_eq_true, true_implies, false_implies, and_self, implies_true, forall_const, Bool.not_eq_false, Bool.not_eq_true, iu_s, iu_k1, iu_j1, ia_s1, ia_k1, lt2, lt3, lt5, lt6, lt7, lt8, lt9, lt10, lt11, lt12, lt15, lt16, lt17, lt20, lt30, lt32, lt48, lt57, lt71, lt80, lt97, lt98, lt108, lt110, lt126, lt191, lt200, lt227, lt681, lt65535, lt100000, decide_eq_true_eq, decide_eq_false_iff_not, Nat.le_refl, true_or, or_true, eq_self, nsub, vpn0, vcl0, hI.s]
  refine ⟨fun h2 => ?_, fun h2 => ?_⟩
  rotate_left
  · rw [decide_eq_false (p := gL a 0 l - gL a 0 e ≤ gs a 0) h2] at hp
    simp at hp; exact hp
  rw [decide_eq_true (p := gL a 0 l - gL a 0 e ≤ gs a 0) h2, Bool.true_and] at hp
  have c59 : ∀ x : Option am_V, decide (gX a 2 l e = none ∨ gX a 2 l e = o) = true → t_X5_might_59 [some (.inr M), some (.inr r), some (.inl (nI l)), some (.inl (nI e)), some (.inl (oI (-4) o)), x] [] (S, I, R) (am_OK h_X5_might post) post := by
    intro x hc
    rw [hc, Bool.true_and] at hp
    have bsc := gSc_b hB e hl
    have e8 : I (M + 8) (30 * l + e) = zI (gSc a l e) := by rw [hSc l e hl he, if_pos hE]
    simp only [↓a_X5_might_59]
    simp only [↓ap_cc, ↓ap_const, ↓ap_iload, ↓ap_aload, ↓ap_istore, ↓ap_astore, ↓ap_iinc, ↓ap_bin, ↓ap_idiv, ↓ap_i2c, ↓ap_dup, ↓ap_dup2, ↓ap_nn, ↓ap_ic, ↓ap_if, ↓ap_sw, ↓ap_head, ↓ap_getI, ↓ap_getR, ↓ap_putI, ↓ap_putN, ↓ap_putR, ↓ap_iald, ↓ap_cald, ↓ap_iast, ↓ap_cast, ↓ap_aald, ↓ap_aast, ↓ap_alen, ↓ap_stat, ↓ap_pop, ↓ap_mm, ↓ap_copy, ↓ap_ret, ↓ap_iret, ↓ap_zret, ↓ap_aret, ↓ap_retA, ↓ap_new, ↓ap_newa, ↓ap_callV, ↓ap_callS, ↓ap_callI, am_in, List.map_cons, List.map_nil, List.getElem?_cons_zero, List.getElem?_cons_succ, List.set_cons_zero, List.set_cons_succ, List.take_succ_cons, List.take_zero, List.drop_succ_cons, List.drop_zero, List.reverse_cons, List.reverse_nil, List.nil_append, List.cons_append, List.append_nil, List.length_cons, List.length_nil, List.replicate_succ, List.replicate_zero, Option.toList_some, Option.toList_none, true_and, and_true, Option.some.injEq, exists_eq_left', am_wI_mk, am_wA_mk, am_wR_mk, Nat.reduceAdd, Nat.reduceSub, Nat.reduceLeDiff, Nat.zero_add, Nat.le_refl, not_true_eq_false, not_false_eq_true, forall_const, false_implies, true_implies, implies_true, and_self, Prod.mk.injEq, eq_self, true_or, or_true, false_and, and_false, or_false, false_or, Nat.reduceEqDiff, ↓a_X5_might_80, ↓a_X5_might_81, hSr, arr1 hSr, m0, m1, m2, m3, m4, m5, m6, m7, m8, m9, m10, m11, m12, m13, m14, n0, n1, n2, n4, n6, n7, n8, n9, n10, n11, n12, n13, n15, n18, arr1 m1, arr1 m2, arr1 m3, arr1 m4, arr1 m5, arr1 m6, arr1 m7, arr1 m8, arr1 m9, arr1 m10, arr1 m11, arr1 m12, arr1 m13, arr1 m14]
    simp (disch := omega) only [lt30, nmul, nadd, vpn, vcl, vpn1, vcl1, hI.s, e8, true_and]
    rw [nz (gs a 1), zlt (by omega) (by omega) (by omega) (by omega)]
    refine ⟨fun q => ?_, fun q => ?_⟩
    · rw [decide_eq_false (by omega)] at hp; exact hp
    · rw [decide_eq_true (by omega)] at hp; exact hp
  refine m_find (e := e) hSr hI hB hW (by omega) (by omega) (fun _ => ⟨by omega, rfl⟩) ?_
  simp only [↓ap_cc, ↓ap_const, ↓ap_iload, ↓ap_aload, ↓ap_istore, ↓ap_astore, ↓ap_iinc, ↓ap_bin, ↓ap_idiv, ↓ap_i2c, ↓ap_dup, ↓ap_dup2, ↓ap_nn, ↓ap_ic, ↓ap_if, ↓ap_sw, ↓ap_head, ↓ap_getI, ↓ap_getR, ↓ap_putI, ↓ap_putN, ↓ap_putR, ↓ap_iald, ↓ap_cald, ↓ap_iast, ↓ap_cast, ↓ap_aald, ↓ap_aast, ↓ap_alen, ↓ap_stat, ↓ap_pop, ↓ap_mm, ↓ap_copy, ↓ap_ret, ↓ap_iret, ↓ap_zret, ↓ap_aret, ↓ap_retA, ↓ap_new, ↓ap_newa, ↓ap_callV, ↓ap_callS, ↓ap_callI, am_in, List.map_cons, List.map_nil, List.getElem?_cons_zero, List.getElem?_cons_succ, List.set_cons_zero, List.set_cons_succ, List.take_succ_cons, List.take_zero, List.drop_succ_cons, List.drop_zero, List.reverse_cons, List.reverse_nil, List.nil_append, List.cons_append, List.append_nil, List.length_cons, List.length_nil, List.replicate_succ, List.replicate_zero, Option.toList_some, Option.toList_none, true_and, and_true, Option.some.injEq, exists_eq_left', am_wI_mk, am_wA_mk, am_wR_mk, Nat.reduceAdd, Nat.reduceSub, Nat.reduceLeDiff, Nat.zero_add, Nat.le_refl, not_true_eq_false, not_false_eq_true, forall_const, false_implies, true_implies, implies_true, and_self, Prod.mk.injEq, eq_self, true_or, or_true, false_and, and_false, or_false, false_or, Nat.reduceEqDiff, ↓a_X5_might_80, ↓a_X5_might_81, hSr, arr1 hSr, m0, m1, m2, m3, m4, m5, m6, m7, m8, m9, m10, m11, m12, m13, m14, n0, n1, n2, n4, n6, n7, n8, n9, n10, n11, n12, n13, n15, n18, arr1 m1, arr1 m2, arr1 m3, arr1 m4, arr1 m5, arr1 m6, arr1 m7, arr1 m8, arr1 m9, arr1 m10, arr1 m11, arr1 m12, arr1 m13, arr1 m14]
  cases hx : gX a 2 l e with
  | none =>
    rw [hx] at c59
    rw [oI_n]
    exact ⟨fun _ => c59 _ (by simp), fun h => absurd rfl h⟩
  | some x =>
    have hxl := (ff_some hx).2.1
    rw [hx] at c59 hp
    rw [oI_s]
    refine ⟨fun h => ((m4n (by omega)).mp h).elim, fun _ => ?_⟩
    cases o with
    | none =>
      rw [oI_n]
      refine ⟨fun _ => ?_, fun h => ((m4n (by omega)).mp (Classical.byContradiction h)).elim⟩
      simp at hp; exact hp
    | some y =>
      have := ho y rfl
      rw [oI_s, neq (by omega) this]
      refine ⟨fun h => ?_, fun h => c59 _ (by simp; omega)⟩
      have h2 : ¬ x = y := h
      simp [h2] at hp; exact hp
theorem m_answerOf {l : Nat} {o : Option Nat} (hS : MoS S R M) (hr : M + 1 ≤ r ∧ r ≤ M + 2) (hI : RowI (I r) a) (hB : LgB a) (hW : WfF a) (hO : MOrd I M a) (hSc : MSco I M a) (hl : l < gn a) (ho : ∀ x, o = some x → x < 2147483648) (hp : post (some (.inl (match gC a l (gk a) with
    | some x => eI (-4) a x
    | none => oI (-4) (gB (fun e => gMayo a o l e && decide ((gs a 1 : Int) ≤ gSc a l e)) (gSc a l) (gO a) (gR a l))))) (S, I, R)) : sp_X5_answerOf [.inr M, .inr r, .inl (nI l), .inl (oI (-4) o)] (S, I, R) post := by
  obtain ⟨⟨m0, m1, m2, m3, m4, m5, m6, m7, m8, m9, m10, m11, m12, m13, m14⟩, n0, n1, n2, n4, n6, n7, n8, n9, n10, n11, n12, n13, n15, n18⟩ := id hS
  have hSr : S[r]? = some (1, 227) := by rcases (by omega : r = M + 1 ∨ r = M + 2) with h | h <;> (rw [h]; assumption)
  have bn := hB.n
  have bk := hB.k
  have hrl := gR_lt hl
  refine ⟨Nat.le_of_ble_eq_true rfl, am_fold ?_⟩; rw [h_X5_answerOf_0]
  simp only [↓ap_cc, ↓ap_const, ↓ap_iload, ↓ap_aload, ↓ap_istore, ↓ap_astore, ↓ap_iinc, ↓ap_bin, ↓ap_idiv, ↓ap_i2c, ↓ap_dup, ↓ap_dup2, ↓ap_nn, ↓ap_ic, ↓ap_if, ↓ap_sw, ↓ap_head, ↓ap_getI, ↓ap_getR, ↓ap_putI, ↓ap_putN, ↓ap_putR, ↓ap_iald, ↓ap_cald, ↓ap_iast, ↓ap_cast, ↓ap_aald, ↓ap_aast, ↓ap_alen, ↓ap_stat, ↓ap_pop, ↓ap_mm, ↓ap_copy, ↓ap_ret, ↓ap_iret, ↓ap_zret, ↓ap_aret, ↓ap_retA, ↓ap_new, ↓ap_newa, ↓ap_callV, ↓ap_callS, ↓ap_callI, am_in, List.map_cons, List.map_nil, List.getElem?_cons_zero, List.getElem?_cons_succ, List.set_cons_zero, List.set_cons_succ, List.take_succ_cons, List.take_zero, List.drop_succ_cons, List.drop_zero, List.reverse_cons, List.reverse_nil, List.nil_append, List.cons_append, List.append_nil, List.length_cons, List.length_nil, List.replicate_succ, List.replicate_zero, Option.toList_some, Option.toList_none, true_and, and_true, Option.some.injEq, exists_eq_left', am_wI_mk, am_wA_mk, am_wR_mk, Nat.reduceAdd, Nat.reduceSub, Nat.reduceLeDiff, Nat.zero_add, Nat.le_refl, not_true_eq_false, not_false_eq_true, forall_const, false_implies, true_implies, implies_true, and_self, Prod.mk.injEq, eq_self, true_or, or_true, false_and, and_false, or_false, false_or, Nat.reduceEqDiff, ↓a_X5_answerOf_129, ↓a_X5_answerOf_121, ↓a_X5_answerOf_119, ↓a_X5_answerOf_114, ↓a_X5_answerOf_44, ↓a_X5_answerOf_37, ↓a_X5_answerOf_36, ↓a_X5_answerOf_29, ↓a_X5_answerOf_0, hSr, arr1 hSr, m0, m1, m2, m3, m4, m5, m6, m7, m8, m9, m10, m11, m12, m13, m14, n0, n1, n2, n4, n6, n7, n8, n9, n10, n11, n12, n13, n15, n18, arr1 m1, arr1 m2, arr1 m3, arr1 m4, arr1 m5, arr1 m6, arr1 m7, arr1 m8, arr1 m9, arr1 m10, arr1 m11, arr1 m12, arr1 m13, arr1 m14]
  refine m_counting hSr hI hB (by omega) ?_
  simp only [↓ap_cc, ↓ap_const, ↓ap_iload, ↓ap_aload, ↓ap_istore, ↓ap_astore, ↓ap_iinc, ↓ap_bin, ↓ap_idiv, ↓ap_i2c, ↓ap_dup, ↓ap_dup2, ↓ap_nn, ↓ap_ic, ↓ap_if, ↓ap_sw, ↓ap_head, ↓ap_getI, ↓ap_getR, ↓ap_putI, ↓ap_putN, ↓ap_putR, ↓ap_iald, ↓ap_cald, ↓ap_iast, ↓ap_cast, ↓ap_aald, ↓ap_aast, ↓ap_alen, ↓ap_stat, ↓ap_pop, ↓ap_mm, ↓ap_copy, ↓ap_ret, ↓ap_iret, ↓ap_zret, ↓ap_aret, ↓ap_retA, ↓ap_new, ↓ap_newa, ↓ap_callV, ↓ap_callS, ↓ap_callI, am_in, List.map_cons, List.map_nil, List.getElem?_cons_zero, List.getElem?_cons_succ, List.set_cons_zero, List.set_cons_succ, List.take_succ_cons, List.take_zero, List.drop_succ_cons, List.drop_zero, List.reverse_cons, List.reverse_nil, List.nil_append, List.cons_append, List.append_nil, List.length_cons, List.length_nil, List.replicate_succ, List.replicate_zero, Option.toList_some, Option.toList_none, true_and, and_true, Option.some.injEq, exists_eq_left', am_wI_mk, am_wA_mk, am_wR_mk, Nat.reduceAdd, Nat.reduceSub, Nat.reduceLeDiff, Nat.zero_add, Nat.le_refl, not_true_eq_false, not_false_eq_true, forall_const, false_implies, true_implies, implies_true, and_self, Prod.mk.injEq, eq_self, true_or, or_true, false_and, and_false, or_false, false_or, Nat.reduceEqDiff, ↓a_X5_answerOf_129, ↓a_X5_answerOf_121, ↓a_X5_answerOf_119, ↓a_X5_answerOf_114, ↓a_X5_answerOf_44, ↓a_X5_answerOf_37, ↓a_X5_answerOf_36, ↓a_X5_answerOf_29, ↓a_X5_answerOf_0, hSr, arr1 hSr, m0, m1, m2, m3, m4, m5, m6, m7, m8, m9, m10, m11, m12, m13, m14, n0, n1, n2, n4, n6, n7, n8, n9, n10, n11, n12, n13, n15, n18, arr1 m1, arr1 m2, arr1 m3, arr1 m4, arr1 m5, arr1 m6, arr1 m7, arr1 m8, arr1 m9, arr1 m10, arr1 m11, arr1 m12, arr1 m13, arr1 m14]
  cases hc : gC a l (gk a) with
  | some x =>
    have hx := gC_i hc
    rw [hc] at hp
    simp only at hp
    rw [oI_s]
    refine ⟨fun h => ((m4n (by omega)).mp h).elim, fun _ => m_told0 hSr hI hB hx.1 ?_⟩
    simp only [↓ap_cc, ↓ap_const, ↓ap_iload, ↓ap_aload, ↓ap_istore, ↓ap_astore, ↓ap_iinc, ↓ap_bin, ↓ap_idiv, ↓ap_i2c, ↓ap_dup, ↓ap_dup2, ↓ap_nn, ↓ap_ic, ↓ap_if, ↓ap_sw, ↓ap_head, ↓ap_getI, ↓ap_getR, ↓ap_putI, ↓ap_putN, ↓ap_putR, ↓ap_iald, ↓ap_cald, ↓ap_iast, ↓ap_cast, ↓ap_aald, ↓ap_aast, ↓ap_alen, ↓ap_stat, ↓ap_pop, ↓ap_mm, ↓ap_copy, ↓ap_ret, ↓ap_iret, ↓ap_zret, ↓ap_aret, ↓ap_retA, ↓ap_new, ↓ap_newa, ↓ap_callV, ↓ap_callS, ↓ap_callI, am_in, List.map_cons, List.map_nil, List.getElem?_cons_zero, List.getElem?_cons_succ, List.set_cons_zero, List.set_cons_succ, List.take_succ_cons, List.take_zero, List.drop_succ_cons, List.drop_zero, List.reverse_cons, List.reverse_nil, List.nil_append, List.cons_append, List.append_nil, List.length_cons, List.length_nil, List.replicate_succ, List.replicate_zero, Option.toList_some, Option.toList_none, true_and, and_true, Option.some.injEq, exists_eq_left', am_wI_mk, am_wA_mk, am_wR_mk, Nat.reduceAdd, Nat.reduceSub, Nat.reduceLeDiff, Nat.zero_add, Nat.le_refl, not_true_eq_false, not_false_eq_true, forall_const, false_implies, true_implies, implies_true, and_self, Prod.mk.injEq, eq_self, true_or, or_true, false_and, and_false, or_false, false_or, Nat.reduceEqDiff, ↓a_X5_answerOf_129, ↓a_X5_answerOf_121, ↓a_X5_answerOf_119, ↓a_X5_answerOf_114, ↓a_X5_answerOf_44, ↓a_X5_answerOf_37, ↓a_X5_answerOf_36, ↓a_X5_answerOf_29, ↓a_X5_answerOf_0, hSr, arr1 hSr, m0, m1, m2, m3, m4, m5, m6, m7, m8, m9, m10, m11, m12, m13, m14, n0, n1, n2, n4, n6, n7, n8, n9, n10, n11, n12, n13, n15, n18, arr1 m1, arr1 m2, arr1 m3, arr1 m4, arr1 m5, arr1 m6, arr1 m7, arr1 m8, arr1 m9, arr1 m10, arr1 m11, arr1 m12, arr1 m13, arr1 m14]
    have b := hB.Fn hx.1
    try simp (disch := omega) only [nm1, nm1', nsub1, np1, npd, nadd, n0m1, m1lt, nlt0, nge0, ngt0, nle0, nlt, nle, neq, neq0, m1n, m4n, vpn, vcl, ne_eq, bI_0, bI_1, bI_01, lit01, lit00, oI_s, oI_n, true_and, and_true, not_true_eq_false, not_false_eq_true, true_implies, false_implies, and_self, implies_true, forall_const, Bool.not_eq_false, Bool.not_eq_true, iu_s, iu_k1, iu_j1, ia_s1, ia_k1, lt2, lt3, lt5, lt6, lt7, lt8, lt9, lt10, lt11, lt12, lt15, lt16, lt17, lt20, lt30, lt32, lt48, lt57, lt71, lt80, lt97, lt98, lt108, lt110, lt126, lt191, lt200, lt227, lt681, lt65535, lt100000, decide_eq_true_eq, decide_eq_false_iff_not, Nat.le_refl, true_or, or_true, eq_self]
    refine ⟨fun h => m_told2 hSr hI hB hx.1 ?_, fun h => ?_⟩
    · simp only [↓ap_cc, ↓ap_const, ↓ap_iload, ↓ap_aload, ↓ap_istore, ↓ap_astore, ↓ap_iinc, ↓ap_bin, ↓ap_idiv, ↓ap_i2c, ↓ap_dup, ↓ap_dup2, ↓ap_nn, ↓ap_ic, ↓ap_if, ↓ap_sw, ↓ap_head, ↓ap_getI, ↓ap_getR, ↓ap_putI, ↓ap_putN, ↓ap_putR, ↓ap_iald, ↓ap_cald, ↓ap_iast, ↓ap_cast, ↓ap_aald, ↓ap_aast, ↓ap_alen, ↓ap_stat, ↓ap_pop, ↓ap_mm, ↓ap_copy, ↓ap_ret, ↓ap_iret, ↓ap_zret, ↓ap_aret, ↓ap_retA, ↓ap_new, ↓ap_newa, ↓ap_callV, ↓ap_callS, ↓ap_callI, am_in, List.map_cons, List.map_nil, List.getElem?_cons_zero, List.getElem?_cons_succ, List.set_cons_zero, List.set_cons_succ, List.take_succ_cons, List.take_zero, List.drop_succ_cons, List.drop_zero, List.reverse_cons, List.reverse_nil, List.nil_append, List.cons_append, List.append_nil, List.length_cons, List.length_nil, List.replicate_succ, List.replicate_zero, Option.toList_some, Option.toList_none, true_and, and_true, Option.some.injEq, exists_eq_left', am_wI_mk, am_wA_mk, am_wR_mk, Nat.reduceAdd, Nat.reduceSub, Nat.reduceLeDiff, Nat.zero_add, Nat.le_refl, not_true_eq_false, not_false_eq_true, forall_const, false_implies, true_implies, implies_true, and_self, Prod.mk.injEq, eq_self, true_or, or_true, false_and, and_false, or_false, false_or, Nat.reduceEqDiff, ↓a_X5_answerOf_129, ↓a_X5_answerOf_121, ↓a_X5_answerOf_119, ↓a_X5_answerOf_114, ↓a_X5_answerOf_44, ↓a_X5_answerOf_37, ↓a_X5_answerOf_36, ↓a_X5_answerOf_29, ↓a_X5_answerOf_0, hSr, arr1 hSr, m0, m1, m2, m3, m4, m5, m6, m7, m8, m9, m10, m11, m12, m13, m14, n0, n1, n2, n4, n6, n7, n8, n9, n10, n11, n12, n13, n15, n18, arr1 m1, arr1 m2, arr1 m3, arr1 m4, arr1 m5, arr1 m6, arr1 m7, arr1 m8, arr1 m9, arr1 m10, arr1 m11, arr1 m12, arr1 m13, arr1 m14]
      exact hp
    · unfold eI at hp
      rw [if_pos (by omega)] at hp
      exact hp
  | none =>
    rw [hc] at hp
    simp only at hp
    rw [oI_n]
    refine ⟨fun _ => ?_, fun h => absurd rfl h⟩
    have l44 : ∀ p, p ≤ gR a l → ∀ o2 o3 : Option am_V, am_OK h_X5_answerOf post 44 [some (.inr M), some (.inr r), some (.inl (nI l)), some (.inl (oI (-4) o)), some (.inl (-4)), some (.inl (oI (-4) (gB (fun e => gMayo a o l e && decide ((gs a 1 : Int) ≤ gSc a l e)) (gSc a l) (gO a) p))), some (.inl (nI p)), o2, o3] (S, I, R) := by
      refine dn (gR a l) ?_ ?_
      · intro o2 o3
        apply am_fold; rw [h_X5_answerOf_44]
        simp only [↓ap_cc, ↓ap_const, ↓ap_iload, ↓ap_aload, ↓ap_istore, ↓ap_astore, ↓ap_iinc, ↓ap_bin, ↓ap_idiv, ↓ap_i2c, ↓ap_dup, ↓ap_dup2, ↓ap_nn, ↓ap_ic, ↓ap_if, ↓ap_sw, ↓ap_head, ↓ap_getI, ↓ap_getR, ↓ap_putI, ↓ap_putN, ↓ap_putR, ↓ap_iald, ↓ap_cald, ↓ap_iast, ↓ap_cast, ↓ap_aald, ↓ap_aast, ↓ap_alen, ↓ap_stat, ↓ap_pop, ↓ap_mm, ↓ap_copy, ↓ap_ret, ↓ap_iret, ↓ap_zret, ↓ap_aret, ↓ap_retA, ↓ap_new, ↓ap_newa, ↓ap_callV, ↓ap_callS, ↓ap_callI, am_in, List.map_cons, List.map_nil, List.getElem?_cons_zero, List.getElem?_cons_succ, List.set_cons_zero, List.set_cons_succ, List.take_succ_cons, List.take_zero, List.drop_succ_cons, List.drop_zero, List.reverse_cons, List.reverse_nil, List.nil_append, List.cons_append, List.append_nil, List.length_cons, List.length_nil, List.replicate_succ, List.replicate_zero, Option.toList_some, Option.toList_none, true_and, and_true, Option.some.injEq, exists_eq_left', am_wI_mk, am_wA_mk, am_wR_mk, Nat.reduceAdd, Nat.reduceSub, Nat.reduceLeDiff, Nat.zero_add, Nat.le_refl, not_true_eq_false, not_false_eq_true, forall_const, false_implies, true_implies, implies_true, and_self, Prod.mk.injEq, eq_self, true_or, or_true, false_and, and_false, or_false, false_or, Nat.reduceEqDiff, ↓a_X5_answerOf_129, ↓a_X5_answerOf_121, ↓a_X5_answerOf_119, ↓a_X5_answerOf_114, ↓a_X5_answerOf_44, ↓a_X5_answerOf_37, ↓a_X5_answerOf_36, ↓a_X5_answerOf_29, ↓a_X5_answerOf_0, hSr, arr1 hSr, m0, m1, m2, m3, m4, m5, m6, m7, m8, m9, m10, m11, m12, m13, m14, n0, n1, n2, n4, n6, n7, n8, n9, n10, n11, n12, n13, n15, n18, arr1 m1, arr1 m2, arr1 m3, arr1 m4, arr1 m5, arr1 m6, arr1 m7, arr1 m8, arr1 m9, arr1 m10, arr1 m11, arr1 m12, arr1 m13, arr1 m14]
        try simp (disch := omega) only [nm1, nm1', nsub1, np1, npd, nadd, n0m1, m1lt, nlt0, nge0, ngt0, nle0, nlt, nle, neq, neq0, m1n, m4n, vpn, vcl, ne_eq, bI_0, bI_1, bI_01, lit01, lit00, oI_s, oI_n, true_and, and_true, not_true_eq_false, not_false_eq_true, true_implies, false_implies, and_self, implies_true, forall_const, Bool.not_eq_false, Bool.not_eq_true, iu_s, iu_k1, iu_j1, ia_s1, ia_k1, lt2, lt3, lt5, lt6, lt7, lt8, lt9, lt10, lt11, lt12, lt15, lt16, lt17, lt20, lt30, lt32, lt48, lt57, lt71, lt80, lt97, lt98, lt108, lt110, lt126, lt191, lt200, lt227, lt681, lt65535, lt100000, decide_eq_true_eq, decide_eq_false_iff_not, Nat.le_refl, true_or, or_true, eq_self, hO.2.1]
        exact hp
      · intro p hpl ih o2 o3
        have hOp := gO_lt (a := a) (k := p) (by omega)
        have hRp := gR_gO (a := a) (k := p) (by omega)
        have hEp : gE a (gO a p) l := (gR_E hOp hl).mp (by omega)
        have bsp := gSc_b hB (gO a p) hl
        rw [gB] at ih
        apply am_fold; rw [h_X5_answerOf_44]
        simp only [↓ap_cc, ↓ap_const, ↓ap_iload, ↓ap_aload, ↓ap_istore, ↓ap_astore, ↓ap_iinc, ↓ap_bin, ↓ap_idiv, ↓ap_i2c, ↓ap_dup, ↓ap_dup2, ↓ap_nn, ↓ap_ic, ↓ap_if, ↓ap_sw, ↓ap_head, ↓ap_getI, ↓ap_getR, ↓ap_putI, ↓ap_putN, ↓ap_putR, ↓ap_iald, ↓ap_cald, ↓ap_iast, ↓ap_cast, ↓ap_aald, ↓ap_aast, ↓ap_alen, ↓ap_stat, ↓ap_pop, ↓ap_mm, ↓ap_copy, ↓ap_ret, ↓ap_iret, ↓ap_zret, ↓ap_aret, ↓ap_retA, ↓ap_new, ↓ap_newa, ↓ap_callV, ↓ap_callS, ↓ap_callI, am_in, List.map_cons, List.map_nil, List.getElem?_cons_zero, List.getElem?_cons_succ, List.set_cons_zero, List.set_cons_succ, List.take_succ_cons, List.take_zero, List.drop_succ_cons, List.drop_zero, List.reverse_cons, List.reverse_nil, List.nil_append, List.cons_append, List.append_nil, List.length_cons, List.length_nil, List.replicate_succ, List.replicate_zero, Option.toList_some, Option.toList_none, true_and, and_true, Option.some.injEq, exists_eq_left', am_wI_mk, am_wA_mk, am_wR_mk, Nat.reduceAdd, Nat.reduceSub, Nat.reduceLeDiff, Nat.zero_add, Nat.le_refl, not_true_eq_false, not_false_eq_true, forall_const, false_implies, true_implies, implies_true, and_self, Prod.mk.injEq, eq_self, true_or, or_true, false_and, and_false, or_false, false_or, Nat.reduceEqDiff, ↓a_X5_answerOf_129, ↓a_X5_answerOf_121, ↓a_X5_answerOf_119, ↓a_X5_answerOf_114, ↓a_X5_answerOf_44, ↓a_X5_answerOf_37, ↓a_X5_answerOf_36, ↓a_X5_answerOf_29, ↓a_X5_answerOf_0, hSr, arr1 hSr, m0, m1, m2, m3, m4, m5, m6, m7, m8, m9, m10, m11, m12, m13, m14, n0, n1, n2, n4, n6, n7, n8, n9, n10, n11, n12, n13, n15, n18, arr1 m1, arr1 m2, arr1 m3, arr1 m4, arr1 m5, arr1 m6, arr1 m7, arr1 m8, arr1 m9, arr1 m10, arr1 m11, arr1 m12, arr1 m13, arr1 m14]
        try simp (disch := omega) only [nm1, nm1', nsub1, np1, npd, nadd, n0m1, m1lt, nlt0, nge0, ngt0, nle0, nlt, nle, neq, neq0, m1n, m4n, vpn, vcl, ne_eq, bI_0, bI_1, bI_01, lit01, lit00, oI_s, oI_n, true_and, and_true, not_true_eq_false, not_false_eq_true, true_implies, false_implies, and_self, implies_true, forall_const, Bool.not_eq_false, Bool.not_eq_true, iu_s, iu_k1, iu_j1, ia_s1, ia_k1, lt2, lt3, lt5, lt6, lt7, lt8, lt9, lt10, lt11, lt12, lt15, lt16, lt17, lt20, lt30, lt32, lt48, lt57, lt71, lt80, lt97, lt98, lt108, lt110, lt126, lt191, lt200, lt227, lt681, lt65535, lt100000, decide_eq_true_eq, decide_eq_false_iff_not, Nat.le_refl, true_or, or_true, eq_self, hO.2.1, hO.1]
        refine ⟨fun h => by omega, fun _ => m_might hS hr hI hB hW hO hSc hl hOp ho ?_⟩
        simp only [↓ap_cc, ↓ap_const, ↓ap_iload, ↓ap_aload, ↓ap_istore, ↓ap_astore, ↓ap_iinc, ↓ap_bin, ↓ap_idiv, ↓ap_i2c, ↓ap_dup, ↓ap_dup2, ↓ap_nn, ↓ap_ic, ↓ap_if, ↓ap_sw, ↓ap_head, ↓ap_getI, ↓ap_getR, ↓ap_putI, ↓ap_putN, ↓ap_putR, ↓ap_iald, ↓ap_cald, ↓ap_iast, ↓ap_cast, ↓ap_aald, ↓ap_aast, ↓ap_alen, ↓ap_stat, ↓ap_pop, ↓ap_mm, ↓ap_copy, ↓ap_ret, ↓ap_iret, ↓ap_zret, ↓ap_aret, ↓ap_retA, ↓ap_new, ↓ap_newa, ↓ap_callV, ↓ap_callS, ↓ap_callI, am_in, List.map_cons, List.map_nil, List.getElem?_cons_zero, List.getElem?_cons_succ, List.set_cons_zero, List.set_cons_succ, List.take_succ_cons, List.take_zero, List.drop_succ_cons, List.drop_zero, List.reverse_cons, List.reverse_nil, List.nil_append, List.cons_append, List.append_nil, List.length_cons, List.length_nil, List.replicate_succ, List.replicate_zero, Option.toList_some, Option.toList_none, true_and, and_true, Option.some.injEq, exists_eq_left', am_wI_mk, am_wA_mk, am_wR_mk, Nat.reduceAdd, Nat.reduceSub, Nat.reduceLeDiff, Nat.zero_add, Nat.le_refl, not_true_eq_false, not_false_eq_true, forall_const, false_implies, true_implies, implies_true, and_self, Prod.mk.injEq, eq_self, true_or, or_true, false_and, and_false, or_false, false_or, Nat.reduceEqDiff, ↓a_X5_answerOf_129, ↓a_X5_answerOf_121, ↓a_X5_answerOf_119, ↓a_X5_answerOf_114, ↓a_X5_answerOf_44, ↓a_X5_answerOf_37, ↓a_X5_answerOf_36, ↓a_X5_answerOf_29, ↓a_X5_answerOf_0, hSr, arr1 hSr, m0, m1, m2, m3, m4, m5, m6, m7, m8, m9, m10, m11, m12, m13, m14, n0, n1, n2, n4, n6, n7, n8, n9, n10, n11, n12, n13, n15, n18, arr1 m1, arr1 m2, arr1 m3, arr1 m4, arr1 m5, arr1 m6, arr1 m7, arr1 m8, arr1 m9, arr1 m10, arr1 m11, arr1 m12, arr1 m13, arr1 m14]
        simp (disch := omega) only [bI_0, vpn, vcl, hO.1, lt30, nmul, nadd, np1, Bool.not_eq_false]
        refine ⟨fun h => ?_, fun h => ?_⟩
        · rw [h] at ih; exact ih _ _
        · rw [h] at ih
          cases hb : gB (fun e => gMayo a o l e && decide ((gs a 1 : Int) ≤ gSc a l e)) (gSc a l) (gO a) p with
          | none =>
            rw [hb] at ih
            exact ⟨fun _ => ih _ _, fun q => absurd (oI_n _) q⟩
          | some b =>
            rw [hb] at ih
            obtain ⟨-, i, hi, hbi⟩ := gB_some hb
            have hbl := gO_lt (a := a) (k := i) (by omega)
            have hbE : gE a (gO a i) l := (gR_E hbl hl).mp (by rw [gR_gO (by omega)]; omega)
            rw [hbi] at hbl hbE
            have bsb := gSc_b hB b hl
            have e1 : I (M + 8) (30 * l + gO a p) = zI (gSc a l (gO a p)) := by rw [hSc l _ hl hOp, if_pos hEp]
            have e2 : I (M + 8) (30 * l + b) = zI (gSc a l b) := by rw [hSc l _ hl hbl, if_pos hbE]
            rw [oI_s]
            refine ⟨fun q => ((m4n (by omega)).mp q).elim, fun _ => ?_⟩
            simp (disch := omega) only [vpn, vcl, nmul, nadd, e1, e2, true_and]
            rw [zlt (by omega) (by omega) (by omega) (by omega)]
            refine ⟨fun q => ?_, fun q => ?_⟩
            · have : bet (gSc a l) (some b) (gO a p) = false := decide_eq_false (by omega)
              rw [this] at ih
              exact ih _ _
            · have : bet (gSc a l) (some b) (gO a p) = true := decide_eq_true (by omega)
              rw [this] at ih
              exact ih _ _
    exact l44 0 (by omega) none none
theorem m_answerOf0 {l : Nat} (hS : MoS S R M) (hr : M + 1 ≤ r ∧ r ≤ M + 2) (hI : RowI (I r) a) (hB : LgB a) (hW : WfF a) (hO : MOrd I M a) (hSc : MSco I M a) (hl : l < gn a) (hp : post (some (.inl (oI (-4) (gA a (gs a 1) l)))) (S, I, R)) : sp_X5_answerOf [.inr M, .inr r, .inl (nI l), .inl (-4)] (S, I, R) post := by
  refine m_answerOf (o := none) hS hr hI hB hW hO hSc hl (fun x h => by cases h) ?_
  unfold gA at hp
  cases hc : gC a l (gk a) with
  | some x =>
    rw [hc] at hp
    simp only at hp ⊢
    unfold eI
    by_cases h0 : gF a 0 x = 0
    · rw [if_pos h0] at hp ⊢; exact hp
    · rw [if_neg h0] at hp ⊢; exact hp
  | none =>
    rw [hc] at hp
    simp only at hp ⊢
    rw [gMayo_none, gB_th]
    unfold gBest at hp
    rw [if_pos hc] at hp
    exact hp
theorem m_speaksToBoth {l x y : Nat} (hS : MoS S R M) (hr : M + 1 ≤ r ∧ r ≤ M + 2) (hI : RowI (I r) a) (hB : LgB a) (hO : MOrd I M a) (hl : l < gn a) (hx : x < gn a) (hy : y < gn a) (hp : post (some (.inl (bI (decide (gL a 1 x ≠ gL a 1 y) && ((gP a l).testBit (gL a 1 x) && (gP a l).testBit (gL a 1 y)))))) (S, I, R)) : sp_X5_speaksToBoth [.inr M, .inr r, .inl (nI l), .inl (nI x), .inl (nI y)] (S, I, R) post := by
  obtain ⟨⟨m0, m1, m2, m3, m4, m5, m6, m7, m8, m9, m10, m11, m12, m13, m14⟩, n0, n1, n2, n4, n6, n7, n8, n9, n10, n11, n12, n13, n15, n18⟩ := id hS
  have hSr : S[r]? = some (1, 227) := by rcases (by omega : r = M + 1 ∨ r = M + 2) with h | h <;> (rw [h]; assumption)
  have bn := hB.n
  have bx := hB.Ln hx
  have bby := hB.Ln hy
  have g1 := gP_lt' a l
  refine ⟨Nat.le_of_ble_eq_true rfl, am_fold ?_⟩; rw [h_X5_speaksToBoth_0]
  simp only [↓ap_cc, ↓ap_const, ↓ap_iload, ↓ap_aload, ↓ap_istore, ↓ap_astore, ↓ap_iinc, ↓ap_bin, ↓ap_idiv, ↓ap_i2c, ↓ap_dup, ↓ap_dup2, ↓ap_nn, ↓ap_ic, ↓ap_if, ↓ap_sw, ↓ap_head, ↓ap_getI, ↓ap_getR, ↓ap_putI, ↓ap_putN, ↓ap_putR, ↓ap_iald, ↓ap_cald, ↓ap_iast, ↓ap_cast, ↓ap_aald, ↓ap_aast, ↓ap_alen, ↓ap_stat, ↓ap_pop, ↓ap_mm, ↓ap_copy, ↓ap_ret, ↓ap_iret, ↓ap_zret, ↓ap_aret, ↓ap_retA, ↓ap_new, ↓ap_newa, ↓ap_callV, ↓ap_callS, ↓ap_callI, am_in, List.map_cons, List.map_nil, List.getElem?_cons_zero, List.getElem?_cons_succ, List.set_cons_zero, List.set_cons_succ, List.take_succ_cons, List.take_zero, List.drop_succ_cons, List.drop_zero, List.reverse_cons, List.reverse_nil, List.nil_append, List.cons_append, List.append_nil, List.length_cons, List.length_nil, List.replicate_succ, List.replicate_zero, Option.toList_some, Option.toList_none, true_and, and_true, Option.some.injEq, exists_eq_left', am_wI_mk, am_wA_mk, am_wR_mk, Nat.reduceAdd, Nat.reduceSub, Nat.reduceLeDiff, Nat.zero_add, Nat.le_refl, not_true_eq_false, not_false_eq_true, forall_const, false_implies, true_implies, implies_true, and_self, Prod.mk.injEq, eq_self, true_or, or_true, false_and, and_false, or_false, false_or, Nat.reduceEqDiff, ↓a_X5_speaksToBoth_59, ↓a_X5_speaksToBoth_58, ↓a_X5_speaksToBoth_0, hSr, arr1 hSr, m0, m1, m2, m3, m4, m5, m6, m7, m8, m9, m10, m11, m12, m13, m14, n0, n1, n2, n4, n6, n7, n8, n9, n10, n11, n12, n13, n15, n18, arr1 m1, arr1 m2, arr1 m3, arr1 m4, arr1 m5, arr1 m6, arr1 m7, arr1 m8, arr1 m9, arr1 m10, arr1 m11, arr1 m12, arr1 m13, arr1 m14]
  refine m_of1 hSr hI hB hx ?_
  simp only [↓ap_cc, ↓ap_const, ↓ap_iload, ↓ap_aload, ↓ap_istore, ↓ap_astore, ↓ap_iinc, ↓ap_bin, ↓ap_idiv, ↓ap_i2c, ↓ap_dup, ↓ap_dup2, ↓ap_nn, ↓ap_ic, ↓ap_if, ↓ap_sw, ↓ap_head, ↓ap_getI, ↓ap_getR, ↓ap_putI, ↓ap_putN, ↓ap_putR, ↓ap_iald, ↓ap_cald, ↓ap_iast, ↓ap_cast, ↓ap_aald, ↓ap_aast, ↓ap_alen, ↓ap_stat, ↓ap_pop, ↓ap_mm, ↓ap_copy, ↓ap_ret, ↓ap_iret, ↓ap_zret, ↓ap_aret, ↓ap_retA, ↓ap_new, ↓ap_newa, ↓ap_callV, ↓ap_callS, ↓ap_callI, am_in, List.map_cons, List.map_nil, List.getElem?_cons_zero, List.getElem?_cons_succ, List.set_cons_zero, List.set_cons_succ, List.take_succ_cons, List.take_zero, List.drop_succ_cons, List.drop_zero, List.reverse_cons, List.reverse_nil, List.nil_append, List.cons_append, List.append_nil, List.length_cons, List.length_nil, List.replicate_succ, List.replicate_zero, Option.toList_some, Option.toList_none, true_and, and_true, Option.some.injEq, exists_eq_left', am_wI_mk, am_wA_mk, am_wR_mk, Nat.reduceAdd, Nat.reduceSub, Nat.reduceLeDiff, Nat.zero_add, Nat.le_refl, not_true_eq_false, not_false_eq_true, forall_const, false_implies, true_implies, implies_true, and_self, Prod.mk.injEq, eq_self, true_or, or_true, false_and, and_false, or_false, false_or, Nat.reduceEqDiff, ↓a_X5_speaksToBoth_59, ↓a_X5_speaksToBoth_58, ↓a_X5_speaksToBoth_0, hSr, arr1 hSr, m0, m1, m2, m3, m4, m5, m6, m7, m8, m9, m10, m11, m12, m13, m14, n0, n1, n2, n4, n6, n7, n8, n9, n10, n11, n12, n13, n15, n18, arr1 m1, arr1 m2, arr1 m3, arr1 m4, arr1 m5, arr1 m6, arr1 m7, arr1 m8, arr1 m9, arr1 m10, arr1 m11, arr1 m12, arr1 m13, arr1 m14]
  refine m_of1 hSr hI hB hy ?_
  simp only [↓ap_cc, ↓ap_const, ↓ap_iload, ↓ap_aload, ↓ap_istore, ↓ap_astore, ↓ap_iinc, ↓ap_bin, ↓ap_idiv, ↓ap_i2c, ↓ap_dup, ↓ap_dup2, ↓ap_nn, ↓ap_ic, ↓ap_if, ↓ap_sw, ↓ap_head, ↓ap_getI, ↓ap_getR, ↓ap_putI, ↓ap_putN, ↓ap_putR, ↓ap_iald, ↓ap_cald, ↓ap_iast, ↓ap_cast, ↓ap_aald, ↓ap_aast, ↓ap_alen, ↓ap_stat, ↓ap_pop, ↓ap_mm, ↓ap_copy, ↓ap_ret, ↓ap_iret, ↓ap_zret, ↓ap_aret, ↓ap_retA, ↓ap_new, ↓ap_newa, ↓ap_callV, ↓ap_callS, ↓ap_callI, am_in, List.map_cons, List.map_nil, List.getElem?_cons_zero, List.getElem?_cons_succ, List.set_cons_zero, List.set_cons_succ, List.take_succ_cons, List.take_zero, List.drop_succ_cons, List.drop_zero, List.reverse_cons, List.reverse_nil, List.nil_append, List.cons_append, List.append_nil, List.length_cons, List.length_nil, List.replicate_succ, List.replicate_zero, Option.toList_some, Option.toList_none, true_and, and_true, Option.some.injEq, exists_eq_left', am_wI_mk, am_wA_mk, am_wR_mk, Nat.reduceAdd, Nat.reduceSub, Nat.reduceLeDiff, Nat.zero_add, Nat.le_refl, not_true_eq_false, not_false_eq_true, forall_const, false_implies, true_implies, implies_true, and_self, Prod.mk.injEq, eq_self, true_or, or_true, false_and, and_false, or_false, false_or, Nat.reduceEqDiff, ↓a_X5_speaksToBoth_59, ↓a_X5_speaksToBoth_58, ↓a_X5_speaksToBoth_0, hSr, arr1 hSr, m0, m1, m2, m3, m4, m5, m6, m7, m8, m9, m10, m11, m12, m13, m14, n0, n1, n2, n4, n6, n7, n8, n9, n10, n11, n12, n13, n15, n18, arr1 m1, arr1 m2, arr1 m3, arr1 m4, arr1 m5, arr1 m6, arr1 m7, arr1 m8, arr1 m9, arr1 m10, arr1 m11, arr1 m12, arr1 m13, arr1 m14]
  try simp (disch := omega) only [nm1, nm1', nsub1, np1, npd, nadd, n0m1, m1lt, nlt0, nge0, ngt0, nle0, nlt, nle, neq, neq0, m1n, m4n, vpn, vcl, ne_eq, bI_0, bI_1, bI_01, lit01, lit00, oI_s, oI_n, true_and, and_true, not_true_eq_false, not_false_eq_true, true_implies, false_implies, and_self, implies_true, forall_const, Bool.not_eq_false, Bool.not_eq_true, iu_s, iu_k1, iu_j1, ia_s1, ia_k1, lt2, lt3, lt5, lt6, lt7, lt8, lt9, lt10, lt11, lt12, lt15, lt16, lt17, lt20, lt30, lt32, lt48, lt57, lt71, lt80, lt97, lt98, lt108, lt110, lt126, lt191, lt200, lt227, lt681, lt65535, lt100000, decide_eq_true_eq, decide_eq_false_iff_not, Nat.le_refl, true_or, or_true, eq_self, hO.2.2]
  rw [nb_bit (by omega) (by omega), nb_bit (by omega) (by omega)]
  try simp (disch := omega) only [nm1, nm1', nsub1, np1, npd, nadd, n0m1, m1lt, nlt0, nge0, ngt0, nle0, nlt, nle, neq, neq0, m1n, m4n, vpn, vcl, ne_eq, bI_0, bI_1, bI_01, lit01, lit00, oI_s, oI_n, true_and, and_true, not_true_eq_false, not_false_eq_true, true_implies, false_implies, and_self, implies_true, forall_const, Bool.not_eq_false, Bool.not_eq_true, iu_s, iu_k1, iu_j1, ia_s1, ia_k1, lt2, lt3, lt5, lt6, lt7, lt8, lt9, lt10, lt11, lt12, lt15, lt16, lt17, lt20, lt30, lt32, lt48, lt57, lt71, lt80, lt97, lt98, lt108, lt110, lt126, lt191, lt200, lt227, lt681, lt65535, lt100000, decide_eq_true_eq, decide_eq_false_iff_not, Nat.le_refl, true_or, or_true, eq_self]
  refine ⟨fun h => ?_, fun h => ⟨fun h2 => ?_, fun h2 => ⟨fun h3 => ?_, fun h3 => ?_⟩⟩⟩
  · rw [decide_eq_false (fun q => q h)] at hp; exact hp
  · have h2 : (gP a l).testBit (gL a 1 x) = false := by simpa using h2
    rw [h2] at hp; simp at hp; exact hp
  · have h3 : (gP a l).testBit (gL a 1 y) = false := by simpa using h3
    rw [h3] at hp; simp at hp; exact hp
  · have h2 : (gP a l).testBit (gL a 1 x) = true := by simpa using h2
    have h3 : (gP a l).testBit (gL a 1 y) = true := by simpa using h3
    rw [h2, h3, decide_eq_true h] at hp; exact hp
theorem m_unites {x y : Int32} (hS : MoS S R M) (hr : M + 1 ≤ r ∧ r ≤ M + 2) (hI : RowI (I r) a) (hB : LgB a) (hp : ∀ I', Fr (M + 10) (M + 10) I I' → (∀ l, l < gn a → I' (M + 10) l = if I (M + 10) l = y then x else I (M + 10) l) → post none (S, I', R)) : sp_X5_unites [.inr M, .inr r, .inl x, .inl y] (S, I, R) post := by
  obtain ⟨⟨m0, m1, m2, m3, m4, m5, m6, m7, m8, m9, m10, m11, m12, m13, m14⟩, n0, n1, n2, n4, n6, n7, n8, n9, n10, n11, n12, n13, n15, n18⟩ := id hS
  have hSr : S[r]? = some (1, 227) := by rcases (by omega : r = M + 1 ∨ r = M + 2) with h | h <;> (rw [h]; assumption)
  have bn := hB.n
  have l3 : ∀ p, p ≤ gn a → ∀ I', Fr (M + 10) (M + 10) I I' → (∀ l, l < gn a → I' (M + 10) l = if l < p ∧ I (M + 10) l = y then x else I (M + 10) l) → am_OK h_X5_unites post 3 [some (.inr M), some (.inr r), some (.inl x), some (.inl y), some (.inl (nI p))] (S, I', R) := by
    refine dn (gn a) ?_ ?_
    · intro I' hf h
      have hI' := rowfr hI hf (by omega)
      apply am_fold; rw [h_X5_unites_3]
      simp only [↓ap_cc, ↓ap_const, ↓ap_iload, ↓ap_aload, ↓ap_istore, ↓ap_astore, ↓ap_iinc, ↓ap_bin, ↓ap_idiv, ↓ap_i2c, ↓ap_dup, ↓ap_dup2, ↓ap_nn, ↓ap_ic, ↓ap_if, ↓ap_sw, ↓ap_head, ↓ap_getI, ↓ap_getR, ↓ap_putI, ↓ap_putN, ↓ap_putR, ↓ap_iald, ↓ap_cald, ↓ap_iast, ↓ap_cast, ↓ap_aald, ↓ap_aast, ↓ap_alen, ↓ap_stat, ↓ap_pop, ↓ap_mm, ↓ap_copy, ↓ap_ret, ↓ap_iret, ↓ap_zret, ↓ap_aret, ↓ap_retA, ↓ap_new, ↓ap_newa, ↓ap_callV, ↓ap_callS, ↓ap_callI, am_in, List.map_cons, List.map_nil, List.getElem?_cons_zero, List.getElem?_cons_succ, List.set_cons_zero, List.set_cons_succ, List.take_succ_cons, List.take_zero, List.drop_succ_cons, List.drop_zero, List.reverse_cons, List.reverse_nil, List.nil_append, List.cons_append, List.append_nil, List.length_cons, List.length_nil, List.replicate_succ, List.replicate_zero, Option.toList_some, Option.toList_none, true_and, and_true, Option.some.injEq, exists_eq_left', am_wI_mk, am_wA_mk, am_wR_mk, Nat.reduceAdd, Nat.reduceSub, Nat.reduceLeDiff, Nat.zero_add, Nat.le_refl, not_true_eq_false, not_false_eq_true, forall_const, false_implies, true_implies, implies_true, and_self, Prod.mk.injEq, eq_self, true_or, or_true, false_and, and_false, or_false, false_or, Nat.reduceEqDiff, ↓a_X5_unites_47, ↓a_X5_unites_40, ↓a_X5_unites_33, ↓a_X5_unites_3, ↓a_X5_unites_0, hSr, arr1 hSr, m0, m1, m2, m3, m4, m5, m6, m7, m8, m9, m10, m11, m12, m13, m14, n0, n1, n2, n4, n6, n7, n8, n9, n10, n11, n12, n13, n15, n18, arr1 m1, arr1 m2, arr1 m3, arr1 m4, arr1 m5, arr1 m6, arr1 m7, arr1 m8, arr1 m9, arr1 m10, arr1 m11, arr1 m12, arr1 m13, arr1 m14]
      try simp (disch := omega) only [nm1, nm1', nsub1, np1, npd, nadd, n0m1, m1lt, nlt0, nge0, ngt0, nle0, nlt, nle, neq, neq0, m1n, m4n, vpn, vcl, ne_eq, bI_0, bI_1, bI_01, lit01, lit00, oI_s, oI_n, true_and, and_true, not_true_eq_false, not_false_eq_true, true_implies, false_implies, and_self, implies_true, forall_const, Bool.not_eq_false, Bool.not_eq_true, iu_s, iu_k1, iu_j1, ia_s1, ia_k1, lt2, lt3, lt5, lt6, lt7, lt8, lt9, lt10, lt11, lt12, lt15, lt16, lt17, lt20, lt30, lt32, lt48, lt57, lt71, lt80, lt97, lt98, lt108, lt110, lt126, lt191, lt200, lt227, lt681, lt65535, lt100000, decide_eq_true_eq, decide_eq_false_iff_not, Nat.le_refl, true_or, or_true, eq_self, hI'.n]
      refine hp I' hf (fun l hl => ?_)
      rw [h l hl]
      by_cases hc : I (M + 10) l = y
      · rw [if_pos ⟨hl, hc⟩, if_pos hc]
      · rw [if_neg (fun q => hc q.2), if_neg hc]
    · intro p hpn ih I' hf h
      have hI' := rowfr hI hf (by omega)
      have hpp : I' (M + 10) p = I (M + 10) p := by rw [h p hpn, if_neg (fun q => by omega)]
      have nx : ∀ z, z = (if I (M + 10) p = y then x else I (M + 10) p) → am_OK h_X5_unites post 3 [some (.inr M), some (.inr r), some (.inl x), some (.inl y), some (.inl (nI (p + 1)))] (S, am_u I' (M + 10) p z, R) := by
        intro z hz
        refine ih _ (hf.u (by omega) (by omega)) (fun l hl => ?_)
        rw [iu_i]
        by_cases hlp : l = p
        · subst hlp
          rw [if_pos rfl, hz]
          by_cases hc : I (M + 10) l = y
          · rw [if_pos hc, if_pos ⟨by omega, hc⟩]
          · rw [if_neg hc, if_neg (fun q => hc q.2)]
        · rw [if_neg hlp, h l hl]
          by_cases hc : l < p ∧ I (M + 10) l = y
          · rw [if_pos hc, if_pos ⟨by omega, hc.2⟩]
          · rw [if_neg hc, if_neg (fun q => hc ⟨by omega, q.2⟩)]
      apply am_fold; rw [h_X5_unites_3]
      simp only [↓ap_cc, ↓ap_const, ↓ap_iload, ↓ap_aload, ↓ap_istore, ↓ap_astore, ↓ap_iinc, ↓ap_bin, ↓ap_idiv, ↓ap_i2c, ↓ap_dup, ↓ap_dup2, ↓ap_nn, ↓ap_ic, ↓ap_if, ↓ap_sw, ↓ap_head, ↓ap_getI, ↓ap_getR, ↓ap_putI, ↓ap_putN, ↓ap_putR, ↓ap_iald, ↓ap_cald, ↓ap_iast, ↓ap_cast, ↓ap_aald, ↓ap_aast, ↓ap_alen, ↓ap_stat, ↓ap_pop, ↓ap_mm, ↓ap_copy, ↓ap_ret, ↓ap_iret, ↓ap_zret, ↓ap_aret, ↓ap_retA, ↓ap_new, ↓ap_newa, ↓ap_callV, ↓ap_callS, ↓ap_callI, am_in, List.map_cons, List.map_nil, List.getElem?_cons_zero, List.getElem?_cons_succ, List.set_cons_zero, List.set_cons_succ, List.take_succ_cons, List.take_zero, List.drop_succ_cons, List.drop_zero, List.reverse_cons, List.reverse_nil, List.nil_append, List.cons_append, List.append_nil, List.length_cons, List.length_nil, List.replicate_succ, List.replicate_zero, Option.toList_some, Option.toList_none, true_and, and_true, Option.some.injEq, exists_eq_left', am_wI_mk, am_wA_mk, am_wR_mk, Nat.reduceAdd, Nat.reduceSub, Nat.reduceLeDiff, Nat.zero_add, Nat.le_refl, not_true_eq_false, not_false_eq_true, forall_const, false_implies, true_implies, implies_true, and_self, Prod.mk.injEq, eq_self, true_or, or_true, false_and, and_false, or_false, false_or, Nat.reduceEqDiff, ↓a_X5_unites_47, ↓a_X5_unites_40, ↓a_X5_unites_33, ↓a_X5_unites_3, ↓a_X5_unites_0, hSr, arr1 hSr, m0, m1, m2, m3, m4, m5, m6, m7, m8, m9, m10, m11, m12, m13, m14, n0, n1, n2, n4, n6, n7, n8, n9, n10, n11, n12, n13, n15, n18, arr1 m1, arr1 m2, arr1 m3, arr1 m4, arr1 m5, arr1 m6, arr1 m7, arr1 m8, arr1 m9, arr1 m10, arr1 m11, arr1 m12, arr1 m13, arr1 m14]
      try simp (disch := omega) only [nm1, nm1', nsub1, np1, npd, nadd, n0m1, m1lt, nlt0, nge0, ngt0, nle0, nlt, nle, neq, neq0, m1n, m4n, vpn, vcl, ne_eq, bI_0, bI_1, bI_01, lit01, lit00, oI_s, oI_n, true_and, and_true, not_true_eq_false, not_false_eq_true, true_implies, false_implies, and_self, implies_true, forall_const, Bool.not_eq_false, Bool.not_eq_true, iu_s, iu_k1, iu_j1, ia_s1, ia_k1, lt2, lt3, lt5, lt6, lt7, lt8, lt9, lt10, lt11, lt12, lt15, lt16, lt17, lt20, lt30, lt32, lt48, lt57, lt71, lt80, lt97, lt98, lt108, lt110, lt126, lt191, lt200, lt227, lt681, lt65535, lt100000, decide_eq_true_eq, decide_eq_false_iff_not, Nat.le_refl, true_or, or_true, eq_self, hI'.n, hpp]
      refine ⟨fun h => by omega, fun _ => ⟨fun h2 => nx _ ?_, fun h2 => nx _ ?_⟩⟩
      · rw [if_neg h2]
      · rw [if_pos (Classical.byContradiction h2)]
  refine ⟨Nat.le_of_ble_eq_true rfl, am_fold ?_⟩; rw [h_X5_unites_0]
  simp only [↓ap_cc, ↓ap_const, ↓ap_iload, ↓ap_aload, ↓ap_istore, ↓ap_astore, ↓ap_iinc, ↓ap_bin, ↓ap_idiv, ↓ap_i2c, ↓ap_dup, ↓ap_dup2, ↓ap_nn, ↓ap_ic, ↓ap_if, ↓ap_sw, ↓ap_head, ↓ap_getI, ↓ap_getR, ↓ap_putI, ↓ap_putN, ↓ap_putR, ↓ap_iald, ↓ap_cald, ↓ap_iast, ↓ap_cast, ↓ap_aald, ↓ap_aast, ↓ap_alen, ↓ap_stat, ↓ap_pop, ↓ap_mm, ↓ap_copy, ↓ap_ret, ↓ap_iret, ↓ap_zret, ↓ap_aret, ↓ap_retA, ↓ap_new, ↓ap_newa, ↓ap_callV, ↓ap_callS, ↓ap_callI, am_in, List.map_cons, List.map_nil, List.getElem?_cons_zero, List.getElem?_cons_succ, List.set_cons_zero, List.set_cons_succ, List.take_succ_cons, List.take_zero, List.drop_succ_cons, List.drop_zero, List.reverse_cons, List.reverse_nil, List.nil_append, List.cons_append, List.append_nil, List.length_cons, List.length_nil, List.replicate_succ, List.replicate_zero, Option.toList_some, Option.toList_none, true_and, and_true, Option.some.injEq, exists_eq_left', am_wI_mk, am_wA_mk, am_wR_mk, Nat.reduceAdd, Nat.reduceSub, Nat.reduceLeDiff, Nat.zero_add, Nat.le_refl, not_true_eq_false, not_false_eq_true, forall_const, false_implies, true_implies, implies_true, and_self, Prod.mk.injEq, eq_self, true_or, or_true, false_and, and_false, or_false, false_or, Nat.reduceEqDiff, ↓a_X5_unites_47, ↓a_X5_unites_40, ↓a_X5_unites_33, ↓a_X5_unites_3, ↓a_X5_unites_0, hSr, arr1 hSr, m0, m1, m2, m3, m4, m5, m6, m7, m8, m9, m10, m11, m12, m13, m14, n0, n1, n2, n4, n6, n7, n8, n9, n10, n11, n12, n13, n15, n18, arr1 m1, arr1 m2, arr1 m3, arr1 m4, arr1 m5, arr1 m6, arr1 m7, arr1 m8, arr1 m9, arr1 m10, arr1 m11, arr1 m12, arr1 m13, arr1 m14]
  exact l3 0 (by omega) I Fr.rfl (fun l hl => by rw [if_neg (fun q => by omega)])
/-- as hv, gVp, gJp, for any row of lines -/
def hvO (O : Nat → Nat) (q : Nat → Bool) (fp : Nat → Nat) : Nat → Nat → Bool
  | 0, _ => false
  | p + 1, v => hvO O q fp p v || (q (O p) && decide (fp (O p) = v))
theorem hvO_i {O : Nat → Nat} {q : Nat → Bool} {fp : Nat → Nat} : ∀ {p v : Nat}, hvO O q fp p v = true ↔ ∃ i, i < p ∧ q (O i) = true ∧ fp (O i) = v
  | 0, v => by simp [hvO]
  | p + 1, v => by
    rw [hvO, Bool.or_eq_true, hvO_i, Bool.and_eq_true, decide_eq_true_eq]
    constructor
    · rintro (⟨i, h1, h2⟩ | h)
      · exact ⟨i, by omega, h2⟩
      · exact ⟨p, by omega, h⟩
    · rintro ⟨i, h1, h2⟩
      by_cases hip : i = p
      · subst hip; exact Or.inr h2
      · exact Or.inl ⟨i, by omega, h2⟩
def gVO (O : Nat → Nat) (q : Nat → Bool) (fp : Nat → Nat) (b p v : Nat) : Bool := decide (v = fp b) || hvO O q fp p v
def gJO (O : Nat → Nat) (n : Nat) (q : Nat → Bool) (fp : Nat → Nat) (b p : Nat) : Nat := cnt (fun v => hvO O q fp p v && decide (v ≠ fp b)) n
theorem gVO_b (O : Nat → Nat) (q : Nat → Bool) (fp : Nat → Nat) (b p : Nat) : gVO O q fp b p (fp b) = true := by unfold gVO; simp
theorem gVO_s (O : Nat → Nat) (q : Nat → Bool) (fp : Nat → Nat) (b p v : Nat) : gVO O q fp b (p + 1) v = (gVO O q fp b p v || (q (O p) && decide (fp (O p) = v))) := by
  unfold gVO; rw [hvO, Bool.or_assoc]
theorem joinO_same {O : Nat → Nat} {n : Nat} {q : Nat → Bool} {fp : Nat → Nat} {b p : Nat} (h : q (O p) = false ∨ gVO O q fp b p (fp (O p)) = true) : (∀ v, gVO O q fp b (p + 1) v = gVO O q fp b p v) ∧ gJO O n q fp b (p + 1) = gJO O n q fp b p := by
  have one : ∀ v, gVO O q fp b (p + 1) v = gVO O q fp b p v := by
    intro v
    rw [gVO_s]
    cases hq : q (O p) with
    | false => simp
    | true =>
      rw [hq] at h
      by_cases hv : fp (O p) = v
      · rw [hv] at h; simp at h; rw [h]; rfl
      · simp [hv]
  refine ⟨one, cnt_congr (fun v _ => ?_)⟩
  by_cases hvb : v = fp b
  · simp [hvb]
  · have := one v
    unfold gVO at this
    simp only [hvb, decide_false, Bool.false_or] at this
    rw [this]
theorem joinO_more {O : Nat → Nat} {n : Nat} {q : Nat → Bool} {fp : Nat → Nat} {b p : Nat} (hq : q (O p) = true) (hn : gVO O q fp b p (fp (O p)) = false) (hl : fp (O p) < n) : gJO O n q fp b (p + 1) = gJO O n q fp b p + 1 := by
  unfold gVO at hn
  rw [Bool.or_eq_false_iff, decide_eq_false_iff_not] at hn
  refine cnt_add hl ?_ ?_ (fun v hne => ?_)
  · rw [hn.2]; rfl
  · rw [hvO, hq]; simp [hn.1]
  · rw [hvO, hq]
    have : ¬ fp (O p) = v := fun q => hne q.symm
    simp [this]
theorem nite2 {x y u v : Nat} (hx : x < 2147483648) (hy : y < 2147483648) : (if nI x = nI y then nI u else nI v) = nI (if x = y then u else v) := by
  by_cases h : x = y
  · rw [if_pos h, if_pos (by rw [h])]
  · rw [if_neg h, if_neg (fun q => h ((neq hx hy).mp q))]
/-- labels of threads while line gO k joins, p of the lines ahead gone through from the last one on -/
def MJn (I : Nat → Nat → Int32) (M : Nat) (a : Lg) (k : Nat) (q : Nat → Bool) (fp t : Nat → Nat) (b p : Nat) : Prop := (∀ x, x < gn a → gR a x < k → I (M + 10) x = nI (if gVO (fun i => gO a (k - 1 - i)) q fp b p (fp x) = true then t b else t x)) ∧ I (M + 10) (gO a k) = nI (t b) ∧ (∀ x, x < gn a → k < gR a x → I (M + 10) x = -1) ∧ I (M + 11) (gO a k) = nI (gJO (fun i => gO a (k - 1 - i)) (gn a) q fp b p)
theorem m_joins {k b : Nat} {fp t : Nat → Nat} (hS : MoS S R M) (hr : M + 1 ≤ r ∧ r ≤ M + 2) (hI : RowI (I r) a) (hB : LgB a) (hW : WfF a) (hO : MOrd I M a) (hSc : MSco I M a) (hk : k < gn a) (hA : gA a (gs a 1) (gO a k) = some b) (hC : gC a (gO a k) (gk a) = none) (hA9 : I (M + 9) (gO a k) = nI b) (hfp : ∀ x, x < gn a → gR a x < k → fp x < k) (ht : ∀ x, x < gn a → gR a x < k → t x < 30) (htf : ∀ x y, x < gn a → y < gn a → gR a x < k → gR a y < k → (t x = t y ↔ fp x = fp y)) (hJ : MJn I M a k (gQ a (gs a 1) (gO a k)) fp t b 0) (hp : ∀ I', Fr (M + 10) (M + 11) I I' → (∀ j, j ≠ gO a k → I' (M + 11) j = I (M + 11) j) → MJn I' M a k (gQ a (gs a 1) (gO a k)) fp t b k → post none (S, I', R)) : sp_X5_joins [.inr M, .inr r, .inl (nI (gO a k))] (S, I, R) post := by
  obtain ⟨⟨m0, m1, m2, m3, m4, m5, m6, m7, m8, m9, m10, m11, m12, m13, m14⟩, n0, n1, n2, n4, n6, n7, n8, n9, n10, n11, n12, n13, n15, n18⟩ := id hS
  have hSr : S[r]? = some (1, 227) := by rcases (by omega : r = M + 1 ∨ r = M + 2) with h | h <;> (rw [h]; assumption)
  have bn := hB.n
  have bs := hB.s
  have hl := gO_lt (a := a) hk
  have hRk := gR_gO (a := a) hk
  have hb := gA_i hB hl hA
  have hbr : gR a b < k := by have := (gR_E hb.1 hl).mpr hb.2; omega
  have bsb := gSc_b hB b hl
  have bfb := hfp b hb.1 hbr
  have tb := ht b hb.1 hbr
  have hBe : gBest a (gO a k) = some b ∧ ((gs a 1 : Nat) : Int) ≤ gSc a (gO a k) b := by
    unfold gA at hA
    rw [hC] at hA
    simp only at hA
    cases hbb : gBest a (gO a k) with
    | none => rw [hbb] at hA; cases hA
    | some b' =>
      rw [hbb] at hA
      simp only at hA
      by_cases h : (gs a 1 : Int) ≤ gSc a (gO a k) b'
      · rw [if_pos h] at hA; cases hA; exact ⟨rfl, h⟩
      · rw [if_neg h] at hA; cases hA
  have e8 : I (M + 8) (30 * gO a k + b) = zI (gSc a (gO a k) b) := by rw [hSc _ b hl hb.1, if_pos hb.2]
  have l35 : ∀ p, p ≤ k → ∀ I' (o o2 : Option am_V), Fr (M + 10) (M + 11) I I' → (∀ j, j ≠ gO a k → I' (M + 11) j = I (M + 11) j) → MJn I' M a k (gQ a (gs a 1) (gO a k)) fp t b p → am_OK h_X5_joins post 35 [some (.inr M), some (.inr r), some (.inl (nI (gO a k))), some (.inl (nI b)), some (.inl (zI (gSc a (gO a k) b - (gs a 7 : Int)))), some (.inl (nI (k - p) - 1)), o, o2] (S, I', R) := by
    refine dn k ?_ ?_
    · intro I' o o2 hf h11 hJ
      apply am_fold; rw [h_X5_joins_35]
      simp only [↓ap_cc, ↓ap_const, ↓ap_iload, ↓ap_aload, ↓ap_istore, ↓ap_astore, ↓ap_iinc, ↓ap_bin, ↓ap_idiv, ↓ap_i2c, ↓ap_dup, ↓ap_dup2, ↓ap_nn, ↓ap_ic, ↓ap_if, ↓ap_sw, ↓ap_head, ↓ap_getI, ↓ap_getR, ↓ap_putI, ↓ap_putN, ↓ap_putR, ↓ap_iald, ↓ap_cald, ↓ap_iast, ↓ap_cast, ↓ap_aald, ↓ap_aast, ↓ap_alen, ↓ap_stat, ↓ap_pop, ↓ap_mm, ↓ap_copy, ↓ap_ret, ↓ap_iret, ↓ap_zret, ↓ap_aret, ↓ap_retA, ↓ap_new, ↓ap_newa, ↓ap_callV, ↓ap_callS, ↓ap_callI, am_in, List.map_cons, List.map_nil, List.getElem?_cons_zero, List.getElem?_cons_succ, List.set_cons_zero, List.set_cons_succ, List.take_succ_cons, List.take_zero, List.drop_succ_cons, List.drop_zero, List.reverse_cons, List.reverse_nil, List.nil_append, List.cons_append, List.append_nil, List.length_cons, List.length_nil, List.replicate_succ, List.replicate_zero, Option.toList_some, Option.toList_none, true_and, and_true, Option.some.injEq, exists_eq_left', am_wI_mk, am_wA_mk, am_wR_mk, Nat.reduceAdd, Nat.reduceSub, Nat.reduceLeDiff, Nat.zero_add, Nat.le_refl, not_true_eq_false, not_false_eq_true, forall_const, false_implies, true_implies, implies_true, and_self, Prod.mk.injEq, eq_self, true_or, or_true, false_and, and_false, or_false, false_or, Nat.reduceEqDiff, ↓a_X5_joins_159, ↓a_X5_joins_153, ↓a_X5_joins_102, ↓a_X5_joins_101, ↓a_X5_joins_35, ↓a_X5_joins_0, hSr, arr1 hSr, m0, m1, m2, m3, m4, m5, m6, m7, m8, m9, m10, m11, m12, m13, m14, n0, n1, n2, n4, n6, n7, n8, n9, n10, n11, n12, n13, n15, n18, arr1 m1, arr1 m2, arr1 m3, arr1 m4, arr1 m5, arr1 m6, arr1 m7, arr1 m8, arr1 m9, arr1 m10, arr1 m11, arr1 m12, arr1 m13, arr1 m14, Nat.sub_self, n0m1, m1lt]
      exact hp I' hf h11 hJ
    · intro p hpk ih I' o o2 hf h11 hJ
      have hO' := hO.fr hf (by omega)
      have hSc' := hSc.fr hf (by omega)
      have hI' := rowfr hI hf (by omega)
      have he := gO_lt (a := a) (k := k - 1 - p) (by omega)
      have hRe := gR_gO (a := a) (k := k - 1 - p) (by omega)
      have hE : gE a (gO a (k - 1 - p)) (gO a k) := gO_srt (by omega) hk
      have bse := gSc_b hB (gO a (k - 1 - p)) hl
      have bfe := hfp _ he (by omega)
      have te := ht _ he (by omega)
      have n1 : nI (k - p) - 1 = nI (k - 1 - p) := by
        rw [npd (by omega)]; congr 1; omega
      have n2 : nI (k - (p + 1)) - 1 = nI (k - 1 - p) - 1 := by congr 2; omega
      have e8' : I' (M + 8) (30 * gO a k + gO a (k - 1 - p)) = zI (gSc a (gO a k) (gO a (k - 1 - p))) := by rw [hSc' _ _ hl he, if_pos hE]
      have same : (gQ a (gs a 1) (gO a k) (gO a (k - 1 - p)) = false ∨ gVO (fun i => gO a (k - 1 - i)) (gQ a (gs a 1) (gO a k)) fp b p (fp (gO a (k - 1 - p))) = true) → ∀ o o2 : Option am_V, am_OK h_X5_joins post 35 [some (.inr M), some (.inr r), some (.inl (nI (gO a k))), some (.inl (nI b)), some (.inl (zI (gSc a (gO a k) b - (gs a 7 : Int)))), some (.inl (nI (k - 1 - p) - 1)), o, o2] (S, I', R) := by
        intro h o o2
        have js := joinO_same (O := fun i => gO a (k - 1 - i)) (n := gn a) h
        have eV := funext js.1
        have := ih I' o o2 hf h11 (by unfold MJn at hJ ⊢; rw [eV, js.2]; exact hJ)
        rw [n2] at this
        exact this
      -- what the condition says
      have qe : gQ a (gs a 1) (gO a k) (gO a (k - 1 - p)) = ((gMay a (gO a k) (gO a (k - 1 - p)) && decide ((gs a 1 : Int) ≤ gSc a (gO a k) (gO a (k - 1 - p)))) && (decide (gSc a (gO a k) b - (gs a 7 : Int) ≤ gSc a (gO a k) (gO a (k - 1 - p))) && (decide (gL a 1 b ≠ gL a 1 (gO a (k - 1 - p))) && ((gP a (gO a k)).testBit (gL a 1 b) && (gP a (gO a k)).testBit (gL a 1 (gO a (k - 1 - p))))))) := by
        unfold gQ gRv
        rw [hBe.1]
        simp only
        have dne : decide (gL a 1 (gO a (k - 1 - p)) ≠ gL a 1 b) = decide (gL a 1 b ≠ gL a 1 (gO a (k - 1 - p))) := decide_eq_decide.mpr ⟨fun h q => h q.symm, fun h q => h q.symm⟩
        rw [dne]
        generalize (gP a (gO a k)).testBit (gL a 1 b) = z1
        generalize gMay a (gO a k) (gO a (k - 1 - p)) = z2
        generalize decide (gSc a (gO a k) b - (gs a 7 : Int) ≤ gSc a (gO a k) (gO a (k - 1 - p))) = z3
        generalize (gP a (gO a k)).testBit (gL a 1 (gO a (k - 1 - p))) = z4
        generalize decide (gL a 1 b ≠ gL a 1 (gO a (k - 1 - p))) = z5
        generalize decide ((gs a 1 : Int) ≤ gSc a (gO a k) (gO a (k - 1 - p))) = z6
        cases z1 <;> cases z2 <;> cases z3 <;> cases z4 <;> cases z5 <;> cases z6 <;> rfl
      have no : gQ a (gs a 1) (gO a k) (gO a (k - 1 - p)) = false → ∀ o2 : Option am_V, t_X5_joins_102 [some (.inr M), some (.inr r), some (.inl (nI (gO a k))), some (.inl (nI b)), some (.inl (zI (gSc a (gO a k) b - (gs a 7 : Int)))), some (.inl (nI (k - 1 - p))), some (.inl (nI (gO a (k - 1 - p)))), o2] [.inl 0] (S, I', R) (am_OK h_X5_joins post) post := by
        intro h o2
        simp only [↓a_X5_joins_102]
        simp only [↓ap_cc, ↓ap_const, ↓ap_iload, ↓ap_aload, ↓ap_istore, ↓ap_astore, ↓ap_iinc, ↓ap_bin, ↓ap_idiv, ↓ap_i2c, ↓ap_dup, ↓ap_dup2, ↓ap_nn, ↓ap_ic, ↓ap_if, ↓ap_sw, ↓ap_head, ↓ap_getI, ↓ap_getR, ↓ap_putI, ↓ap_putN, ↓ap_putR, ↓ap_iald, ↓ap_cald, ↓ap_iast, ↓ap_cast, ↓ap_aald, ↓ap_aast, ↓ap_alen, ↓ap_stat, ↓ap_pop, ↓ap_mm, ↓ap_copy, ↓ap_ret, ↓ap_iret, ↓ap_zret, ↓ap_aret, ↓ap_retA, ↓ap_new, ↓ap_newa, ↓ap_callV, ↓ap_callS, ↓ap_callI, am_in, List.map_cons, List.map_nil, List.getElem?_cons_zero, List.getElem?_cons_succ, List.set_cons_zero, List.set_cons_succ, List.take_succ_cons, List.take_zero, List.drop_succ_cons, List.drop_zero, List.reverse_cons, List.reverse_nil, List.nil_append, List.cons_append, List.append_nil, List.length_cons, List.length_nil, List.replicate_succ, List.replicate_zero, Option.toList_some, Option.toList_none, true_and, and_true, Option.some.injEq, exists_eq_left', am_wI_mk, am_wA_mk, am_wR_mk, Nat.reduceAdd, Nat.reduceSub, Nat.reduceLeDiff, Nat.zero_add, Nat.le_refl, not_true_eq_false, not_false_eq_true, forall_const, false_implies, true_implies, implies_true, and_self, Prod.mk.injEq, eq_self, true_or, or_true, false_and, and_false, or_false, false_or, Nat.reduceEqDiff, ↓a_X5_joins_153, hSr, arr1 hSr, m0, m1, m2, m3, m4, m5, m6, m7, m8, m9, m10, m11, m12, m13, m14, n0, n1, n2, n4, n6, n7, n8, n9, n10, n11, n12, n13, n15, n18, arr1 m1, arr1 m2, arr1 m3, arr1 m4, arr1 m5, arr1 m6, arr1 m7, arr1 m8, arr1 m9, arr1 m10, arr1 m11, arr1 m12, arr1 m13, arr1 m14]
        try simp (disch := omega) only [nm1, nm1', nsub1, np1, npd, nadd, n0m1, m1lt, nlt0, nge0, ngt0, nle0, nlt, nle, neq, neq0, m1n, m4n, vpn, vcl, ne_eq, bI_0, bI_1, bI_01, lit01, lit00, oI_s, oI_n, true_and, and_true, not_true_eq_false, not_false_eq_true, true_implies, false_implies, and_self, implies_true, forall_const, Bool.not_eq_false, Bool.not_eq_true, iu_s, iu_k1, iu_j1, ia_s1, ia_k1, lt2, lt3, lt5, lt6, lt7, lt8, lt9, lt10, lt11, lt12, lt15, lt16, lt17, lt20, lt30, lt32, lt48, lt57, lt71, lt80, lt97, lt98, lt108, lt110, lt126, lt191, lt200, lt227, lt681, lt65535, lt100000, decide_eq_true_eq, decide_eq_false_iff_not, Nat.le_refl, true_or, or_true, eq_self]
        exact same (Or.inl h) _ _
      apply am_fold; rw [h_X5_joins_35]
      simp only [↓ap_cc, ↓ap_const, ↓ap_iload, ↓ap_aload, ↓ap_istore, ↓ap_astore, ↓ap_iinc, ↓ap_bin, ↓ap_idiv, ↓ap_i2c, ↓ap_dup, ↓ap_dup2, ↓ap_nn, ↓ap_ic, ↓ap_if, ↓ap_sw, ↓ap_head, ↓ap_getI, ↓ap_getR, ↓ap_putI, ↓ap_putN, ↓ap_putR, ↓ap_iald, ↓ap_cald, ↓ap_iast, ↓ap_cast, ↓ap_aald, ↓ap_aast, ↓ap_alen, ↓ap_stat, ↓ap_pop, ↓ap_mm, ↓ap_copy, ↓ap_ret, ↓ap_iret, ↓ap_zret, ↓ap_aret, ↓ap_retA, ↓ap_new, ↓ap_newa, ↓ap_callV, ↓ap_callS, ↓ap_callI, am_in, List.map_cons, List.map_nil, List.getElem?_cons_zero, List.getElem?_cons_succ, List.set_cons_zero, List.set_cons_succ, List.take_succ_cons, List.take_zero, List.drop_succ_cons, List.drop_zero, List.reverse_cons, List.reverse_nil, List.nil_append, List.cons_append, List.append_nil, List.length_cons, List.length_nil, List.replicate_succ, List.replicate_zero, Option.toList_some, Option.toList_none, true_and, and_true, Option.some.injEq, exists_eq_left', am_wI_mk, am_wA_mk, am_wR_mk, Nat.reduceAdd, Nat.reduceSub, Nat.reduceLeDiff, Nat.zero_add, Nat.le_refl, not_true_eq_false, not_false_eq_true, forall_const, false_implies, true_implies, implies_true, and_self, Prod.mk.injEq, eq_self, true_or, or_true, false_and, and_false, or_false, false_or, Nat.reduceEqDiff, ↓a_X5_joins_35, ↓a_X5_joins_101, hSr, arr1 hSr, m0, m1, m2, m3, m4, m5, m6, m7, m8, m9, m10, m11, m12, m13, m14, n0, n1, n2, n4, n6, n7, n8, n9, n10, n11, n12, n13, n15, n18, arr1 m1, arr1 m2, arr1 m3, arr1 m4, arr1 m5, arr1 m6, arr1 m7, arr1 m8, arr1 m9, arr1 m10, arr1 m11, arr1 m12, arr1 m13, arr1 m14, n1]
      try simp (disch := omega) only [nm1, nm1', nsub1, np1, npd, nadd, n0m1, m1lt, nlt0, nge0, ngt0, nle0, nlt, nle, neq, neq0, m1n, m4n, vpn, vcl, ne_eq, bI_0, bI_1, bI_01, lit01, lit00, oI_s, oI_n, true_and, and_true, not_true_eq_false, not_false_eq_true, true_implies, false_implies, and_self, implies_true, forall_const, Bool.not_eq_false, Bool.not_eq_true, iu_s, iu_k1, iu_j1, ia_s1, ia_k1, lt2, lt3, lt5, lt6, lt7, lt8, lt9, lt10, lt11, lt12, lt15, lt16, lt17, lt20, lt30, lt32, lt48, lt57, lt71, lt80, lt97, lt98, lt108, lt110, lt126, lt191, lt200, lt227, lt681, lt65535, lt100000, decide_eq_true_eq, decide_eq_false_iff_not, Nat.le_refl, true_or, or_true, eq_self, hO'.1]
      refine ⟨fun h => no ?_ _, fun h => ?_⟩
      · rw [qe, ← h]; simp
      rw [← oI_n (-4)]
      refine m_might hS hr hI' hB hW hO' hSc' hl he (fun x h => by cases h) ?_
      simp only [↓ap_cc, ↓ap_const, ↓ap_iload, ↓ap_aload, ↓ap_istore, ↓ap_astore, ↓ap_iinc, ↓ap_bin, ↓ap_idiv, ↓ap_i2c, ↓ap_dup, ↓ap_dup2, ↓ap_nn, ↓ap_ic, ↓ap_if, ↓ap_sw, ↓ap_head, ↓ap_getI, ↓ap_getR, ↓ap_putI, ↓ap_putN, ↓ap_putR, ↓ap_iald, ↓ap_cald, ↓ap_iast, ↓ap_cast, ↓ap_aald, ↓ap_aast, ↓ap_alen, ↓ap_stat, ↓ap_pop, ↓ap_mm, ↓ap_copy, ↓ap_ret, ↓ap_iret, ↓ap_zret, ↓ap_aret, ↓ap_retA, ↓ap_new, ↓ap_newa, ↓ap_callV, ↓ap_callS, ↓ap_callI, am_in, List.map_cons, List.map_nil, List.getElem?_cons_zero, List.getElem?_cons_succ, List.set_cons_zero, List.set_cons_succ, List.take_succ_cons, List.take_zero, List.drop_succ_cons, List.drop_zero, List.reverse_cons, List.reverse_nil, List.nil_append, List.cons_append, List.append_nil, List.length_cons, List.length_nil, List.replicate_succ, List.replicate_zero, Option.toList_some, Option.toList_none, true_and, and_true, Option.some.injEq, exists_eq_left', am_wI_mk, am_wA_mk, am_wR_mk, Nat.reduceAdd, Nat.reduceSub, Nat.reduceLeDiff, Nat.zero_add, Nat.le_refl, not_true_eq_false, not_false_eq_true, forall_const, false_implies, true_implies, implies_true, and_self, Prod.mk.injEq, eq_self, true_or, or_true, false_and, and_false, or_false, false_or, Nat.reduceEqDiff, ↓a_X5_joins_35, ↓a_X5_joins_101, hSr, arr1 hSr, m0, m1, m2, m3, m4, m5, m6, m7, m8, m9, m10, m11, m12, m13, m14, n0, n1, n2, n4, n6, n7, n8, n9, n10, n11, n12, n13, n15, n18, arr1 m1, arr1 m2, arr1 m3, arr1 m4, arr1 m5, arr1 m6, arr1 m7, arr1 m8, arr1 m9, arr1 m10, arr1 m11, arr1 m12, arr1 m13, arr1 m14]
      simp (disch := omega) only [bI_0, vpn, vcl, lt30, nmul, nadd, e8', Bool.not_eq_false, true_and]
      rw [gMayo_none, zlt (by omega) (by omega) (by omega) (by omega)]
      refine ⟨fun h2 => no ?_ _, fun h2 => ⟨fun h3 => no ?_ _, fun h3 => m_speaksToBoth hS hr hI' hB hO' hl hb.1 he ?_⟩⟩
      · rw [qe, h2]; rfl
      · rw [qe, decide_eq_false (p := gSc a (gO a k) b - (gs a 7 : Int) ≤ _) (by omega)]; simp
      simp only [↓ap_cc, ↓ap_const, ↓ap_iload, ↓ap_aload, ↓ap_istore, ↓ap_astore, ↓ap_iinc, ↓ap_bin, ↓ap_idiv, ↓ap_i2c, ↓ap_dup, ↓ap_dup2, ↓ap_nn, ↓ap_ic, ↓ap_if, ↓ap_sw, ↓ap_head, ↓ap_getI, ↓ap_getR, ↓ap_putI, ↓ap_putN, ↓ap_putR, ↓ap_iald, ↓ap_cald, ↓ap_iast, ↓ap_cast, ↓ap_aald, ↓ap_aast, ↓ap_alen, ↓ap_stat, ↓ap_pop, ↓ap_mm, ↓ap_copy, ↓ap_ret, ↓ap_iret, ↓ap_zret, ↓ap_aret, ↓ap_retA, ↓ap_new, ↓ap_newa, ↓ap_callV, ↓ap_callS, ↓ap_callI, am_in, List.map_cons, List.map_nil, List.getElem?_cons_zero, List.getElem?_cons_succ, List.set_cons_zero, List.set_cons_succ, List.take_succ_cons, List.take_zero, List.drop_succ_cons, List.drop_zero, List.reverse_cons, List.reverse_nil, List.nil_append, List.cons_append, List.append_nil, List.length_cons, List.length_nil, List.replicate_succ, List.replicate_zero, Option.toList_some, Option.toList_none, true_and, and_true, Option.some.injEq, exists_eq_left', am_wI_mk, am_wA_mk, am_wR_mk, Nat.reduceAdd, Nat.reduceSub, Nat.reduceLeDiff, Nat.zero_add, Nat.le_refl, not_true_eq_false, not_false_eq_true, forall_const, false_implies, true_implies, implies_true, and_self, Prod.mk.injEq, eq_self, true_or, or_true, false_and, and_false, or_false, false_or, Nat.reduceEqDiff, ↓a_X5_joins_35, ↓a_X5_joins_101, hSr, arr1 hSr, m0, m1, m2, m3, m4, m5, m6, m7, m8, m9, m10, m11, m12, m13, m14, n0, n1, n2, n4, n6, n7, n8, n9, n10, n11, n12, n13, n15, n18, arr1 m1, arr1 m2, arr1 m3, arr1 m4, arr1 m5, arr1 m6, arr1 m7, arr1 m8, arr1 m9, arr1 m10, arr1 m11, arr1 m12, arr1 m13, arr1 m14]
      try simp (disch := omega) only [nm1, nm1', nsub1, np1, npd, nadd, n0m1, m1lt, nlt0, nge0, ngt0, nle0, nlt, nle, neq, neq0, m1n, m4n, vpn, vcl, ne_eq, bI_0, bI_1, bI_01, lit01, lit00, oI_s, oI_n, true_and, and_true, not_true_eq_false, not_false_eq_true, true_implies, false_implies, and_self, implies_true, forall_const, Bool.not_eq_false, Bool.not_eq_true, iu_s, iu_k1, iu_j1, ia_s1, ia_k1, lt2, lt3, lt5, lt6, lt7, lt8, lt9, lt10, lt11, lt12, lt15, lt16, lt17, lt20, lt30, lt32, lt48, lt57, lt71, lt80, lt97, lt98, lt108, lt110, lt126, lt191, lt200, lt227, lt681, lt65535, lt100000, decide_eq_true_eq, decide_eq_false_iff_not, Nat.le_refl, true_or, or_true, eq_self]
      refine ⟨fun h4 => no ?_ _, fun h4 => ?_⟩
      · rw [qe, h4]; simp
      have hq : gQ a (gs a 1) (gO a k) (gO a (k - 1 - p)) = true := by
        rw [qe, h2, h4, decide_eq_true (p := gSc a (gO a k) b - (gs a 7 : Int) ≤ _) (by omega)]; rfl
      simp only [↓a_X5_joins_102]
      simp only [↓ap_cc, ↓ap_const, ↓ap_iload, ↓ap_aload, ↓ap_istore, ↓ap_astore, ↓ap_iinc, ↓ap_bin, ↓ap_idiv, ↓ap_i2c, ↓ap_dup, ↓ap_dup2, ↓ap_nn, ↓ap_ic, ↓ap_if, ↓ap_sw, ↓ap_head, ↓ap_getI, ↓ap_getR, ↓ap_putI, ↓ap_putN, ↓ap_putR, ↓ap_iald, ↓ap_cald, ↓ap_iast, ↓ap_cast, ↓ap_aald, ↓ap_aast, ↓ap_alen, ↓ap_stat, ↓ap_pop, ↓ap_mm, ↓ap_copy, ↓ap_ret, ↓ap_iret, ↓ap_zret, ↓ap_aret, ↓ap_retA, ↓ap_new, ↓ap_newa, ↓ap_callV, ↓ap_callS, ↓ap_callI, am_in, List.map_cons, List.map_nil, List.getElem?_cons_zero, List.getElem?_cons_succ, List.set_cons_zero, List.set_cons_succ, List.take_succ_cons, List.take_zero, List.drop_succ_cons, List.drop_zero, List.reverse_cons, List.reverse_nil, List.nil_append, List.cons_append, List.append_nil, List.length_cons, List.length_nil, List.replicate_succ, List.replicate_zero, Option.toList_some, Option.toList_none, true_and, and_true, Option.some.injEq, exists_eq_left', am_wI_mk, am_wA_mk, am_wR_mk, Nat.reduceAdd, Nat.reduceSub, Nat.reduceLeDiff, Nat.zero_add, Nat.le_refl, not_true_eq_false, not_false_eq_true, forall_const, false_implies, true_implies, implies_true, and_self, Prod.mk.injEq, eq_self, true_or, or_true, false_and, and_false, or_false, false_or, Nat.reduceEqDiff, ↓a_X5_joins_153, hSr, arr1 hSr, m0, m1, m2, m3, m4, m5, m6, m7, m8, m9, m10, m11, m12, m13, m14, n0, n1, n2, n4, n6, n7, n8, n9, n10, n11, n12, n13, n15, n18, arr1 m1, arr1 m2, arr1 m3, arr1 m4, arr1 m5, arr1 m6, arr1 m7, arr1 m8, arr1 m9, arr1 m10, arr1 m11, arr1 m12, arr1 m13, arr1 m14]
      try simp (disch := omega) only [nm1, nm1', nsub1, np1, npd, nadd, n0m1, m1lt, nlt0, nge0, ngt0, nle0, nlt, nle, neq, neq0, m1n, m4n, vpn, vcl, ne_eq, bI_0, bI_1, bI_01, lit01, lit00, oI_s, oI_n, true_and, and_true, not_true_eq_false, not_false_eq_true, true_implies, false_implies, and_self, implies_true, forall_const, Bool.not_eq_false, Bool.not_eq_true, iu_s, iu_k1, iu_j1, ia_s1, ia_k1, lt2, lt3, lt5, lt6, lt7, lt8, lt9, lt10, lt11, lt12, lt15, lt16, lt17, lt20, lt30, lt32, lt48, lt57, lt71, lt80, lt97, lt98, lt108, lt110, lt126, lt191, lt200, lt227, lt681, lt65535, lt100000, decide_eq_true_eq, decide_eq_false_iff_not, Nat.le_refl, true_or, or_true, eq_self, hJ.2.1, hJ.1]
      refine ⟨fun q => absurd q (by decide), fun _ => ?_⟩
      by_cases hV : gVO (fun i => gO a (k - 1 - i)) (gQ a (gs a 1) (gO a k)) fp b p (fp (gO a (k - 1 - p))) = true
      · rw [if_pos hV]; exact ⟨fun _ => same (Or.inr hV) _ _, fun h => absurd rfl h⟩
      · rw [if_neg hV]
        have hV' : gVO (fun i => gO a (k - 1 - i)) (gQ a (gs a 1) (gO a k)) fp b p (fp (gO a (k - 1 - p))) = false := by simpa using hV
        have tne : t (gO a (k - 1 - p)) ≠ t b := fun q => hV (by
          rw [(htf _ b he hb.1 (by omega) hbr).mp q]; exact gVO_b _ _ _ _ _)
        refine ⟨fun h => absurd ((neq (by omega) (by omega)).mp h) tne, fun _ => m_unites hS hr hI' hB (fun I'' hf'' hu => ?_)⟩
        simp only [↓ap_cc, ↓ap_const, ↓ap_iload, ↓ap_aload, ↓ap_istore, ↓ap_astore, ↓ap_iinc, ↓ap_bin, ↓ap_idiv, ↓ap_i2c, ↓ap_dup, ↓ap_dup2, ↓ap_nn, ↓ap_ic, ↓ap_if, ↓ap_sw, ↓ap_head, ↓ap_getI, ↓ap_getR, ↓ap_putI, ↓ap_putN, ↓ap_putR, ↓ap_iald, ↓ap_cald, ↓ap_iast, ↓ap_cast, ↓ap_aald, ↓ap_aast, ↓ap_alen, ↓ap_stat, ↓ap_pop, ↓ap_mm, ↓ap_copy, ↓ap_ret, ↓ap_iret, ↓ap_zret, ↓ap_aret, ↓ap_retA, ↓ap_new, ↓ap_newa, ↓ap_callV, ↓ap_callS, ↓ap_callI, am_in, List.map_cons, List.map_nil, List.getElem?_cons_zero, List.getElem?_cons_succ, List.set_cons_zero, List.set_cons_succ, List.take_succ_cons, List.take_zero, List.drop_succ_cons, List.drop_zero, List.reverse_cons, List.reverse_nil, List.nil_append, List.cons_append, List.append_nil, List.length_cons, List.length_nil, List.replicate_succ, List.replicate_zero, Option.toList_some, Option.toList_none, true_and, and_true, Option.some.injEq, exists_eq_left', am_wI_mk, am_wA_mk, am_wR_mk, Nat.reduceAdd, Nat.reduceSub, Nat.reduceLeDiff, Nat.zero_add, Nat.le_refl, not_true_eq_false, not_false_eq_true, forall_const, false_implies, true_implies, implies_true, and_self, Prod.mk.injEq, eq_self, true_or, or_true, false_and, and_false, or_false, false_or, Nat.reduceEqDiff, ↓a_X5_joins_153, hSr, arr1 hSr, m0, m1, m2, m3, m4, m5, m6, m7, m8, m9, m10, m11, m12, m13, m14, n0, n1, n2, n4, n6, n7, n8, n9, n10, n11, n12, n13, n15, n18, arr1 m1, arr1 m2, arr1 m3, arr1 m4, arr1 m5, arr1 m6, arr1 m7, arr1 m8, arr1 m9, arr1 m10, arr1 m11, arr1 m12, arr1 m13, arr1 m14]
        have jm := joinO_more (O := fun i => gO a (k - 1 - i)) (n := gn a) hq hV' (by show fp (gO a (k - 1 - p)) < gn a; omega)
        have e11 : I'' (M + 11) (gO a k) = nI (gJO (fun i => gO a (k - 1 - i)) (gn a) (gQ a (gs a 1) (gO a k)) fp b p) := by rw [hf'' (M + 11) (by omega)]; exact hJ.2.2.2
        have bJ : gJO (fun i => gO a (k - 1 - i)) (gn a) (gQ a (gs a 1) (gO a k)) fp b p ≤ gn a := cnt_le _ _
        have hVs : ∀ v, gVO (fun i => gO a (k - 1 - i)) (gQ a (gs a 1) (gO a k)) fp b (p + 1) v = (gVO (fun i => gO a (k - 1 - i)) (gQ a (gs a 1) (gO a k)) fp b p v || decide (fp (gO a (k - 1 - p)) = v)) := fun v => by rw [gVO_s]; simp only [hq, Bool.true_and]
        try simp (disch := omega) only [nm1, nm1', nsub1, np1, npd, nadd, n0m1, m1lt, nlt0, nge0, ngt0, nle0, nlt, nle, neq, neq0, m1n, m4n, vpn, vcl, ne_eq, bI_0, bI_1, bI_01, lit01, lit00, oI_s, oI_n, true_and, and_true, not_true_eq_false, not_false_eq_true, true_implies, false_implies, and_self, implies_true, forall_const, Bool.not_eq_false, Bool.not_eq_true, iu_s, iu_k1, iu_j1, ia_s1, ia_k1, lt2, lt3, lt5, lt6, lt7, lt8, lt9, lt10, lt11, lt12, lt15, lt16, lt17, lt20, lt30, lt32, lt48, lt57, lt71, lt80, lt97, lt98, lt108, lt110, lt126, lt191, lt200, lt227, lt681, lt65535, lt100000, decide_eq_true_eq, decide_eq_false_iff_not, Nat.le_refl, true_or, or_true, eq_self, e11]
        have := ih (am_u I'' (M + 11) (gO a k) (nI (gJO (fun i => gO a (k - 1 - i)) (gn a) (gQ a (gs a 1) (gO a k)) fp b p + 1))) (some (.inl (nI (gO a (k - 1 - p))))) (some (.inl 1)) ((hf.tr (hf''.wide (by omega) (by omega))).u (by omega) (by omega)) (fun j hj => ?_) ⟨fun x hx hxk => ?_, ?_, fun x hx hxk => ?_, ?_⟩
        · rw [n2] at this; exact this
        · rw [iu_j1 hj, hf'' (M + 11) (by omega)]; exact h11 j hj
        · have tx := ht x hx hxk
          have tf := htf x (gO a (k - 1 - p)) hx he hxk (by omega)
          rw [iu_k1 (by omega), hu x hx, hJ.1 x hx hxk, nite2 (by split <;> omega) (by omega), hVs]
          by_cases hVx : gVO (fun i => gO a (k - 1 - i)) (gQ a (gs a 1) (gO a k)) fp b p (fp x) = true
          · simp only [hVx, if_true, Bool.true_or]
            rw [if_neg (fun q => tne q.symm)]
          · have hVx' : gVO (fun i => gO a (k - 1 - i)) (gQ a (gs a 1) (gO a k)) fp b p (fp x) = false := by simpa using hVx
            simp only [hVx', Bool.false_eq_true, if_false, Bool.false_or, decide_eq_true_eq]
            by_cases hf3 : fp x = fp (gO a (k - 1 - p))
            · rw [if_pos (tf.mpr hf3), if_pos hf3.symm]
            · rw [if_neg (fun q => hf3 (tf.mp q)), if_neg (fun q => hf3 q.symm)]
        · rw [iu_k1 (by omega), hu _ hl, hJ.2.1, if_neg (fun q => tne ((neq (by omega) (by omega)).mp q).symm)]
        · rw [iu_k1 (by omega), hu x hx, hJ.2.2.1 x hx hxk, if_neg (fun q => (m1n (by omega)).mp q.symm)]
        · rw [iu_s, jm]
  refine ⟨Nat.le_of_ble_eq_true rfl, am_fold ?_⟩; rw [h_X5_joins_0]
  simp only [↓ap_cc, ↓ap_const, ↓ap_iload, ↓ap_aload, ↓ap_istore, ↓ap_astore, ↓ap_iinc, ↓ap_bin, ↓ap_idiv, ↓ap_i2c, ↓ap_dup, ↓ap_dup2, ↓ap_nn, ↓ap_ic, ↓ap_if, ↓ap_sw, ↓ap_head, ↓ap_getI, ↓ap_getR, ↓ap_putI, ↓ap_putN, ↓ap_putR, ↓ap_iald, ↓ap_cald, ↓ap_iast, ↓ap_cast, ↓ap_aald, ↓ap_aast, ↓ap_alen, ↓ap_stat, ↓ap_pop, ↓ap_mm, ↓ap_copy, ↓ap_ret, ↓ap_iret, ↓ap_zret, ↓ap_aret, ↓ap_retA, ↓ap_new, ↓ap_newa, ↓ap_callV, ↓ap_callS, ↓ap_callI, am_in, List.map_cons, List.map_nil, List.getElem?_cons_zero, List.getElem?_cons_succ, List.set_cons_zero, List.set_cons_succ, List.take_succ_cons, List.take_zero, List.drop_succ_cons, List.drop_zero, List.reverse_cons, List.reverse_nil, List.nil_append, List.cons_append, List.append_nil, List.length_cons, List.length_nil, List.replicate_succ, List.replicate_zero, Option.toList_some, Option.toList_none, true_and, and_true, Option.some.injEq, exists_eq_left', am_wI_mk, am_wA_mk, am_wR_mk, Nat.reduceAdd, Nat.reduceSub, Nat.reduceLeDiff, Nat.zero_add, Nat.le_refl, not_true_eq_false, not_false_eq_true, forall_const, false_implies, true_implies, implies_true, and_self, Prod.mk.injEq, eq_self, true_or, or_true, false_and, and_false, or_false, false_or, Nat.reduceEqDiff, ↓a_X5_joins_159, ↓a_X5_joins_153, ↓a_X5_joins_102, ↓a_X5_joins_101, ↓a_X5_joins_35, ↓a_X5_joins_0, hSr, arr1 hSr, m0, m1, m2, m3, m4, m5, m6, m7, m8, m9, m10, m11, m12, m13, m14, n0, n1, n2, n4, n6, n7, n8, n9, n10, n11, n12, n13, n15, n18, arr1 m1, arr1 m2, arr1 m3, arr1 m4, arr1 m5, arr1 m6, arr1 m7, arr1 m8, arr1 m9, arr1 m10, arr1 m11, arr1 m12, arr1 m13, arr1 m14]
  try simp (disch := omega) only [nm1, nm1', nsub1, np1, npd, nadd, n0m1, m1lt, nlt0, nge0, ngt0, nle0, nlt, nle, neq, neq0, m1n, m4n, vpn, vcl, ne_eq, bI_0, bI_1, bI_01, lit01, lit00, oI_s, oI_n, true_and, and_true, not_true_eq_false, not_false_eq_true, true_implies, false_implies, and_self, implies_true, forall_const, Bool.not_eq_false, Bool.not_eq_true, iu_s, iu_k1, iu_j1, ia_s1, ia_k1, lt2, lt3, lt5, lt6, lt7, lt8, lt9, lt10, lt11, lt12, lt15, lt16, lt17, lt20, lt30, lt32, lt48, lt57, lt71, lt80, lt97, lt98, lt108, lt110, lt126, lt191, lt200, lt227, lt681, lt65535, lt100000, decide_eq_true_eq, decide_eq_false_iff_not, Nat.le_refl, true_or, or_true, eq_self, hA9, hO.2.1, lt30]
  simp (disch := omega) only [nmul, nadd, vpn, vcl, e8, hI.s, true_and]
  rw [nz (gs a 7), zsub, hRk]
  have := l35 0 (by omega) I none none Fr.rfl (fun _ _ => rfl) hJ
  rw [Nat.sub_zero, npd (by omega)] at this
  exact this
