-- needs: 10 11 12 13 14 20 21 22 23 30 31 32 33 34 35 36 50 51 52
variable {S : List (Nat × Nat)} {R : Nat → Nat → Option Nat} {I : Nat → Nat → Int32} {M r : Nat} {a : Lg} {post : am_R}
def MTh (I : Nat → Nat → Int32) (M : Nat) (a : Lg) (th k : Nat) (t : Nat → Nat) : Prop := (∀ x, x < gn a → gR a x < k → I (M + 9) x = oI (-4) (gA a th x) ∧ I (M + 10) x = nI (t x) ∧ I (M + 11) x = nI ((gSt a th k).2.1 x) ∧ t x < gn a ∧ gR a (t x) < k) ∧ (∀ x y, x < gn a → y < gn a → gR a x < k → gR a y < k → (t x = t y ↔ (gSt a th k).1 x = (gSt a th k).1 y)) ∧ ∀ x, x < gn a → k ≤ gR a x → I (M + 10) x = -1 ∧ I (M + 11) x = 0
def LaidI (I : Nat → Nat → Int32) (M : Nat) (a : Lg) (th : Nat) : Prop := (∀ l, l < gn a → I (M + 9) l = oI (-4) (gA a th l) ∧ I (M + 10) l = nI (gNu a th l) ∧ I (M + 11) l = nI (gJn a th l)) ∧ I M 14 = nI (gTn a th)
/-- one line more: the first loop's body -/
theorem m_oneLine {k : Nat} {t : Nat → Nat} (hS : MoS S R M) (hr : M + 1 ≤ r ∧ r ≤ M + 2) (hI : RowI (I r) a) (hB : LgB a) (hW : WfF a) (hO : MOrd I M a) (hSc : MSco I M a) (hk : k < gn a) (hT : MTh I M a (gs a 1) k t) (hp : ∀ I' t', Fr (M + 9) (M + 11) I I' → MTh I' M a (gs a 1) (k + 1) t' → am_OK h_X5_laysThreads post 32 [some (.inr M), some (.inr r), some (.inl (nI (k + 1))), some (.inl (nI (gO a k)))] (S, I', R)) : ∀ o : Option am_V, am_OK h_X5_laysThreads post 32 [some (.inr M), some (.inr r), some (.inl (nI k)), o] (S, I, R) := by
  intro o
  obtain ⟨⟨m0, m1, m2, m3, m4, m5, m6, m7, m8, m9, m10, m11, m12, m13, m14⟩, n0, n1, n2, n4, n6, n7, n8, n9, n10, n11, n12, n13, n15, n18⟩ := id hS
  have hSr : S[r]? = some (1, 227) := by rcases (by omega : r = M + 1 ∨ r = M + 2) with h | h <;> (rw [h]; assumption)
  have bn := hB.n
  have hl := gO_lt (a := a) hk
  have hRk := gR_gO (a := a) hk
  have hst := gSt_I hB (gs a 1) k (by omega)
  have nl : ∀ x, x < gn a → gR a x < k + 1 → x ≠ gO a k → gR a x < k := fun x hx hxk hne => by
    have : gR a x ≠ k := fun q => hne (gR_inj hx hl (by rw [q, hRk]))
    omega
  have ln : ∀ x, gR a x < k → x ≠ gO a k := fun x hx q => by rw [q, hRk] at hx; omega
  apply am_fold; rw [h_X5_laysThreads_32]
  simp only [↓ap_cc, ↓ap_const, ↓ap_iload, ↓ap_aload, ↓ap_istore, ↓ap_astore, ↓ap_iinc, ↓ap_bin, ↓ap_idiv, ↓ap_i2c, ↓ap_dup, ↓ap_dup2, ↓ap_nn, ↓ap_ic, ↓ap_if, ↓ap_sw, ↓ap_head, ↓ap_getI, ↓ap_getR, ↓ap_putI, ↓ap_putN, ↓ap_putR, ↓ap_iald, ↓ap_cald, ↓ap_iast, ↓ap_cast, ↓ap_aald, ↓ap_aast, ↓ap_alen, ↓ap_stat, ↓ap_pop, ↓ap_mm, ↓ap_copy, ↓ap_ret, ↓ap_iret, ↓ap_zret, ↓ap_aret, ↓ap_retA, ↓ap_new, ↓ap_newa, ↓ap_callV, ↓ap_callS, ↓ap_callI, am_in, List.map_cons, List.map_nil, List.getElem?_cons_zero, List.getElem?_cons_succ, List.set_cons_zero, List.set_cons_succ, List.take_succ_cons, List.take_zero, List.drop_succ_cons, List.drop_zero, List.reverse_cons, List.reverse_nil, List.nil_append, List.cons_append, List.append_nil, List.length_cons, List.length_nil, List.replicate_succ, List.replicate_zero, Option.toList_some, Option.toList_none, true_and, and_true, Option.some.injEq, exists_eq_left', am_wI_mk, am_wA_mk, am_wR_mk, Nat.reduceAdd, Nat.reduceSub, Nat.reduceLeDiff, Nat.zero_add, Nat.le_refl, not_true_eq_false, not_false_eq_true, forall_const, false_implies, true_implies, implies_true, and_self, Prod.mk.injEq, eq_self, true_or, or_true, false_and, and_false, or_false, false_or, Nat.reduceEqDiff, ↓a_X5_laysThreads_32, hSr, arr1 hSr, m0, m1, m2, m3, m4, m5, m6, m7, m8, m9, m10, m11, m12, m13, m14, n0, n1, n2, n4, n6, n7, n8, n9, n10, n11, n12, n13, n15, n18, arr1 m1, arr1 m2, arr1 m3, arr1 m4, arr1 m5, arr1 m6, arr1 m7, arr1 m8, arr1 m9, arr1 m10, arr1 m11, arr1 m12, arr1 m13, arr1 m14]
  try simp (disch := omega) only [nm1, nm1', nsub1, np1, npd, nadd, n0m1, m1lt, nlt0, nge0, ngt0, nle0, nlt, nle, neq, neq0, m1n, m4n, vpn, vcl, ne_eq, bI_0, bI_1, bI_01, lit01, lit00, oI_s, oI_n, true_and, and_true, not_true_eq_false, not_false_eq_true, true_implies, false_implies, and_self, implies_true, forall_const, Bool.not_eq_false, Bool.not_eq_true, iu_s, iu_k1, iu_j1, ia_s1, ia_k1, lt2, lt3, lt5, lt6, lt7, lt8, lt9, lt10, lt11, lt12, lt15, lt16, lt17, lt20, lt30, lt32, lt48, lt57, lt71, lt80, lt97, lt98, lt108, lt110, lt126, lt191, lt200, lt227, lt681, lt65535, lt100000, decide_eq_true_eq, decide_eq_false_iff_not, Nat.le_refl, true_or, or_true, eq_self, hI.n, hO.1]
  refine ⟨fun h => by omega, fun _ => m_answerOf0 hS hr hI hB hW hO hSc hl ?_⟩
  simp only [↓ap_cc, ↓ap_const, ↓ap_iload, ↓ap_aload, ↓ap_istore, ↓ap_astore, ↓ap_iinc, ↓ap_bin, ↓ap_idiv, ↓ap_i2c, ↓ap_dup, ↓ap_dup2, ↓ap_nn, ↓ap_ic, ↓ap_if, ↓ap_sw, ↓ap_head, ↓ap_getI, ↓ap_getR, ↓ap_putI, ↓ap_putN, ↓ap_putR, ↓ap_iald, ↓ap_cald, ↓ap_iast, ↓ap_cast, ↓ap_aald, ↓ap_aast, ↓ap_alen, ↓ap_stat, ↓ap_pop, ↓ap_mm, ↓ap_copy, ↓ap_ret, ↓ap_iret, ↓ap_zret, ↓ap_aret, ↓ap_retA, ↓ap_new, ↓ap_newa, ↓ap_callV, ↓ap_callS, ↓ap_callI, am_in, List.map_cons, List.map_nil, List.getElem?_cons_zero, List.getElem?_cons_succ, List.set_cons_zero, List.set_cons_succ, List.take_succ_cons, List.take_zero, List.drop_succ_cons, List.drop_zero, List.reverse_cons, List.reverse_nil, List.nil_append, List.cons_append, List.append_nil, List.length_cons, List.length_nil, List.replicate_succ, List.replicate_zero, Option.toList_some, Option.toList_none, true_and, and_true, Option.some.injEq, exists_eq_left', am_wI_mk, am_wA_mk, am_wR_mk, Nat.reduceAdd, Nat.reduceSub, Nat.reduceLeDiff, Nat.zero_add, Nat.le_refl, not_true_eq_false, not_false_eq_true, forall_const, false_implies, true_implies, implies_true, and_self, Prod.mk.injEq, eq_self, true_or, or_true, false_and, and_false, or_false, false_or, Nat.reduceEqDiff, ↓a_X5_laysThreads_81, hSr, arr1 hSr, m0, m1, m2, m3, m4, m5, m6, m7, m8, m9, m10, m11, m12, m13, m14, n0, n1, n2, n4, n6, n7, n8, n9, n10, n11, n12, n13, n15, n18, arr1 m1, arr1 m2, arr1 m3, arr1 m4, arr1 m5, arr1 m6, arr1 m7, arr1 m8, arr1 m9, arr1 m10, arr1 m11, arr1 m12, arr1 m13, arr1 m14]
  try simp (disch := omega) only [nm1, nm1', nsub1, np1, npd, nadd, n0m1, m1lt, nlt0, nge0, ngt0, nle0, nlt, nle, neq, neq0, m1n, m4n, vpn, vcl, ne_eq, bI_0, bI_1, bI_01, lit01, lit00, oI_s, oI_n, true_and, and_true, not_true_eq_false, not_false_eq_true, true_implies, false_implies, and_self, implies_true, forall_const, Bool.not_eq_false, Bool.not_eq_true, iu_s, iu_k1, iu_j1, ia_s1, ia_k1, lt2, lt3, lt5, lt6, lt7, lt8, lt9, lt10, lt11, lt12, lt15, lt16, lt17, lt20, lt30, lt32, lt48, lt57, lt71, lt80, lt97, lt98, lt108, lt110, lt126, lt191, lt200, lt227, lt681, lt65535, lt100000, decide_eq_true_eq, decide_eq_false_iff_not, Nat.le_refl, true_or, or_true, eq_self]
  have f9 : Fr (M + 9) (M + 9) I (am_u I (M + 9) (gO a k) (oI (-4) (gA a (gs a 1) (gO a k)))) := Fr.rfl.u (by omega) (by omega)
  cases hA : gA a (gs a 1) (gO a k) with
  | none =>
    rw [hA] at f9
    rw [oI_n] at f9 ⊢
    refine ⟨fun h => absurd rfl h, fun _ => ?_⟩
    simp only [↓a_X5_laysThreads_92]
    simp only [↓ap_cc, ↓ap_const, ↓ap_iload, ↓ap_aload, ↓ap_istore, ↓ap_astore, ↓ap_iinc, ↓ap_bin, ↓ap_idiv, ↓ap_i2c, ↓ap_dup, ↓ap_dup2, ↓ap_nn, ↓ap_ic, ↓ap_if, ↓ap_sw, ↓ap_head, ↓ap_getI, ↓ap_getR, ↓ap_putI, ↓ap_putN, ↓ap_putR, ↓ap_iald, ↓ap_cald, ↓ap_iast, ↓ap_cast, ↓ap_aald, ↓ap_aast, ↓ap_alen, ↓ap_stat, ↓ap_pop, ↓ap_mm, ↓ap_copy, ↓ap_ret, ↓ap_iret, ↓ap_zret, ↓ap_aret, ↓ap_retA, ↓ap_new, ↓ap_newa, ↓ap_callV, ↓ap_callS, ↓ap_callI, am_in, List.map_cons, List.map_nil, List.getElem?_cons_zero, List.getElem?_cons_succ, List.set_cons_zero, List.set_cons_succ, List.take_succ_cons, List.take_zero, List.drop_succ_cons, List.drop_zero, List.reverse_cons, List.reverse_nil, List.nil_append, List.cons_append, List.append_nil, List.length_cons, List.length_nil, List.replicate_succ, List.replicate_zero, Option.toList_some, Option.toList_none, true_and, and_true, Option.some.injEq, exists_eq_left', am_wI_mk, am_wA_mk, am_wR_mk, Nat.reduceAdd, Nat.reduceSub, Nat.reduceLeDiff, Nat.zero_add, Nat.le_refl, not_true_eq_false, not_false_eq_true, forall_const, false_implies, true_implies, implies_true, and_self, Prod.mk.injEq, eq_self, true_or, or_true, false_and, and_false, or_false, false_or, Nat.reduceEqDiff, ↓a_X5_laysThreads_120, hSr, arr1 hSr, m0, m1, m2, m3, m4, m5, m6, m7, m8, m9, m10, m11, m12, m13, m14, n0, n1, n2, n4, n6, n7, n8, n9, n10, n11, n12, n13, n15, n18, arr1 m1, arr1 m2, arr1 m3, arr1 m4, arr1 m5, arr1 m6, arr1 m7, arr1 m8, arr1 m9, arr1 m10, arr1 m11, arr1 m12, arr1 m13, arr1 m14]
    try simp (disch := omega) only [nm1, nm1', nsub1, np1, npd, nadd, n0m1, m1lt, nlt0, nge0, ngt0, nle0, nlt, nle, neq, neq0, m1n, m4n, vpn, vcl, ne_eq, bI_0, bI_1, bI_01, lit01, lit00, oI_s, oI_n, true_and, and_true, not_true_eq_false, not_false_eq_true, true_implies, false_implies, and_self, implies_true, forall_const, Bool.not_eq_false, Bool.not_eq_true, iu_s, iu_k1, iu_j1, ia_s1, ia_k1, lt2, lt3, lt5, lt6, lt7, lt8, lt9, lt10, lt11, lt12, lt15, lt16, lt17, lt20, lt30, lt32, lt48, lt57, lt71, lt80, lt97, lt98, lt108, lt110, lt126, lt191, lt200, lt227, lt681, lt65535, lt100000, decide_eq_true_eq, decide_eq_false_iff_not, Nat.le_refl, true_or, or_true, eq_self]
    have eS := gSt_n hA
    have f1 := (f9.wide (lo' := M + 9) (hi' := M + 11) (by omega) (by omega)).u (k := M + 10) (j := gO a k) (x := nI (gO a k)) (by omega) (by omega)
    refine hp _ (un t (gO a k) (gO a k)) f1 ⟨fun x hx hxk => ?_, fun x y hx hy hxk hyk => ?_, fun x hx hxk => ?_⟩
    · rw [eS]
      by_cases hxl : x = gO a k
      · subst hxl
        try simp (disch := omega) only [nm1, nm1', nsub1, np1, npd, nadd, n0m1, m1lt, nlt0, nge0, ngt0, nle0, nlt, nle, neq, neq0, m1n, m4n, vpn, vcl, ne_eq, bI_0, bI_1, bI_01, lit01, lit00, oI_s, oI_n, true_and, and_true, not_true_eq_false, not_false_eq_true, true_implies, false_implies, and_self, implies_true, forall_const, Bool.not_eq_false, Bool.not_eq_true, iu_s, iu_k1, iu_j1, ia_s1, ia_k1, lt2, lt3, lt5, lt6, lt7, lt8, lt9, lt10, lt11, lt12, lt15, lt16, lt17, lt20, lt30, lt32, lt48, lt57, lt71, lt80, lt97, lt98, lt108, lt110, lt126, lt191, lt200, lt227, lt681, lt65535, lt100000, decide_eq_true_eq, decide_eq_false_iff_not, Nat.le_refl, true_or, or_true, eq_self, un_s]
        rw [hA]
        have := (hT.2.2 _ hl (by omega)).2
        exact ⟨rfl, this, by omega, by omega⟩
      · have h1 := hT.1 x hx (nl x hx hxk hxl)
        try simp (disch := omega) only [nm1, nm1', nsub1, np1, npd, nadd, n0m1, m1lt, nlt0, nge0, ngt0, nle0, nlt, nle, neq, neq0, m1n, m4n, vpn, vcl, ne_eq, bI_0, bI_1, bI_01, lit01, lit00, oI_s, oI_n, true_and, and_true, not_true_eq_false, not_false_eq_true, true_implies, false_implies, and_self, implies_true, forall_const, Bool.not_eq_false, Bool.not_eq_true, iu_s, iu_k1, iu_j1, ia_s1, ia_k1, lt2, lt3, lt5, lt6, lt7, lt8, lt9, lt10, lt11, lt12, lt15, lt16, lt17, lt20, lt30, lt32, lt48, lt57, lt71, lt80, lt97, lt98, lt108, lt110, lt126, lt191, lt200, lt227, lt681, lt65535, lt100000, decide_eq_true_eq, decide_eq_false_iff_not, Nat.le_refl, true_or, or_true, eq_self, un_n hxl, iu_j1 hxl]
        exact ⟨h1.1, h1.2.1, h1.2.2.1, h1.2.2.2.1, by omega⟩
    · rw [eS]
      by_cases hxl : x = gO a k
      · by_cases hyl : y = gO a k
        · rw [hxl, hyl]; simp
        · have hyr := nl y hy hyk hyl
          have h1 := hT.1 y hy hyr
          have h2 := (hst y hy hyr).1
          rw [hxl, un_s, un_n hyl]
          simp only [un_s, un_n hyl]
          have h3 := ln (t y) h1.2.2.2.2
          exact ⟨fun q => absurd q.symm h3, fun q => by omega⟩
      · have hxr := nl x hx hxk hxl
        have h1 := hT.1 x hx hxr
        have h2 := (hst x hx hxr).1
        by_cases hyl : y = gO a k
        · rw [hyl, un_s, un_n hxl]
          simp only [un_s, un_n hxl]
          have h3 := ln (t x) h1.2.2.2.2
          exact ⟨fun q => absurd q h3, fun q => by omega⟩
        · simp only [un_n hxl, un_n hyl]
          exact hT.2.1 x y hx hy hxr (nl y hy hyk hyl)
    · have hxl : x ≠ gO a k := fun q => by rw [q, hRk] at hxk; omega
      have := hT.2.2 x hx (by omega)
      try simp (disch := omega) only [nm1, nm1', nsub1, np1, npd, nadd, n0m1, m1lt, nlt0, nge0, ngt0, nle0, nlt, nle, neq, neq0, m1n, m4n, vpn, vcl, ne_eq, bI_0, bI_1, bI_01, lit01, lit00, oI_s, oI_n, true_and, and_true, not_true_eq_false, not_false_eq_true, true_implies, false_implies, and_self, implies_true, forall_const, Bool.not_eq_false, Bool.not_eq_true, iu_s, iu_k1, iu_j1, ia_s1, ia_k1, lt2, lt3, lt5, lt6, lt7, lt8, lt9, lt10, lt11, lt12, lt15, lt16, lt17, lt20, lt30, lt32, lt48, lt57, lt71, lt80, lt97, lt98, lt108, lt110, lt126, lt191, lt200, lt227, lt681, lt65535, lt100000, decide_eq_true_eq, decide_eq_false_iff_not, Nat.le_refl, true_or, or_true, eq_self, iu_j1 hxl]
      exact this
  | some b =>
    have eS := gSt_b hA
    have hb := gA_i hB hl hA
    have hbr : gR a b < k := by have := (gR_E hb.1 hl).mpr hb.2; omega
    have hTb := hT.1 b hb.1 hbr
    have bne := ln b hbr
    have sb := hst b hb.1 hbr
    have qlt : ∀ e, gQ a (gs a 1) (gO a k) e = true → e < gn a ∧ gR a e < k := fun e he => by
      have := gQ_i he
      refine ⟨this.1, ?_⟩
      have := (gR_E this.1 hl).mpr this.2.1
      omega
    rw [hA] at f9
    rw [oI_s] at f9 ⊢
    refine ⟨fun _ => ?_, fun h => ((m4n (by omega)).mp (Classical.byContradiction h)).elim⟩
    try simp (disch := omega) only [nm1, nm1', nsub1, np1, npd, nadd, n0m1, m1lt, nlt0, nge0, ngt0, nle0, nlt, nle, neq, neq0, m1n, m4n, vpn, vcl, ne_eq, bI_0, bI_1, bI_01, lit01, lit00, oI_s, oI_n, true_and, and_true, not_true_eq_false, not_false_eq_true, true_implies, false_implies, and_self, implies_true, forall_const, Bool.not_eq_false, Bool.not_eq_true, iu_s, iu_k1, iu_j1, ia_s1, ia_k1, lt2, lt3, lt5, lt6, lt7, lt8, lt9, lt10, lt11, lt12, lt15, lt16, lt17, lt20, lt30, lt32, lt48, lt57, lt71, lt80, lt97, lt98, lt108, lt110, lt126, lt191, lt200, lt227, lt681, lt65535, lt100000, decide_eq_true_eq, decide_eq_false_iff_not, Nat.le_refl, true_or, or_true, eq_self, hTb.2.1]
    simp only [↓a_X5_laysThreads_92]
    simp only [↓ap_cc, ↓ap_const, ↓ap_iload, ↓ap_aload, ↓ap_istore, ↓ap_astore, ↓ap_iinc, ↓ap_bin, ↓ap_idiv, ↓ap_i2c, ↓ap_dup, ↓ap_dup2, ↓ap_nn, ↓ap_ic, ↓ap_if, ↓ap_sw, ↓ap_head, ↓ap_getI, ↓ap_getR, ↓ap_putI, ↓ap_putN, ↓ap_putR, ↓ap_iald, ↓ap_cald, ↓ap_iast, ↓ap_cast, ↓ap_aald, ↓ap_aast, ↓ap_alen, ↓ap_stat, ↓ap_pop, ↓ap_mm, ↓ap_copy, ↓ap_ret, ↓ap_iret, ↓ap_zret, ↓ap_aret, ↓ap_retA, ↓ap_new, ↓ap_newa, ↓ap_callV, ↓ap_callS, ↓ap_callI, am_in, List.map_cons, List.map_nil, List.getElem?_cons_zero, List.getElem?_cons_succ, List.set_cons_zero, List.set_cons_succ, List.take_succ_cons, List.take_zero, List.drop_succ_cons, List.drop_zero, List.reverse_cons, List.reverse_nil, List.nil_append, List.cons_append, List.append_nil, List.length_cons, List.length_nil, List.replicate_succ, List.replicate_zero, Option.toList_some, Option.toList_none, true_and, and_true, Option.some.injEq, exists_eq_left', am_wI_mk, am_wA_mk, am_wR_mk, Nat.reduceAdd, Nat.reduceSub, Nat.reduceLeDiff, Nat.zero_add, Nat.le_refl, not_true_eq_false, not_false_eq_true, forall_const, false_implies, true_implies, implies_true, and_self, Prod.mk.injEq, eq_self, true_or, or_true, false_and, and_false, or_false, false_or, Nat.reduceEqDiff, ↓a_X5_laysThreads_120, hSr, arr1 hSr, m0, m1, m2, m3, m4, m5, m6, m7, m8, m9, m10, m11, m12, m13, m14, n0, n1, n2, n4, n6, n7, n8, n9, n10, n11, n12, n13, n15, n18, arr1 m1, arr1 m2, arr1 m3, arr1 m4, arr1 m5, arr1 m6, arr1 m7, arr1 m8, arr1 m9, arr1 m10, arr1 m11, arr1 m12, arr1 m13, arr1 m14]
    try simp (disch := omega) only [nm1, nm1', nsub1, np1, npd, nadd, n0m1, m1lt, nlt0, nge0, ngt0, nle0, nlt, nle, neq, neq0, m1n, m4n, vpn, vcl, ne_eq, bI_0, bI_1, bI_01, lit01, lit00, oI_s, oI_n, true_and, and_true, not_true_eq_false, not_false_eq_true, true_implies, false_implies, and_self, implies_true, forall_const, Bool.not_eq_false, Bool.not_eq_true, iu_s, iu_k1, iu_j1, ia_s1, ia_k1, lt2, lt3, lt5, lt6, lt7, lt8, lt9, lt10, lt11, lt12, lt15, lt16, lt17, lt20, lt30, lt32, lt48, lt57, lt71, lt80, lt97, lt98, lt108, lt110, lt126, lt191, lt200, lt227, lt681, lt65535, lt100000, decide_eq_true_eq, decide_eq_false_iff_not, Nat.le_refl, true_or, or_true, eq_self]
    obtain ⟨I1, hI1⟩ : ∃ I1, am_u (am_u I (M + 9) (gO a k) (nI b)) (M + 10) (gO a k) (nI (t b)) = I1 := ⟨_, rfl⟩
    rw [hI1]
    have f1 : Fr (M + 9) (M + 10) I I1 := by rw [← hI1]; exact (Fr.rfl.u (by omega) (by omega)).u (by omega) (by omega)
    have c9 : I1 (M + 9) (gO a k) = nI b := by rw [← hI1]; try simp (disch := omega) only [nm1, nm1', nsub1, np1, npd, nadd, n0m1, m1lt, nlt0, nge0, ngt0, nle0, nlt, nle, neq, neq0, m1n, m4n, vpn, vcl, ne_eq, bI_0, bI_1, bI_01, lit01, lit00, oI_s, oI_n, true_and, and_true, not_true_eq_false, not_false_eq_true, true_implies, false_implies, and_self, implies_true, forall_const, Bool.not_eq_false, Bool.not_eq_true, iu_s, iu_k1, iu_j1, ia_s1, ia_k1, lt2, lt3, lt5, lt6, lt7, lt8, lt9, lt10, lt11, lt12, lt15, lt16, lt17, lt20, lt30, lt32, lt48, lt57, lt71, lt80, lt97, lt98, lt108, lt110, lt126, lt191, lt200, lt227, lt681, lt65535, lt100000, decide_eq_true_eq, decide_eq_false_iff_not, Nat.le_refl, true_or, or_true, eq_self]
    have c10 : I1 (M + 10) (gO a k) = nI (t b) := by rw [← hI1]; try simp (disch := omega) only [nm1, nm1', nsub1, np1, npd, nadd, n0m1, m1lt, nlt0, nge0, ngt0, nle0, nlt, nle, neq, neq0, m1n, m4n, vpn, vcl, ne_eq, bI_0, bI_1, bI_01, lit01, lit00, oI_s, oI_n, true_and, and_true, not_true_eq_false, not_false_eq_true, true_implies, false_implies, and_self, implies_true, forall_const, Bool.not_eq_false, Bool.not_eq_true, iu_s, iu_k1, iu_j1, ia_s1, ia_k1, lt2, lt3, lt5, lt6, lt7, lt8, lt9, lt10, lt11, lt12, lt15, lt16, lt17, lt20, lt30, lt32, lt48, lt57, lt71, lt80, lt97, lt98, lt108, lt110, lt126, lt191, lt200, lt227, lt681, lt65535, lt100000, decide_eq_true_eq, decide_eq_false_iff_not, Nat.le_refl, true_or, or_true, eq_self]
    have c11 : I1 (M + 11) (gO a k) = 0 := by rw [f1 (M + 11) (by omega)]; exact (hT.2.2 _ hl (by omega)).2
    have o9 : ∀ x, x ≠ gO a k → I1 (M + 9) x = I (M + 9) x := fun x hx => by rw [← hI1]; try simp (disch := omega) only [nm1, nm1', nsub1, np1, npd, nadd, n0m1, m1lt, nlt0, nge0, ngt0, nle0, nlt, nle, neq, neq0, m1n, m4n, vpn, vcl, ne_eq, bI_0, bI_1, bI_01, lit01, lit00, oI_s, oI_n, true_and, and_true, not_true_eq_false, not_false_eq_true, true_implies, false_implies, and_self, implies_true, forall_const, Bool.not_eq_false, Bool.not_eq_true, iu_s, iu_k1, iu_j1, ia_s1, ia_k1, lt2, lt3, lt5, lt6, lt7, lt8, lt9, lt10, lt11, lt12, lt15, lt16, lt17, lt20, lt30, lt32, lt48, lt57, lt71, lt80, lt97, lt98, lt108, lt110, lt126, lt191, lt200, lt227, lt681, lt65535, lt100000, decide_eq_true_eq, decide_eq_false_iff_not, Nat.le_refl, true_or, or_true, eq_self, iu_j1 hx]
    have o10 : ∀ x, x ≠ gO a k → I1 (M + 10) x = I (M + 10) x := fun x hx => by rw [← hI1]; try simp (disch := omega) only [nm1, nm1', nsub1, np1, npd, nadd, n0m1, m1lt, nlt0, nge0, ngt0, nle0, nlt, nle, neq, neq0, m1n, m4n, vpn, vcl, ne_eq, bI_0, bI_1, bI_01, lit01, lit00, oI_s, oI_n, true_and, and_true, not_true_eq_false, not_false_eq_true, true_implies, false_implies, and_self, implies_true, forall_const, Bool.not_eq_false, Bool.not_eq_true, iu_s, iu_k1, iu_j1, ia_s1, ia_k1, lt2, lt3, lt5, lt6, lt7, lt8, lt9, lt10, lt11, lt12, lt15, lt16, lt17, lt20, lt30, lt32, lt48, lt57, lt71, lt80, lt97, lt98, lt108, lt110, lt126, lt191, lt200, lt227, lt681, lt65535, lt100000, decide_eq_true_eq, decide_eq_false_iff_not, Nat.le_refl, true_or, or_true, eq_self, iu_j1 hx]
    have o11 : ∀ x, I1 (M + 11) x = I (M + 11) x := fun x => by rw [f1 (M + 11) (by omega)]
    have hJ0 : MJn I1 M a k (gQ a (gs a 1) (gO a k)) (gSt a (gs a 1) k).1 t b 0 := by
      have e0 : ∀ v, gVO (fun i => gO a (k - 1 - i)) (gQ a (gs a 1) (gO a k)) (gSt a (gs a 1) k).1 b 0 v = decide (v = (gSt a (gs a 1) k).1 b) := fun v => by unfold gVO; rw [hvO, Bool.or_false]
      refine ⟨fun x hx hxk => ?_, c10, fun x hx hxk => ?_, ?_⟩
      · rw [e0, o10 x (ln x hxk), (hT.1 x hx hxk).2.1]
        by_cases h : (gSt a (gs a 1) k).1 x = (gSt a (gs a 1) k).1 b
        · simp only [h, decide_true, if_true]
          rw [(hT.2.1 x b hx hb.1 hxk hbr).mpr h]
        · simp [h]
      · have hxl : x ≠ gO a k := fun q => by rw [q, hRk] at hxk; omega
        rw [o10 x hxl]; exact (hT.2.2 x hx (by omega)).1
      · rw [c11, show (0 : Int32) = nI 0 from rfl]; congr 1; exact (cnt_false (fun i _ => rfl)).symm
    have fin : ∀ I', Fr (M + 10) (M + 11) I1 I' → (∀ j, j ≠ gO a k → I' (M + 11) j = I1 (M + 11) j) → MJn I' M a k (gQ a (gs a 1) (gO a k)) (gSt a (gs a 1) k).1 t b k → am_OK h_X5_laysThreads post 32 [some (.inr M), some (.inr r), some (.inl (nI (k + 1))), some (.inl (nI (gO a k)))] (S, I', R) := by
      intro I' hf' h11 hJ
      have hvh : ∀ v, hvO (fun i => gO a (k - 1 - i)) (gQ a (gs a 1) (gO a k)) (gSt a (gs a 1) k).1 k v = hasV (gQ a (gs a 1) (gO a k)) (gSt a (gs a 1) k).1 (gn a) v := by
        intro v
        rw [Bool.eq_iff_iff, hvO_i, hasV_i]
        constructor
        · rintro ⟨i, h1, h2, h3⟩; exact ⟨gO a (k - 1 - i), gO_lt (by omega), h2, h3⟩
        · rintro ⟨e, h1, h2, h3⟩
          have h4 := qlt e h2
          refine ⟨k - 1 - gR a e, by omega, ?_, ?_⟩
          · show gQ a (gs a 1) (gO a k) (gO a (k - 1 - (k - 1 - gR a e))) = true
            rw [show k - 1 - (k - 1 - gR a e) = gR a e by omega, gO_gR h1]; exact h2
          · show (gSt a (gs a 1) k).1 (gO a (k - 1 - (k - 1 - gR a e))) = v
            rw [show k - 1 - (k - 1 - gR a e) = gR a e by omega, gO_gR h1]; exact h3
      have eV : gVO (fun i => gO a (k - 1 - i)) (gQ a (gs a 1) (gO a k)) (gSt a (gs a 1) k).1 b k = gV (gn a) (gQ a (gs a 1) (gO a k)) (gSt a (gs a 1) k).1 b := funext (fun v => by unfold gVO gV; rw [hvh])
      have eJ : gJO (fun i => gO a (k - 1 - i)) (gn a) (gQ a (gs a 1) (gO a k)) (gSt a (gs a 1) k).1 b k = cnt (fun v => hasV (gQ a (gs a 1) (gO a k)) (gSt a (gs a 1) k).1 (gn a) v && decide (v ≠ (gSt a (gs a 1) k).1 b)) (gn a) := cnt_congr (fun v _ => by rw [hvh])
      unfold MJn at hJ
      rw [eV, eJ] at hJ
      have hvb : gV (gn a) (gQ a (gs a 1) (gO a k)) (gSt a (gs a 1) k).1 b ((gSt a (gs a 1) k).1 b) = true := by unfold gV; simp
      have hm := mn_i hvb (n := gn a) (by omega)
      refine hp I' (fun x => if x = gO a k ∨ gV (gn a) (gQ a (gs a 1) (gO a k)) (gSt a (gs a 1) k).1 b ((gSt a (gs a 1) k).1 x) = true then t b else t x) ((f1.wide (by omega) (by omega)).tr (hf'.wide (by omega) (by omega))) ⟨fun x hx hxk => ?_, fun x y hx hy hxk hyk => ?_, fun x hx hxk => ?_⟩
      · rw [eS]
        by_cases hxl : x = gO a k
        · subst hxl
          simp only [true_or, if_true, un_s]
          refine ⟨?_, hJ.2.1, hJ.2.2.2, hTb.2.2.2.1, by have := hTb.2.2.2.2; omega⟩
          rw [hf' (M + 9) (by omega), c9, hA]; rfl
        · have hxr := nl x hx hxk hxl
          have h1 := hT.1 x hx hxr
          simp only [hxl, false_or, un_n hxl]
          refine ⟨?_, hJ.1 x hx hxr, ?_, ?_, ?_⟩
          · rw [hf' (M + 9) (by omega), o9 x hxl]; exact h1.1
          · rw [h11 x hxl, o11]; exact h1.2.2.1
          · split
            · exact hTb.2.2.2.1
            · exact h1.2.2.2.1
          · split
            · have := hTb.2.2.2.2; omega
            · have := h1.2.2.2.2; omega
      · rw [eS]
        -- the value of a line's label and of its first place, by whether its thread is joined
        have key : ∀ z, z < gn a → gR a z < k + 1 → ((z = gO a k ∨ gV (gn a) (gQ a (gs a 1) (gO a k)) (gSt a (gs a 1) k).1 b ((gSt a (gs a 1) k).1 z) = true) ↔ (z = gO a k ∨ (gR a z < k ∧ gV (gn a) (gQ a (gs a 1) (gO a k)) (gSt a (gs a 1) k).1 b ((gSt a (gs a 1) k).1 z) = true))) := by
          intro z hz hzk
          constructor
          · rintro (h | h)
            · exact Or.inl h
            · by_cases hzl : z = gO a k
              · exact Or.inl hzl
              · exact Or.inr ⟨nl z hz hzk hzl, h⟩
          · rintro (h | h)
            · exact Or.inl h
            · exact Or.inr h.2
        -- a line whose thread is not joined has another label and another first place
        have apart : ∀ z, z < gn a → gR a z < k + 1 → ¬ (z = gO a k ∨ gV (gn a) (gQ a (gs a 1) (gO a k)) (gSt a (gs a 1) k).1 b ((gSt a (gs a 1) k).1 z) = true) → gR a z < k ∧ t z ≠ t b ∧ (gSt a (gs a 1) k).1 z ≠ mn (gV (gn a) (gQ a (gs a 1) (gO a k)) (gSt a (gs a 1) k).1 b) (gn a) := by
          intro z hz hzk hno
          have hzr := nl z hz hzk (fun q => hno (Or.inl q))
          refine ⟨hzr, fun q => hno (Or.inr ?_), fun q => hno (Or.inr ?_)⟩
          · rw [(hT.2.1 z b hz hb.1 hzr hbr).mp q]; exact hvb
          · rw [q]; exact hm.1
        simp only
        by_cases cx : x = gO a k ∨ gV (gn a) (gQ a (gs a 1) (gO a k)) (gSt a (gs a 1) k).1 b ((gSt a (gs a 1) k).1 x) = true
        · rw [if_pos cx, if_pos ((key x hx hxk).mp cx)]
          by_cases cy : y = gO a k ∨ gV (gn a) (gQ a (gs a 1) (gO a k)) (gSt a (gs a 1) k).1 b ((gSt a (gs a 1) k).1 y) = true
          · rw [if_pos cy, if_pos ((key y hy hyk).mp cy)]
            exact ⟨fun _ => rfl, fun _ => rfl⟩
          · have ay := apart y hy hyk cy
            rw [if_neg cy, if_neg (fun q => cy ((key y hy hyk).mpr q))]
            exact ⟨fun q => absurd q.symm ay.2.1, fun q => absurd q.symm ay.2.2⟩
        · have ax := apart x hx hxk cx
          rw [if_neg cx, if_neg (fun q => cx ((key x hx hxk).mpr q))]
          by_cases cy : y = gO a k ∨ gV (gn a) (gQ a (gs a 1) (gO a k)) (gSt a (gs a 1) k).1 b ((gSt a (gs a 1) k).1 y) = true
          · rw [if_pos cy, if_pos ((key y hy hyk).mp cy)]
            exact ⟨fun q => absurd q ax.2.1, fun q => absurd q ax.2.2⟩
          · have ay := apart y hy hyk cy
            rw [if_neg cy, if_neg (fun q => cy ((key y hy hyk).mpr q))]
            exact hT.2.1 x y hx hy ax.1 ay.1
      · have hxl : x ≠ gO a k := fun q => by rw [q, hRk] at hxk; omega
        refine ⟨hJ.2.2.1 x hx (by omega), ?_⟩
        rw [h11 x hxl, o11]; exact (hT.2.2 x hx (by omega)).2
    have hI1' := rowfr hI f1 (by omega)
    refine m_counting hSr hI1' hB (by omega) ?_
    simp only [↓ap_cc, ↓ap_const, ↓ap_iload, ↓ap_aload, ↓ap_istore, ↓ap_astore, ↓ap_iinc, ↓ap_bin, ↓ap_idiv, ↓ap_i2c, ↓ap_dup, ↓ap_dup2, ↓ap_nn, ↓ap_ic, ↓ap_if, ↓ap_sw, ↓ap_head, ↓ap_getI, ↓ap_getR, ↓ap_putI, ↓ap_putN, ↓ap_putR, ↓ap_iald, ↓ap_cald, ↓ap_iast, ↓ap_cast, ↓ap_aald, ↓ap_aast, ↓ap_alen, ↓ap_stat, ↓ap_pop, ↓ap_mm, ↓ap_copy, ↓ap_ret, ↓ap_iret, ↓ap_zret, ↓ap_aret, ↓ap_retA, ↓ap_new, ↓ap_newa, ↓ap_callV, ↓ap_callS, ↓ap_callI, am_in, List.map_cons, List.map_nil, List.getElem?_cons_zero, List.getElem?_cons_succ, List.set_cons_zero, List.set_cons_succ, List.take_succ_cons, List.take_zero, List.drop_succ_cons, List.drop_zero, List.reverse_cons, List.reverse_nil, List.nil_append, List.cons_append, List.append_nil, List.length_cons, List.length_nil, List.replicate_succ, List.replicate_zero, Option.toList_some, Option.toList_none, true_and, and_true, Option.some.injEq, exists_eq_left', am_wI_mk, am_wA_mk, am_wR_mk, Nat.reduceAdd, Nat.reduceSub, Nat.reduceLeDiff, Nat.zero_add, Nat.le_refl, not_true_eq_false, not_false_eq_true, forall_const, false_implies, true_implies, implies_true, and_self, Prod.mk.injEq, eq_self, true_or, or_true, false_and, and_false, or_false, false_or, Nat.reduceEqDiff, ↓a_X5_laysThreads_120, hSr, arr1 hSr, m0, m1, m2, m3, m4, m5, m6, m7, m8, m9, m10, m11, m12, m13, m14, n0, n1, n2, n4, n6, n7, n8, n9, n10, n11, n12, n13, n15, n18, arr1 m1, arr1 m2, arr1 m3, arr1 m4, arr1 m5, arr1 m6, arr1 m7, arr1 m8, arr1 m9, arr1 m10, arr1 m11, arr1 m12, arr1 m13, arr1 m14]
    cases hc : gC a (gO a k) (gk a) with
    | some x =>
      have hx := gC_i hc
      have bk := hB.k
      rw [oI_s]
      refine ⟨fun _ => ?_, fun h => ((m4n (a := x) (by omega)).mp (Classical.byContradiction h)).elim⟩
      try simp (disch := omega) only [nm1, nm1', nsub1, np1, npd, nadd, n0m1, m1lt, nlt0, nge0, ngt0, nle0, nlt, nle, neq, neq0, m1n, m4n, vpn, vcl, ne_eq, bI_0, bI_1, bI_01, lit01, lit00, oI_s, oI_n, true_and, and_true, not_true_eq_false, not_false_eq_true, true_implies, false_implies, and_self, implies_true, forall_const, Bool.not_eq_false, Bool.not_eq_true, iu_s, iu_k1, iu_j1, ia_s1, ia_k1, lt2, lt3, lt5, lt6, lt7, lt8, lt9, lt10, lt11, lt12, lt15, lt16, lt17, lt20, lt30, lt32, lt48, lt57, lt71, lt80, lt97, lt98, lt108, lt110, lt126, lt191, lt200, lt227, lt681, lt65535, lt100000, decide_eq_true_eq, decide_eq_false_iff_not, Nat.le_refl, true_or, or_true, eq_self]
      have nq : ∀ e, gQ a (gs a 1) (gO a k) e = false := fun e => by
        cases hq : gQ a (gs a 1) (gO a k) e
        · rfl
        · obtain ⟨b', hb'⟩ := (gRv_may (gQ_i hq).2.2.1).2
          have := (gBest_i hl hb').2
          rw [hc] at this; cases this
      have all : ∀ p, gVO (fun i => gO a (k - 1 - i)) (gQ a (gs a 1) (gO a k)) (gSt a (gs a 1) k).1 b p = gVO (fun i => gO a (k - 1 - i)) (gQ a (gs a 1) (gO a k)) (gSt a (gs a 1) k).1 b 0 ∧ gJO (fun i => gO a (k - 1 - i)) (gn a) (gQ a (gs a 1) (gO a k)) (gSt a (gs a 1) k).1 b p = gJO (fun i => gO a (k - 1 - i)) (gn a) (gQ a (gs a 1) (gO a k)) (gSt a (gs a 1) k).1 b 0 := by
        intro p
        induction p with
        | zero => exact ⟨rfl, rfl⟩
        | succ p ih =>
          have js := joinO_same (O := fun i => gO a (k - 1 - i)) (n := gn a) (fp := (gSt a (gs a 1) k).1) (b := b) (p := p) (Or.inl (nq _))
          exact ⟨(funext js.1).trans ih.1, js.2.trans ih.2⟩
      refine fin I1 Fr.rfl (fun _ _ => rfl) ?_
      unfold MJn at hJ0 ⊢
      rw [(all k).1, (all k).2]; exact hJ0
    | none =>
      rw [oI_n]
      refine ⟨fun h => absurd rfl h, fun _ => ?_⟩
      refine m_joins hS hr hI1' hB hW (hO.fr f1 (by omega)) (hSc.fr f1 (by omega)) hk hA hc c9 (fun x hx hxk => by have := (hst x hx hxk).1; omega) (fun x hx hxk => by have := (hT.1 x hx hxk).2.2.2.1; omega) hT.2.1 hJ0 (fun I' hf' h11 hJ => ?_)
      simp only [↓ap_cc, ↓ap_const, ↓ap_iload, ↓ap_aload, ↓ap_istore, ↓ap_astore, ↓ap_iinc, ↓ap_bin, ↓ap_idiv, ↓ap_i2c, ↓ap_dup, ↓ap_dup2, ↓ap_nn, ↓ap_ic, ↓ap_if, ↓ap_sw, ↓ap_head, ↓ap_getI, ↓ap_getR, ↓ap_putI, ↓ap_putN, ↓ap_putR, ↓ap_iald, ↓ap_cald, ↓ap_iast, ↓ap_cast, ↓ap_aald, ↓ap_aast, ↓ap_alen, ↓ap_stat, ↓ap_pop, ↓ap_mm, ↓ap_copy, ↓ap_ret, ↓ap_iret, ↓ap_zret, ↓ap_aret, ↓ap_retA, ↓ap_new, ↓ap_newa, ↓ap_callV, ↓ap_callS, ↓ap_callI, am_in, List.map_cons, List.map_nil, List.getElem?_cons_zero, List.getElem?_cons_succ, List.set_cons_zero, List.set_cons_succ, List.take_succ_cons, List.take_zero, List.drop_succ_cons, List.drop_zero, List.reverse_cons, List.reverse_nil, List.nil_append, List.cons_append, List.append_nil, List.length_cons, List.length_nil, List.replicate_succ, List.replicate_zero, Option.toList_some, Option.toList_none, true_and, and_true, Option.some.injEq, exists_eq_left', am_wI_mk, am_wA_mk, am_wR_mk, Nat.reduceAdd, Nat.reduceSub, Nat.reduceLeDiff, Nat.zero_add, Nat.le_refl, not_true_eq_false, not_false_eq_true, forall_const, false_implies, true_implies, implies_true, and_self, Prod.mk.injEq, eq_self, true_or, or_true, false_and, and_false, or_false, false_or, Nat.reduceEqDiff, ↓a_X5_laysThreads_120, hSr, arr1 hSr, m0, m1, m2, m3, m4, m5, m6, m7, m8, m9, m10, m11, m12, m13, m14, n0, n1, n2, n4, n6, n7, n8, n9, n10, n11, n12, n13, n15, n18, arr1 m1, arr1 m2, arr1 m3, arr1 m4, arr1 m5, arr1 m6, arr1 m7, arr1 m8, arr1 m9, arr1 m10, arr1 m11, arr1 m12, arr1 m13, arr1 m14]
      try simp (disch := omega) only [nm1, nm1', nsub1, np1, npd, nadd, n0m1, m1lt, nlt0, nge0, ngt0, nle0, nlt, nle, neq, neq0, m1n, m4n, vpn, vcl, ne_eq, bI_0, bI_1, bI_01, lit01, lit00, oI_s, oI_n, true_and, and_true, not_true_eq_false, not_false_eq_true, true_implies, false_implies, and_self, implies_true, forall_const, Bool.not_eq_false, Bool.not_eq_true, iu_s, iu_k1, iu_j1, ia_s1, ia_k1, lt2, lt3, lt5, lt6, lt7, lt8, lt9, lt10, lt11, lt12, lt15, lt16, lt17, lt20, lt30, lt32, lt48, lt57, lt71, lt80, lt97, lt98, lt108, lt110, lt126, lt191, lt200, lt227, lt681, lt65535, lt100000, decide_eq_true_eq, decide_eq_false_iff_not, Nat.le_refl, true_or, or_true, eq_self]
      exact fin I' hf' h11 hJ
