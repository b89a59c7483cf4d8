-- needs: 10 11 12 13 14 15 20 21 22 23 30 31 32 33 34 35 36 37 40 41 50 51 52 53 95a 95b 95c 91 92
variable {S : List (Nat × Nat)} {R : Nat → Nat → Option Nat} {I : Nat → Nat → Int32} {a : Lg} {post : am_R} {P bc bs z : Nat} {K : am_K} {Q : am_R} {k : am_T} {ls : List (Option am_V)}
/-- nothing but the rows laid is other, the row of the order as it was -/
def FrA (P : Nat) (I I' : Nat → Nat → Int32) : Prop := ∀ x, x ≠ P → x ≠ P + 1 → x ≠ P + 2 → x ≠ P + 5 → I' x = I x
theorem FrA.rfl : FrA P I I := fun _ _ _ _ _ => Eq.refl _
theorem FrA.tr {I' I'' : Nat → Nat → Int32} (h : FrA P I I') (h' : FrA P I' I'') : FrA P I I'' := fun x h1 h2 h3 h4 => (h' x h1 h2 h3 h4).trans (h x h1 h2 h3 h4)
theorem FrA.u {I' : Nat → Nat → Int32} {k j : Nat} {v : Int32} (h : FrA P I I') (hk : k = P ∨ k = P + 1 ∨ k = P + 2 ∨ k = P + 5) : FrA P I (am_u I' k j v) := fun x h1 h2 h3 h4 => by rw [iu_k (by omega)]; exact h x h1 h2 h3 h4
theorem FrA.lw {I' : Nat → Nat → Int32} (h : FrA P I I') (hP : 118 ≤ P) (hI : LwI I a) : LwI I' a := hI.same (fun k h1 h2 => h k (by omega) (by omega) (by omega) (by omega))
theorem FrJ.A {I' : Nat → Nat → Int32} (h : FrJ P I I') : FrA P I I' := fun x _ _ h3 h4 => h x h3 h4
/-- one line more -/
theorem l_one {k : Nat} {t : Nat → Nat} (hS : LwS S) (hI : LwI I a) (hB : LgB a) (h8 : Lw8 a) (hP : 118 ≤ P) (hL : LpS S P) (hW : WfF a) (hO : LOr I P a) (hk : k < gn a) (hT : LTh I P a (gs a 1) k t)
    (hp : ∀ I' t' (o11 o12 o13 o14 o15 o16 o17 : Option am_V), FrA P I I' → LTh I' P a (gs a 1) (k + 1) t' → am_OK (h_L_lays bc bs) post 22 [some (.inr 114), some (.inr 115), some (.inr 116), some (.inr 117), some (.inr P), some (.inr (P + 1)), some (.inr (P + 2)), some (.inr (P + 4)), some (.inr (P + 5)), some (.inl (nI (k + 1))), some (.inl (nI (gO a k))), o11, o12, o13, o14, o15, o16, o17] (S, I', R)) :
    ∀ o10 o11 o12 o13 o14 o15 o16 o17 : Option am_V, am_OK (h_L_lays bc bs) post 22 [some (.inr 114), some (.inr 115), some (.inr 116), some (.inr 117), some (.inr P), some (.inr (P + 1)), some (.inr (P + 2)), some (.inr (P + 4)), some (.inr (P + 5)), some (.inl (nI k)), o10, o11, o12, o13, o14, o15, o16, o17] (S, I, R) := by
  intro o10 o11 o12 o13 o14 o15 o16 o17
  obtain ⟨g0, g1, g2, g3⟩ := id hS
  have bt := h8.1
  have bn := h8.2.1
  have bk := h8.2.2.1
  obtain ⟨p0, p1, p2, p4, p5⟩ := id hL
  have hl := gO_lt (a := a) hk
  have hRk := gR_gO (a := a) hk
  have hst := gSt_I hB (gs a 1) k (by omega)
  have nl : ∀ x, x < gn a → gR a x < k + 1 → x ≠ gO a k → gR a x < k := fun x hx hxk hne => by
    have : gR a x ≠ k := fun q => hne (gR_inj hx hl (by rw [q, hRk]))
    omega
  have ln : ∀ x, gR a x < k → x ≠ gO a k := fun x hx q => by rw [q, hRk] at hx; omega
  have e4 : I (P + 4) k = nI (gO a k) := hO k hk
  apply am_fold; rw [h_L_lays_22]
  simp only [↓ap_cc, ↓ap_const, ↓ap_iload, ↓ap_aload, ↓ap_istore, ↓ap_astore, ↓ap_iinc, ↓ap_bin, ↓ap_idiv, ↓ap_irem, ↓ap_callSA, ↓ap_iretA, ↓ap_zretA, ↓ap_i2c, ↓ap_dup, ↓ap_dup2, ↓ap_nn, ↓ap_ic, ↓ap_if, ↓ap_sw, ↓ap_head, ↓ap_getI, ↓ap_getR, ↓ap_putI, ↓ap_putN, ↓ap_putR, ↓ap_iald, ↓ap_cald, ↓ap_iast, ↓ap_cast, ↓ap_aald, ↓ap_aast, ↓ap_alen, ↓ap_stat, ↓ap_pop, ↓ap_mm, ↓ap_copy, ↓ap_ret, ↓ap_iret, ↓ap_zret, ↓ap_aret, ↓ap_retA, ↓ap_new, ↓ap_newa, ↓ap_callV, ↓ap_callS, ↓ap_callI, am_in, List.map_cons, List.map_nil, List.getElem?_cons_zero, List.getElem?_cons_succ, List.set_cons_zero, List.set_cons_succ, List.take_succ_cons, List.take_zero, List.drop_succ_cons, List.drop_zero, List.reverse_cons, List.reverse_nil, List.nil_append, List.cons_append, List.append_nil, List.length_cons, List.length_nil, List.replicate_succ, List.replicate_zero, Option.toList_some, Option.toList_none, true_and, and_true, Option.some.injEq, exists_eq_left', am_wI_mk, am_wA_mk, am_wR_mk, Nat.reduceAdd, Nat.reduceSub, Nat.reduceLeDiff, Nat.zero_add, Nat.le_refl, not_true_eq_false, not_false_eq_true, forall_const, false_implies, true_implies, implies_true, and_self, Prod.mk.injEq, eq_self, true_or, or_true, false_and, and_false, or_false, false_or, Nat.reduceEqDiff, ↓a_L_lays_22, g0, g1, g2, g3, arr1 g0, arr1 g1, arr1 g2, arr1 g3, p0, p2, p4, p5, arr1 p4]
  try simp (disch := omega) only [nm1, nm1', nsub1, np1, npd, nadd, n0m1, m1lt, nlt0, nge0, ngt0, nle0, nlt, nle, neq, neq0, m1n, m4n, vpn, vcl, ne_eq, bI_0, bI_1, bI_01, lit01, lit00, oI_s, oI_n, true_and, and_true, not_true_eq_false, not_false_eq_true, true_implies, false_implies, and_self, implies_true, forall_const, Bool.not_eq_false, Bool.not_eq_true, iu_s, iu_k1, iu_j1, ia_s1, ia_k1, lt2, lt3, lt5, lt6, lt7, lt8, lt9, lt10, lt11, lt12, lt13, lt15, lt16, lt17, lt20, lt26, lt30, lt32, lt36, lt50, lt60, lt64, lt100, lt300, lt400, lt500, lt1000, lt65536, lt100001, lt10000000, lt48, lt57, lt71, lt80, lt97, lt98, lt108, lt110, lt126, lt191, lt200, lt227, lt681, lt832, lt7919, lt1000000, lt18, lt45, lt65535, lt100000, decide_eq_true_eq, decide_eq_false_iff_not, Nat.le_refl, true_or, or_true, eq_self, hI.n, e4]
  refine ⟨fun h => by omega, fun _ => l_answer0 hS hI hB h8 hW hl ?_⟩
  simp only [↓ap_cc, ↓ap_const, ↓ap_iload, ↓ap_aload, ↓ap_istore, ↓ap_astore, ↓ap_iinc, ↓ap_bin, ↓ap_idiv, ↓ap_irem, ↓ap_callSA, ↓ap_iretA, ↓ap_zretA, ↓ap_i2c, ↓ap_dup, ↓ap_dup2, ↓ap_nn, ↓ap_ic, ↓ap_if, ↓ap_sw, ↓ap_head, ↓ap_getI, ↓ap_getR, ↓ap_putI, ↓ap_putN, ↓ap_putR, ↓ap_iald, ↓ap_cald, ↓ap_iast, ↓ap_cast, ↓ap_aald, ↓ap_aast, ↓ap_alen, ↓ap_stat, ↓ap_pop, ↓ap_mm, ↓ap_copy, ↓ap_ret, ↓ap_iret, ↓ap_zret, ↓ap_aret, ↓ap_retA, ↓ap_new, ↓ap_newa, ↓ap_callV, ↓ap_callS, ↓ap_callI, am_in, List.map_cons, List.map_nil, List.getElem?_cons_zero, List.getElem?_cons_succ, List.set_cons_zero, List.set_cons_succ, List.take_succ_cons, List.take_zero, List.drop_succ_cons, List.drop_zero, List.reverse_cons, List.reverse_nil, List.nil_append, List.cons_append, List.append_nil, List.length_cons, List.length_nil, List.replicate_succ, List.replicate_zero, Option.toList_some, Option.toList_none, true_and, and_true, Option.some.injEq, exists_eq_left', am_wI_mk, am_wA_mk, am_wR_mk, Nat.reduceAdd, Nat.reduceSub, Nat.reduceLeDiff, Nat.zero_add, Nat.le_refl, not_true_eq_false, not_false_eq_true, forall_const, false_implies, true_implies, implies_true, and_self, Prod.mk.injEq, eq_self, true_or, or_true, false_and, and_false, or_false, false_or, Nat.reduceEqDiff, ↓a_L_lays_76, ↓a_L_lays_84, g0, g1, g2, g3, arr1 g0, arr1 g1, arr1 g2, arr1 g3, p0, p2, p4, p5, arr1 p0]
  try simp (disch := omega) only [nm1, nm1', nsub1, np1, npd, nadd, n0m1, m1lt, nlt0, nge0, ngt0, nle0, nlt, nle, neq, neq0, m1n, m4n, vpn, vcl, ne_eq, bI_0, bI_1, bI_01, lit01, lit00, oI_s, oI_n, true_and, and_true, not_true_eq_false, not_false_eq_true, true_implies, false_implies, and_self, implies_true, forall_const, Bool.not_eq_false, Bool.not_eq_true, iu_s, iu_k1, iu_j1, ia_s1, ia_k1, lt2, lt3, lt5, lt6, lt7, lt8, lt9, lt10, lt11, lt12, lt13, lt15, lt16, lt17, lt20, lt26, lt30, lt32, lt36, lt50, lt60, lt64, lt100, lt300, lt400, lt500, lt1000, lt65536, lt100001, lt10000000, lt48, lt57, lt71, lt80, lt97, lt98, lt108, lt110, lt126, lt191, lt200, lt227, lt681, lt832, lt7919, lt1000000, lt18, lt45, lt65535, lt100000, decide_eq_true_eq, decide_eq_false_iff_not, Nat.le_refl, true_or, or_true, eq_self]
  cases hA : gA a (gs a 1) (gO a k) with
  | none =>
    rw [oI_n]
    refine ⟨fun h => absurd h (by decide), fun _ => ?_⟩
    obtain ⟨I1, hI1⟩ : ∃ I1, am_u (am_u (am_u I P (gO a k) (-4)) (P + 2) (gO a k) 0) (P + 5) (gO a k) (nI (gO a k)) = I1 := ⟨_, rfl⟩
    rw [hI1]
    have f1 : FrA P I I1 := by rw [← hI1]; exact ((FrA.rfl.u (Or.inl rfl)).u (by omega)).u (by omega)
    have cA : I1 P (gO a k) = -4 := by rw [← hI1]; try simp (disch := omega) only [nm1, nm1', nsub1, np1, npd, nadd, n0m1, m1lt, nlt0, nge0, ngt0, nle0, nlt, nle, neq, neq0, m1n, m4n, vpn, vcl, ne_eq, bI_0, bI_1, bI_01, lit01, lit00, oI_s, oI_n, true_and, and_true, not_true_eq_false, not_false_eq_true, true_implies, false_implies, and_self, implies_true, forall_const, Bool.not_eq_false, Bool.not_eq_true, iu_s, iu_k1, iu_j1, ia_s1, ia_k1, lt2, lt3, lt5, lt6, lt7, lt8, lt9, lt10, lt11, lt12, lt13, lt15, lt16, lt17, lt20, lt26, lt30, lt32, lt36, lt50, lt60, lt64, lt100, lt300, lt400, lt500, lt1000, lt65536, lt100001, lt10000000, lt48, lt57, lt71, lt80, lt97, lt98, lt108, lt110, lt126, lt191, lt200, lt227, lt681, lt832, lt7919, lt1000000, lt18, lt45, lt65535, lt100000, decide_eq_true_eq, decide_eq_false_iff_not, Nat.le_refl, true_or, or_true, eq_self]
    have eS := gSt_n hA
    have fin : ∀ o11 o12 o13 o14 o15 o16 o17 : Option am_V, am_OK (h_L_lays bc bs) post 22 [some (.inr 114), some (.inr 115), some (.inr 116), some (.inr 117), some (.inr P), some (.inr (P + 1)), some (.inr (P + 2)), some (.inr (P + 4)), some (.inr (P + 5)), some (.inl (nI (k + 1))), some (.inl (nI (gO a k))), o11, o12, o13, o14, o15, o16, o17] (S, I1, R) := by
      intro o11 o12 o13 o14 o15 o16 o17
      refine hp _ (un t (gO a k) (gO a k)) _ _ _ _ _ _ _ f1 ⟨fun x hx hxk => ?_, fun x y hx hy hxk hyk => ?_⟩
      · rw [eS, ← hI1]
        by_cases hxl : x = gO a k
        · subst hxl
          try simp (disch := omega) only [nm1, nm1', nsub1, np1, npd, nadd, n0m1, m1lt, nlt0, nge0, ngt0, nle0, nlt, nle, neq, neq0, m1n, m4n, vpn, vcl, ne_eq, bI_0, bI_1, bI_01, lit01, lit00, oI_s, oI_n, true_and, and_true, not_true_eq_false, not_false_eq_true, true_implies, false_implies, and_self, implies_true, forall_const, Bool.not_eq_false, Bool.not_eq_true, iu_s, iu_k1, iu_j1, ia_s1, ia_k1, lt2, lt3, lt5, lt6, lt7, lt8, lt9, lt10, lt11, lt12, lt13, lt15, lt16, lt17, lt20, lt26, lt30, lt32, lt36, lt50, lt60, lt64, lt100, lt300, lt400, lt500, lt1000, lt65536, lt100001, lt10000000, lt48, lt57, lt71, lt80, lt97, lt98, lt108, lt110, lt126, lt191, lt200, lt227, lt681, lt832, lt7919, lt1000000, lt18, lt45, lt65535, lt100000, decide_eq_true_eq, decide_eq_false_iff_not, Nat.le_refl, true_or, or_true, eq_self, un_s]
          rw [hA]
          exact ⟨rfl, rfl, by omega, by omega⟩
        · have h1 := hT.1 x hx (nl x hx hxk hxl)
          try simp (disch := omega) only [nm1, nm1', nsub1, np1, npd, nadd, n0m1, m1lt, nlt0, nge0, ngt0, nle0, nlt, nle, neq, neq0, m1n, m4n, vpn, vcl, ne_eq, bI_0, bI_1, bI_01, lit01, lit00, oI_s, oI_n, true_and, and_true, not_true_eq_false, not_false_eq_true, true_implies, false_implies, and_self, implies_true, forall_const, Bool.not_eq_false, Bool.not_eq_true, iu_s, iu_k1, iu_j1, ia_s1, ia_k1, lt2, lt3, lt5, lt6, lt7, lt8, lt9, lt10, lt11, lt12, lt13, lt15, lt16, lt17, lt20, lt26, lt30, lt32, lt36, lt50, lt60, lt64, lt100, lt300, lt400, lt500, lt1000, lt65536, lt100001, lt10000000, lt48, lt57, lt71, lt80, lt97, lt98, lt108, lt110, lt126, lt191, lt200, lt227, lt681, lt832, lt7919, lt1000000, lt18, lt45, lt65535, lt100000, decide_eq_true_eq, decide_eq_false_iff_not, Nat.le_refl, true_or, or_true, eq_self, un_n hxl, iu_j1 hxl]
          exact ⟨h1.1, h1.2.1, h1.2.2.1, h1.2.2.2.1, by omega⟩
      · rw [eS]
        by_cases hxl : x = gO a k
        · by_cases hyl : y = gO a k
          · rw [hxl, hyl]; simp
          · have hyr := nl y hy hyk hyl
            have h1 := hT.1 y hy hyr
            have h2 := (hst y hy hyr).1
            rw [hxl, un_s, un_n hyl]
            simp only [un_s, un_n hyl]
            have h3 := ln (t y) h1.2.2.2.2
            exact ⟨fun q => absurd q.symm h3, fun q => by omega⟩
        · have hxr := nl x hx hxk hxl
          have h1 := hT.1 x hx hxr
          have h2 := (hst x hx hxr).1
          by_cases hyl : y = gO a k
          · rw [hyl, un_s, un_n hxl]
            simp only [un_s, un_n hxl]
            have h3 := ln (t x) h1.2.2.2.2
            exact ⟨fun q => absurd q h3, fun q => by omega⟩
          · simp only [un_n hxl, un_n hyl]
            exact hT.2 x y hx hy hxr (nl y hy hyk hyl)
    apply am_fold; rw [h_L_lays_88]
    simp only [↓ap_cc, ↓ap_const, ↓ap_iload, ↓ap_aload, ↓ap_istore, ↓ap_astore, ↓ap_iinc, ↓ap_bin, ↓ap_idiv, ↓ap_irem, ↓ap_callSA, ↓ap_iretA, ↓ap_zretA, ↓ap_i2c, ↓ap_dup, ↓ap_dup2, ↓ap_nn, ↓ap_ic, ↓ap_if, ↓ap_sw, ↓ap_head, ↓ap_getI, ↓ap_getR, ↓ap_putI, ↓ap_putN, ↓ap_putR, ↓ap_iald, ↓ap_cald, ↓ap_iast, ↓ap_cast, ↓ap_aald, ↓ap_aast, ↓ap_alen, ↓ap_stat, ↓ap_pop, ↓ap_mm, ↓ap_copy, ↓ap_ret, ↓ap_iret, ↓ap_zret, ↓ap_aret, ↓ap_retA, ↓ap_new, ↓ap_newa, ↓ap_callV, ↓ap_callS, ↓ap_callI, am_in, List.map_cons, List.map_nil, List.getElem?_cons_zero, List.getElem?_cons_succ, List.set_cons_zero, List.set_cons_succ, List.take_succ_cons, List.take_zero, List.drop_succ_cons, List.drop_zero, List.reverse_cons, List.reverse_nil, List.nil_append, List.cons_append, List.append_nil, List.length_cons, List.length_nil, List.replicate_succ, List.replicate_zero, Option.toList_some, Option.toList_none, true_and, and_true, Option.some.injEq, exists_eq_left', am_wI_mk, am_wA_mk, am_wR_mk, Nat.reduceAdd, Nat.reduceSub, Nat.reduceLeDiff, Nat.zero_add, Nat.le_refl, not_true_eq_false, not_false_eq_true, forall_const, false_implies, true_implies, implies_true, and_self, Prod.mk.injEq, eq_self, true_or, or_true, false_and, and_false, or_false, false_or, Nat.reduceEqDiff, ↓a_L_lays_88, ↓a_L_lays_332, g0, g1, g2, g3, arr1 g0, arr1 g1, arr1 g2, arr1 g3, p0, p2, p4, p5, arr1 p0]
    try simp (disch := omega) only [nm1, nm1', nsub1, np1, npd, nadd, n0m1, m1lt, nlt0, nge0, ngt0, nle0, nlt, nle, neq, neq0, m1n, m4n, vpn, vcl, ne_eq, bI_0, bI_1, bI_01, lit01, lit00, oI_s, oI_n, true_and, and_true, not_true_eq_false, not_false_eq_true, true_implies, false_implies, and_self, implies_true, forall_const, Bool.not_eq_false, Bool.not_eq_true, iu_s, iu_k1, iu_j1, ia_s1, ia_k1, lt2, lt3, lt5, lt6, lt7, lt8, lt9, lt10, lt11, lt12, lt13, lt15, lt16, lt17, lt20, lt26, lt30, lt32, lt36, lt50, lt60, lt64, lt100, lt300, lt400, lt500, lt1000, lt65536, lt100001, lt10000000, lt48, lt57, lt71, lt80, lt97, lt98, lt108, lt110, lt126, lt191, lt200, lt227, lt681, lt832, lt7919, lt1000000, lt18, lt45, lt65535, lt100000, decide_eq_true_eq, decide_eq_false_iff_not, Nat.le_refl, true_or, or_true, eq_self, cA]
    exact ⟨fun _ => fin _ _ _ _ _ _ _, fun _ => ⟨fun _ => fin _ _ _ _ _ _ _, fun h => absurd (by decide) h⟩⟩
  | some b =>
    have eS := gSt_b hA
    have hb := gA_i hB hl hA
    have hbr : gR a b < k := by have := (gR_E hb.1 hl).mpr hb.2; omega
    have hTb := hT.1 b hb.1 hbr
    have bne := ln b hbr
    have sb := hst b hb.1 hbr
    have qlt : ∀ e, gQ a (gs a 1) (gO a k) e = true → e < gn a ∧ gR a e < k := fun e he => by
      have := gQ_i he
      refine ⟨this.1, ?_⟩
      have := (gR_E this.1 hl).mpr this.2.1
      omega
    rw [oI_s]
    refine ⟨fun _ => ?_, fun h => absurd (nI_pos' (by omega)) h⟩
    simp only [↓ap_cc, ↓ap_const, ↓ap_iload, ↓ap_aload, ↓ap_istore, ↓ap_astore, ↓ap_iinc, ↓ap_bin, ↓ap_idiv, ↓ap_irem, ↓ap_callSA, ↓ap_iretA, ↓ap_zretA, ↓ap_i2c, ↓ap_dup, ↓ap_dup2, ↓ap_nn, ↓ap_ic, ↓ap_if, ↓ap_sw, ↓ap_head, ↓ap_getI, ↓ap_getR, ↓ap_putI, ↓ap_putN, ↓ap_putR, ↓ap_iald, ↓ap_cald, ↓ap_iast, ↓ap_cast, ↓ap_aald, ↓ap_aast, ↓ap_alen, ↓ap_stat, ↓ap_pop, ↓ap_mm, ↓ap_copy, ↓ap_ret, ↓ap_iret, ↓ap_zret, ↓ap_aret, ↓ap_retA, ↓ap_new, ↓ap_newa, ↓ap_callV, ↓ap_callS, ↓ap_callI, am_in, List.map_cons, List.map_nil, List.getElem?_cons_zero, List.getElem?_cons_succ, List.set_cons_zero, List.set_cons_succ, List.take_succ_cons, List.take_zero, List.drop_succ_cons, List.drop_zero, List.reverse_cons, List.reverse_nil, List.nil_append, List.cons_append, List.append_nil, List.length_cons, List.length_nil, List.replicate_succ, List.replicate_zero, Option.toList_some, Option.toList_none, true_and, and_true, Option.some.injEq, exists_eq_left', am_wI_mk, am_wA_mk, am_wR_mk, Nat.reduceAdd, Nat.reduceSub, Nat.reduceLeDiff, Nat.zero_add, Nat.le_refl, not_true_eq_false, not_false_eq_true, forall_const, false_implies, true_implies, implies_true, and_self, Prod.mk.injEq, eq_self, true_or, or_true, false_and, and_false, or_false, false_or, Nat.reduceEqDiff, ↓a_L_lays_76, ↓a_L_lays_84, g0, g1, g2, g3, arr1 g0, arr1 g1, arr1 g2, arr1 g3, p0, p2, p4, p5, arr1 p0, arr1 p5]
    try simp (disch := omega) only [nm1, nm1', nsub1, np1, npd, nadd, n0m1, m1lt, nlt0, nge0, ngt0, nle0, nlt, nle, neq, neq0, m1n, m4n, vpn, vcl, ne_eq, bI_0, bI_1, bI_01, lit01, lit00, oI_s, oI_n, true_and, and_true, not_true_eq_false, not_false_eq_true, true_implies, false_implies, and_self, implies_true, forall_const, Bool.not_eq_false, Bool.not_eq_true, iu_s, iu_k1, iu_j1, ia_s1, ia_k1, lt2, lt3, lt5, lt6, lt7, lt8, lt9, lt10, lt11, lt12, lt13, lt15, lt16, lt17, lt20, lt26, lt30, lt32, lt36, lt50, lt60, lt64, lt100, lt300, lt400, lt500, lt1000, lt65536, lt100001, lt10000000, lt48, lt57, lt71, lt80, lt97, lt98, lt108, lt110, lt126, lt191, lt200, lt227, lt681, lt832, lt7919, lt1000000, lt18, lt45, lt65535, lt100000, decide_eq_true_eq, decide_eq_false_iff_not, Nat.le_refl, true_or, or_true, eq_self, hTb.2.1]
    obtain ⟨I1, hI1⟩ : ∃ I1, am_u (am_u (am_u I P (gO a k) (nI b)) (P + 2) (gO a k) 0) (P + 5) (gO a k) (nI (t b)) = I1 := ⟨_, rfl⟩
    rw [hI1]
    have f1 : FrA P I I1 := by rw [← hI1]; exact ((FrA.rfl.u (Or.inl rfl)).u (by omega)).u (by omega)
    have cA : I1 P (gO a k) = nI b := by rw [← hI1]; try simp (disch := omega) only [nm1, nm1', nsub1, np1, npd, nadd, n0m1, m1lt, nlt0, nge0, ngt0, nle0, nlt, nle, neq, neq0, m1n, m4n, vpn, vcl, ne_eq, bI_0, bI_1, bI_01, lit01, lit00, oI_s, oI_n, true_and, and_true, not_true_eq_false, not_false_eq_true, true_implies, false_implies, and_self, implies_true, forall_const, Bool.not_eq_false, Bool.not_eq_true, iu_s, iu_k1, iu_j1, ia_s1, ia_k1, lt2, lt3, lt5, lt6, lt7, lt8, lt9, lt10, lt11, lt12, lt13, lt15, lt16, lt17, lt20, lt26, lt30, lt32, lt36, lt50, lt60, lt64, lt100, lt300, lt400, lt500, lt1000, lt65536, lt100001, lt10000000, lt48, lt57, lt71, lt80, lt97, lt98, lt108, lt110, lt126, lt191, lt200, lt227, lt681, lt832, lt7919, lt1000000, lt18, lt45, lt65535, lt100000, decide_eq_true_eq, decide_eq_false_iff_not, Nat.le_refl, true_or, or_true, eq_self]
    have c5 : I1 (P + 5) (gO a k) = nI (t b) := by rw [← hI1]; try simp (disch := omega) only [nm1, nm1', nsub1, np1, npd, nadd, n0m1, m1lt, nlt0, nge0, ngt0, nle0, nlt, nle, neq, neq0, m1n, m4n, vpn, vcl, ne_eq, bI_0, bI_1, bI_01, lit01, lit00, oI_s, oI_n, true_and, and_true, not_true_eq_false, not_false_eq_true, true_implies, false_implies, and_self, implies_true, forall_const, Bool.not_eq_false, Bool.not_eq_true, iu_s, iu_k1, iu_j1, ia_s1, ia_k1, lt2, lt3, lt5, lt6, lt7, lt8, lt9, lt10, lt11, lt12, lt13, lt15, lt16, lt17, lt20, lt26, lt30, lt32, lt36, lt50, lt60, lt64, lt100, lt300, lt400, lt500, lt1000, lt65536, lt100001, lt10000000, lt48, lt57, lt71, lt80, lt97, lt98, lt108, lt110, lt126, lt191, lt200, lt227, lt681, lt832, lt7919, lt1000000, lt18, lt45, lt65535, lt100000, decide_eq_true_eq, decide_eq_false_iff_not, Nat.le_refl, true_or, or_true, eq_self]
    have c2 : I1 (P + 2) (gO a k) = 0 := by rw [← hI1]; try simp (disch := omega) only [nm1, nm1', nsub1, np1, npd, nadd, n0m1, m1lt, nlt0, nge0, ngt0, nle0, nlt, nle, neq, neq0, m1n, m4n, vpn, vcl, ne_eq, bI_0, bI_1, bI_01, lit01, lit00, oI_s, oI_n, true_and, and_true, not_true_eq_false, not_false_eq_true, true_implies, false_implies, and_self, implies_true, forall_const, Bool.not_eq_false, Bool.not_eq_true, iu_s, iu_k1, iu_j1, ia_s1, ia_k1, lt2, lt3, lt5, lt6, lt7, lt8, lt9, lt10, lt11, lt12, lt13, lt15, lt16, lt17, lt20, lt26, lt30, lt32, lt36, lt50, lt60, lt64, lt100, lt300, lt400, lt500, lt1000, lt65536, lt100001, lt10000000, lt48, lt57, lt71, lt80, lt97, lt98, lt108, lt110, lt126, lt191, lt200, lt227, lt681, lt832, lt7919, lt1000000, lt18, lt45, lt65535, lt100000, decide_eq_true_eq, decide_eq_false_iff_not, Nat.le_refl, true_or, or_true, eq_self]
    have oA : ∀ x, x ≠ gO a k → I1 P x = I P x := fun x hx => by rw [← hI1]; try simp (disch := omega) only [nm1, nm1', nsub1, np1, npd, nadd, n0m1, m1lt, nlt0, nge0, ngt0, nle0, nlt, nle, neq, neq0, m1n, m4n, vpn, vcl, ne_eq, bI_0, bI_1, bI_01, lit01, lit00, oI_s, oI_n, true_and, and_true, not_true_eq_false, not_false_eq_true, true_implies, false_implies, and_self, implies_true, forall_const, Bool.not_eq_false, Bool.not_eq_true, iu_s, iu_k1, iu_j1, ia_s1, ia_k1, lt2, lt3, lt5, lt6, lt7, lt8, lt9, lt10, lt11, lt12, lt13, lt15, lt16, lt17, lt20, lt26, lt30, lt32, lt36, lt50, lt60, lt64, lt100, lt300, lt400, lt500, lt1000, lt65536, lt100001, lt10000000, lt48, lt57, lt71, lt80, lt97, lt98, lt108, lt110, lt126, lt191, lt200, lt227, lt681, lt832, lt7919, lt1000000, lt18, lt45, lt65535, lt100000, decide_eq_true_eq, decide_eq_false_iff_not, Nat.le_refl, true_or, or_true, eq_self, iu_j1 hx]
    have o5 : ∀ x, x ≠ gO a k → I1 (P + 5) x = I (P + 5) x := fun x hx => by rw [← hI1]; try simp (disch := omega) only [nm1, nm1', nsub1, np1, npd, nadd, n0m1, m1lt, nlt0, nge0, ngt0, nle0, nlt, nle, neq, neq0, m1n, m4n, vpn, vcl, ne_eq, bI_0, bI_1, bI_01, lit01, lit00, oI_s, oI_n, true_and, and_true, not_true_eq_false, not_false_eq_true, true_implies, false_implies, and_self, implies_true, forall_const, Bool.not_eq_false, Bool.not_eq_true, iu_s, iu_k1, iu_j1, ia_s1, ia_k1, lt2, lt3, lt5, lt6, lt7, lt8, lt9, lt10, lt11, lt12, lt13, lt15, lt16, lt17, lt20, lt26, lt30, lt32, lt36, lt50, lt60, lt64, lt100, lt300, lt400, lt500, lt1000, lt65536, lt100001, lt10000000, lt48, lt57, lt71, lt80, lt97, lt98, lt108, lt110, lt126, lt191, lt200, lt227, lt681, lt832, lt7919, lt1000000, lt18, lt45, lt65535, lt100000, decide_eq_true_eq, decide_eq_false_iff_not, Nat.le_refl, true_or, or_true, eq_self, iu_j1 hx]
    have o2 : ∀ x, x ≠ gO a k → I1 (P + 2) x = I (P + 2) x := fun x hx => by rw [← hI1]; try simp (disch := omega) only [nm1, nm1', nsub1, np1, npd, nadd, n0m1, m1lt, nlt0, nge0, ngt0, nle0, nlt, nle, neq, neq0, m1n, m4n, vpn, vcl, ne_eq, bI_0, bI_1, bI_01, lit01, lit00, oI_s, oI_n, true_and, and_true, not_true_eq_false, not_false_eq_true, true_implies, false_implies, and_self, implies_true, forall_const, Bool.not_eq_false, Bool.not_eq_true, iu_s, iu_k1, iu_j1, ia_s1, ia_k1, lt2, lt3, lt5, lt6, lt7, lt8, lt9, lt10, lt11, lt12, lt13, lt15, lt16, lt17, lt20, lt26, lt30, lt32, lt36, lt50, lt60, lt64, lt100, lt300, lt400, lt500, lt1000, lt65536, lt100001, lt10000000, lt48, lt57, lt71, lt80, lt97, lt98, lt108, lt110, lt126, lt191, lt200, lt227, lt681, lt832, lt7919, lt1000000, lt18, lt45, lt65535, lt100000, decide_eq_true_eq, decide_eq_false_iff_not, Nat.le_refl, true_or, or_true, eq_self, iu_j1 hx]
    have hI1' := f1.lw hP hI
    have hO1 : LOr I1 P a := fun j hj => by rw [f1 (P + 4) (by omega) (by omega) (by omega) (by omega)]; exact hO j hj
    have hJ0 : LJn I1 P a k (gQ a (gs a 1) (gO a k)) (gSt a (gs a 1) k).1 t b 0 := by
      have e0 : ∀ v, gVO (gO a) (gQ a (gs a 1) (gO a k)) (gSt a (gs a 1) k).1 b 0 v = decide (v = (gSt a (gs a 1) k).1 b) := fun v => by unfold gVO; rw [hvO, Bool.or_false]
      refine ⟨fun x hx hxk => ?_, c5, ?_⟩
      · rw [e0, o5 x (ln x hxk), (hT.1 x hx hxk).2.1]
        by_cases h : (gSt a (gs a 1) k).1 x = (gSt a (gs a 1) k).1 b
        · simp only [h, decide_true, if_true]
          rw [(hT.2 x b hx hb.1 hxk hbr).mpr h]
        · simp [h]
      · rw [c2, show (0 : Int32) = nI 0 from rfl]; congr 1; exact (cnt_false (fun i _ => rfl)).symm
    have fin : ∀ I' (o11 o12 o13 o14 o15 o16 o17 : Option am_V), FrJ P I1 I' → (∀ j, j ≠ gO a k → I' (P + 2) j = I1 (P + 2) j) → LJn I' P a k (gQ a (gs a 1) (gO a k)) (gSt a (gs a 1) k).1 t b k → am_OK (h_L_lays bc bs) post 22 [some (.inr 114), some (.inr 115), some (.inr 116), some (.inr 117), some (.inr P), some (.inr (P + 1)), some (.inr (P + 2)), some (.inr (P + 4)), some (.inr (P + 5)), some (.inl (nI (k + 1))), some (.inl (nI (gO a k))), o11, o12, o13, o14, o15, o16, o17] (S, I', R) := by
      intro I' o11 o12 o13 o14 o15 o16 o17 hf' h11 hJ
      have hvh : ∀ v, hvO (gO a) (gQ a (gs a 1) (gO a k)) (gSt a (gs a 1) k).1 k v = hasV (gQ a (gs a 1) (gO a k)) (gSt a (gs a 1) k).1 (gn a) v := by
        intro v
        rw [Bool.eq_iff_iff, hvO_i, hasV_i]
        constructor
        · rintro ⟨i, h1, h2, h3⟩; exact ⟨gO a i, gO_lt (by omega), h2, h3⟩
        · rintro ⟨e, h1, h2, h3⟩
          have h4 := qlt e h2
          exact ⟨gR a e, h4.2, by rw [gO_gR h1]; exact h2, by rw [gO_gR h1]; exact h3⟩
      have eV : gVO (gO a) (gQ a (gs a 1) (gO a k)) (gSt a (gs a 1) k).1 b k = gV (gn a) (gQ a (gs a 1) (gO a k)) (gSt a (gs a 1) k).1 b := funext (fun v => by unfold gVO gV; rw [hvh])
      have eJ : gJO (gO a) (gn a) (gQ a (gs a 1) (gO a k)) (gSt a (gs a 1) k).1 b k = cnt (fun v => hasV (gQ a (gs a 1) (gO a k)) (gSt a (gs a 1) k).1 (gn a) v && decide (v ≠ (gSt a (gs a 1) k).1 b)) (gn a) := cnt_congr (fun v _ => by rw [hvh])
      unfold LJn at hJ
      rw [eV, eJ] at hJ
      have hvb : gV (gn a) (gQ a (gs a 1) (gO a k)) (gSt a (gs a 1) k).1 b ((gSt a (gs a 1) k).1 b) = true := by unfold gV; simp
      have hm := mn_i hvb (n := gn a) (by omega)
      refine hp I' (fun x => if x = gO a k ∨ gV (gn a) (gQ a (gs a 1) (gO a k)) (gSt a (gs a 1) k).1 b ((gSt a (gs a 1) k).1 x) = true then t b else t x) _ _ _ _ _ _ _ (f1.tr hf'.A) ⟨fun x hx hxk => ?_, fun x y hx hy hxk hyk => ?_⟩
      · rw [eS]
        by_cases hxl : x = gO a k
        · subst hxl
          simp only [true_or, if_true, un_s]
          refine ⟨?_, hJ.2.1, hJ.2.2, hTb.2.2.2.1, by have := hTb.2.2.2.2; omega⟩
          rw [hf' P (by omega) (by omega), cA, hA]; rfl
        · have hxr := nl x hx hxk hxl
          have h1 := hT.1 x hx hxr
          simp only [hxl, false_or, un_n hxl]
          refine ⟨?_, hJ.1 x hx hxr, ?_, ?_, ?_⟩
          · rw [hf' P (by omega) (by omega), oA x hxl]; exact h1.1
          · rw [h11 x hxl, o2 x hxl]; exact h1.2.2.1
          · split
            · exact hTb.2.2.2.1
            · exact h1.2.2.2.1
          · split
            · have := hTb.2.2.2.2; omega
            · have := h1.2.2.2.2; omega
      · rw [eS]
        have key : ∀ z, z < gn a → gR a z < k + 1 → ((z = gO a k ∨ gV (gn a) (gQ a (gs a 1) (gO a k)) (gSt a (gs a 1) k).1 b ((gSt a (gs a 1) k).1 z) = true) ↔ (z = gO a k ∨ (gR a z < k ∧ gV (gn a) (gQ a (gs a 1) (gO a k)) (gSt a (gs a 1) k).1 b ((gSt a (gs a 1) k).1 z) = true))) := by
          intro z hz hzk
          constructor
          · rintro (h | h)
            · exact Or.inl h
            · by_cases hzl : z = gO a k
              · exact Or.inl hzl
              · exact Or.inr ⟨nl z hz hzk hzl, h⟩
          · rintro (h | h)
            · exact Or.inl h
            · exact Or.inr h.2
        have apart : ∀ z, z < gn a → gR a z < k + 1 → ¬ (z = gO a k ∨ gV (gn a) (gQ a (gs a 1) (gO a k)) (gSt a (gs a 1) k).1 b ((gSt a (gs a 1) k).1 z) = true) → gR a z < k ∧ t z ≠ t b ∧ (gSt a (gs a 1) k).1 z ≠ mn (gV (gn a) (gQ a (gs a 1) (gO a k)) (gSt a (gs a 1) k).1 b) (gn a) := by
          intro z hz hzk hno
          have hzr := nl z hz hzk (fun q => hno (Or.inl q))
          refine ⟨hzr, fun q => hno (Or.inr ?_), fun q => hno (Or.inr ?_)⟩
          · rw [(hT.2 z b hz hb.1 hzr hbr).mp q]; exact hvb
          · rw [q]; exact hm.1
        simp only
        by_cases cx : x = gO a k ∨ gV (gn a) (gQ a (gs a 1) (gO a k)) (gSt a (gs a 1) k).1 b ((gSt a (gs a 1) k).1 x) = true
        · rw [if_pos cx, if_pos ((key x hx hxk).mp cx)]
          by_cases cy : y = gO a k ∨ gV (gn a) (gQ a (gs a 1) (gO a k)) (gSt a (gs a 1) k).1 b ((gSt a (gs a 1) k).1 y) = true
          · rw [if_pos cy, if_pos ((key y hy hyk).mp cy)]
            exact ⟨fun _ => rfl, fun _ => rfl⟩
          · have ay := apart y hy hyk cy
            rw [if_neg cy, if_neg (fun q => cy ((key y hy hyk).mpr q))]
            exact ⟨fun q => absurd q.symm ay.2.1, fun q => absurd q.symm ay.2.2⟩
        · have ax := apart x hx hxk cx
          rw [if_neg cx, if_neg (fun q => cx ((key x hx hxk).mpr q))]
          by_cases cy : y = gO a k ∨ gV (gn a) (gQ a (gs a 1) (gO a k)) (gSt a (gs a 1) k).1 b ((gSt a (gs a 1) k).1 y) = true
          · rw [if_pos cy, if_pos ((key y hy hyk).mp cy)]
            exact ⟨fun q => absurd q ax.2.1, fun q => absurd q ax.2.2⟩
          · have ay := apart y hy hyk cy
            rw [if_neg cy, if_neg (fun q => cy ((key y hy hyk).mpr q))]
            exact hT.2 x y hx hy ax.1 ay.1
    cases hc : gC a (gO a k) (gk a) with
    | some x =>
      have nq : ∀ e, gQ a (gs a 1) (gO a k) e = false := fun e => by
        cases hq : gQ a (gs a 1) (gO a k) e
        · rfl
        · obtain ⟨b', hb'⟩ := (gRv_may (gQ_i hq).2.2.1).2
          have := (gBest_i hl hb').2
          rw [hc] at this; cases this
      have all : ∀ p, gVO (gO a) (gQ a (gs a 1) (gO a k)) (gSt a (gs a 1) k).1 b p = gVO (gO a) (gQ a (gs a 1) (gO a k)) (gSt a (gs a 1) k).1 b 0 ∧ gJO (gO a) (gn a) (gQ a (gs a 1) (gO a k)) (gSt a (gs a 1) k).1 b p = gJO (gO a) (gn a) (gQ a (gs a 1) (gO a k)) (gSt a (gs a 1) k).1 b 0 := by
        intro p
        induction p with
        | zero => exact ⟨rfl, rfl⟩
        | succ p ih =>
          have js := joinO_same (O := gO a) (n := gn a) (fp := (gSt a (gs a 1) k).1) (b := b) (p := p) (Or.inl (nq _))
          exact ⟨(funext js.1).trans ih.1, js.2.trans ih.2⟩
      have hJk : LJn I1 P a k (gQ a (gs a 1) (gO a k)) (gSt a (gs a 1) k).1 t b k := by
        unfold LJn at hJ0 ⊢
        rw [(all k).1, (all k).2]; exact hJ0
      apply am_fold; rw [h_L_lays_88]
      simp only [↓ap_cc, ↓ap_const, ↓ap_iload, ↓ap_aload, ↓ap_istore, ↓ap_astore, ↓ap_iinc, ↓ap_bin, ↓ap_idiv, ↓ap_irem, ↓ap_callSA, ↓ap_iretA, ↓ap_zretA, ↓ap_i2c, ↓ap_dup, ↓ap_dup2, ↓ap_nn, ↓ap_ic, ↓ap_if, ↓ap_sw, ↓ap_head, ↓ap_getI, ↓ap_getR, ↓ap_putI, ↓ap_putN, ↓ap_putR, ↓ap_iald, ↓ap_cald, ↓ap_iast, ↓ap_cast, ↓ap_aald, ↓ap_aast, ↓ap_alen, ↓ap_stat, ↓ap_pop, ↓ap_mm, ↓ap_copy, ↓ap_ret, ↓ap_iret, ↓ap_zret, ↓ap_aret, ↓ap_retA, ↓ap_new, ↓ap_newa, ↓ap_callV, ↓ap_callS, ↓ap_callI, am_in, List.map_cons, List.map_nil, List.getElem?_cons_zero, List.getElem?_cons_succ, List.set_cons_zero, List.set_cons_succ, List.take_succ_cons, List.take_zero, List.drop_succ_cons, List.drop_zero, List.reverse_cons, List.reverse_nil, List.nil_append, List.cons_append, List.append_nil, List.length_cons, List.length_nil, List.replicate_succ, List.replicate_zero, Option.toList_some, Option.toList_none, true_and, and_true, Option.some.injEq, exists_eq_left', am_wI_mk, am_wA_mk, am_wR_mk, Nat.reduceAdd, Nat.reduceSub, Nat.reduceLeDiff, Nat.zero_add, Nat.le_refl, not_true_eq_false, not_false_eq_true, forall_const, false_implies, true_implies, implies_true, and_self, Prod.mk.injEq, eq_self, true_or, or_true, false_and, and_false, or_false, false_or, Nat.reduceEqDiff, ↓a_L_lays_88, ↓a_L_lays_332, g0, g1, g2, g3, arr1 g0, arr1 g1, arr1 g2, arr1 g3, p0, p2, p4, p5, arr1 p0]
      try simp (disch := omega) only [nm1, nm1', nsub1, np1, npd, nadd, n0m1, m1lt, nlt0, nge0, ngt0, nle0, nlt, nle, neq, neq0, m1n, m4n, vpn, vcl, ne_eq, bI_0, bI_1, bI_01, lit01, lit00, oI_s, oI_n, true_and, and_true, not_true_eq_false, not_false_eq_true, true_implies, false_implies, and_self, implies_true, forall_const, Bool.not_eq_false, Bool.not_eq_true, iu_s, iu_k1, iu_j1, ia_s1, ia_k1, lt2, lt3, lt5, lt6, lt7, lt8, lt9, lt10, lt11, lt12, lt13, lt15, lt16, lt17, lt20, lt26, lt30, lt32, lt36, lt50, lt60, lt64, lt100, lt300, lt400, lt500, lt1000, lt65536, lt100001, lt10000000, lt48, lt57, lt71, lt80, lt97, lt98, lt108, lt110, lt126, lt191, lt200, lt227, lt681, lt832, lt7919, lt1000000, lt18, lt45, lt65535, lt100000, decide_eq_true_eq, decide_eq_false_iff_not, Nat.le_refl, true_or, or_true, eq_self, cA]
      refine ⟨fun _ => fin I1 _ _ _ _ _ _ _ FrJ.rfl (fun _ _ => rfl) hJk, fun _ => l_counts hS hI1' hB h8 (by omega) ?_⟩
      rw [hc]
      simp only [↓ap_cc, ↓ap_const, ↓ap_iload, ↓ap_aload, ↓ap_istore, ↓ap_astore, ↓ap_iinc, ↓ap_bin, ↓ap_idiv, ↓ap_irem, ↓ap_callSA, ↓ap_iretA, ↓ap_zretA, ↓ap_i2c, ↓ap_dup, ↓ap_dup2, ↓ap_nn, ↓ap_ic, ↓ap_if, ↓ap_sw, ↓ap_head, ↓ap_getI, ↓ap_getR, ↓ap_putI, ↓ap_putN, ↓ap_putR, ↓ap_iald, ↓ap_cald, ↓ap_iast, ↓ap_cast, ↓ap_aald, ↓ap_aast, ↓ap_alen, ↓ap_stat, ↓ap_pop, ↓ap_mm, ↓ap_copy, ↓ap_ret, ↓ap_iret, ↓ap_zret, ↓ap_aret, ↓ap_retA, ↓ap_new, ↓ap_newa, ↓ap_callV, ↓ap_callS, ↓ap_callI, am_in, List.map_cons, List.map_nil, List.getElem?_cons_zero, List.getElem?_cons_succ, List.set_cons_zero, List.set_cons_succ, List.take_succ_cons, List.take_zero, List.drop_succ_cons, List.drop_zero, List.reverse_cons, List.reverse_nil, List.nil_append, List.cons_append, List.append_nil, List.length_cons, List.length_nil, List.replicate_succ, List.replicate_zero, Option.toList_some, Option.toList_none, true_and, and_true, Option.some.injEq, exists_eq_left', am_wI_mk, am_wA_mk, am_wR_mk, Nat.reduceAdd, Nat.reduceSub, Nat.reduceLeDiff, Nat.zero_add, Nat.le_refl, not_true_eq_false, not_false_eq_true, forall_const, false_implies, true_implies, implies_true, and_self, Prod.mk.injEq, eq_self, true_or, or_true, false_and, and_false, or_false, false_or, Nat.reduceEqDiff, ↓a_L_lays_332, g0, g1, g2, g3, arr1 g0, arr1 g1, arr1 g2, arr1 g3]
      rw [oI_s]
      refine ⟨fun _ => ?_, fun h => absurd (nI_pos' (by have := (gC_i hc).1; omega)) h⟩
      try simp (disch := omega) only [nm1, nm1', nsub1, np1, npd, nadd, n0m1, m1lt, nlt0, nge0, ngt0, nle0, nlt, nle, neq, neq0, m1n, m4n, vpn, vcl, ne_eq, bI_0, bI_1, bI_01, lit01, lit00, oI_s, oI_n, true_and, and_true, not_true_eq_false, not_false_eq_true, true_implies, false_implies, and_self, implies_true, forall_const, Bool.not_eq_false, Bool.not_eq_true, iu_s, iu_k1, iu_j1, ia_s1, ia_k1, lt2, lt3, lt5, lt6, lt7, lt8, lt9, lt10, lt11, lt12, lt13, lt15, lt16, lt17, lt20, lt26, lt30, lt32, lt36, lt50, lt60, lt64, lt100, lt300, lt400, lt500, lt1000, lt65536, lt100001, lt10000000, lt48, lt57, lt71, lt80, lt97, lt98, lt108, lt110, lt126, lt191, lt200, lt227, lt681, lt832, lt7919, lt1000000, lt18, lt45, lt65535, lt100000, decide_eq_true_eq, decide_eq_false_iff_not, Nat.le_refl, true_or, or_true, eq_self]
      exact fin I1 _ _ _ _ _ _ _ FrJ.rfl (fun _ _ => rfl) hJk
    | none =>
      exact l_joins (t := t) hS hI1' hB h8 hP hL hW hO1 hk hA hc cA (fun x hx hxk => by have := (hst x hx hxk).1; omega) (fun x hx hxk => by have := (hT.1 x hx hxk).2.2.2.1; omega) hT.2 hJ0 (fun I' _ _ _ _ _ _ _ hf' h11 hJ => fin I' _ _ _ _ _ _ _ hf' h11 hJ) _ _ _ _ _ _
/-- the threads' numbers -/
theorem l_num {t : Nat → Nat} {o12 o13 o14 o15 o16 o17 : Option am_V} (hS : LwS S) (hI : LwI I a) (hB : LgB a) (h8 : Lw8 a) (hP : 118 ≤ P) (hL : LpS S P) (hO : LOr I P a) (hT : LTh I P a (gs a 1) (gn a) t) (hbc : S.length = bc) (hbs : am_sz S = bs)
    (hp : ∀ I', FrA P I I' → (∀ x, x ≠ P + 1 → I' x = I x) → (∀ x, x < gn a → I' (P + 1) x = nI (gNu a (gs a 1) x)) → post (some (.inl (nI (gTn a (gs a 1))))) (S, I', R)) :
    ∀ p, p ≤ gn a → ∀ I' (o11 : Option am_V), (∀ x, x ≠ P + 1 → I' x = I x) → (∀ x, x < gn a → gR a x < p → I' (P + 1) x = nI (gNu a (gs a 1) x)) → am_OK (h_L_lays bc bs) post 344 [some (.inr 114), some (.inr 115), some (.inr 116), some (.inr 117), some (.inr P), some (.inr (P + 1)), some (.inr (P + 2)), some (.inr (P + 4)), some (.inr (P + 5)), some (.inl (nI (gNf a (gs a 1) p))), some (.inl (nI p)), o11, o12, o13, o14, o15, o16, o17] (S, I', R) := by
  obtain ⟨g0, g1, g2, g3⟩ := id hS
  have bt := h8.1
  have bn := h8.2.1
  have bk := h8.2.2.1
  obtain ⟨p0, p1, p2, p4, p5⟩ := id hL
  refine dn (gn a) ?_ ?_
  · intro I' o11 hf h1
    have fA : FrA P I I' := fun x _ h2 _ _ => hf x h2
    have hI' := fA.lw hP hI
    apply am_fold; rw [h_L_lays_344]
    simp only [↓ap_cc, ↓ap_const, ↓ap_iload, ↓ap_aload, ↓ap_istore, ↓ap_astore, ↓ap_iinc, ↓ap_bin, ↓ap_idiv, ↓ap_irem, ↓ap_callSA, ↓ap_iretA, ↓ap_zretA, ↓ap_i2c, ↓ap_dup, ↓ap_dup2, ↓ap_nn, ↓ap_ic, ↓ap_if, ↓ap_sw, ↓ap_head, ↓ap_getI, ↓ap_getR, ↓ap_putI, ↓ap_putN, ↓ap_putR, ↓ap_iald, ↓ap_cald, ↓ap_iast, ↓ap_cast, ↓ap_aald, ↓ap_aast, ↓ap_alen, ↓ap_stat, ↓ap_pop, ↓ap_mm, ↓ap_copy, ↓ap_ret, ↓ap_iret, ↓ap_zret, ↓ap_aret, ↓ap_retA, ↓ap_new, ↓ap_newa, ↓ap_callV, ↓ap_callS, ↓ap_callI, am_in, List.map_cons, List.map_nil, List.getElem?_cons_zero, List.getElem?_cons_succ, List.set_cons_zero, List.set_cons_succ, List.take_succ_cons, List.take_zero, List.drop_succ_cons, List.drop_zero, List.reverse_cons, List.reverse_nil, List.nil_append, List.cons_append, List.append_nil, List.length_cons, List.length_nil, List.replicate_succ, List.replicate_zero, Option.toList_some, Option.toList_none, true_and, and_true, Option.some.injEq, exists_eq_left', am_wI_mk, am_wA_mk, am_wR_mk, Nat.reduceAdd, Nat.reduceSub, Nat.reduceLeDiff, Nat.zero_add, Nat.le_refl, not_true_eq_false, not_false_eq_true, forall_const, false_implies, true_implies, implies_true, and_self, Prod.mk.injEq, eq_self, true_or, or_true, false_and, and_false, or_false, false_or, Nat.reduceEqDiff, ↓a_L_lays_344, ↓a_L_lays_432, g0, g1, g2, g3, arr1 g0, arr1 g1, arr1 g2, arr1 g3]
    try simp (disch := omega) only [nm1, nm1', nsub1, np1, npd, nadd, n0m1, m1lt, nlt0, nge0, ngt0, nle0, nlt, nle, neq, neq0, m1n, m4n, vpn, vcl, ne_eq, bI_0, bI_1, bI_01, lit01, lit00, oI_s, oI_n, true_and, and_true, not_true_eq_false, not_false_eq_true, true_implies, false_implies, and_self, implies_true, forall_const, Bool.not_eq_false, Bool.not_eq_true, iu_s, iu_k1, iu_j1, ia_s1, ia_k1, lt2, lt3, lt5, lt6, lt7, lt8, lt9, lt10, lt11, lt12, lt13, lt15, lt16, lt17, lt20, lt26, lt30, lt32, lt36, lt50, lt60, lt64, lt100, lt300, lt400, lt500, lt1000, lt65536, lt100001, lt10000000, lt48, lt57, lt71, lt80, lt97, lt98, lt108, lt110, lt126, lt191, lt200, lt227, lt681, lt832, lt7919, lt1000000, lt18, lt45, lt65535, lt100000, decide_eq_true_eq, decide_eq_false_iff_not, Nat.le_refl, true_or, or_true, eq_self, hI'.n]
    exact ⟨⟨hbc, hbs⟩, hp I' fA hf (fun x hx => h1 x hx (gR_lt hx))⟩
  · intro p hpn ih I' o11 hf h1
    have fA : FrA P I I' := fun x _ h2 _ _ => hf x h2
    have hI' := fA.lw hP hI
    have hl := gO_lt (a := a) hpn
    have hRl := gR_gO (a := a) hpn
    have hfp := gFp_i hB (gs a 1) hl
    have bN := gNf_le a (gs a 1) p
    have gss := gNf_s a (gs a 1) p
    have bnu := gNu_b hB (gs a 1) hl
    have bT : gTn a (gs a 1) ≤ gn a := gNf_le a (gs a 1) (gn a)
    obtain ⟨v, hv⟩ : ∃ v, gFp a (gs a 1) (gO a p) = v := ⟨_, rfl⟩
    rw [hv, hRl] at hfp
    have e4 : ∀ j, j < gn a → I' (P + 4) j = nI (gO a j) := fun j hj => by rw [hf (P + 4) (by omega)]; exact hO j hj
    have e5 : ∀ x, x < gn a → I' (P + 5) x = nI (t x) ∧ t x < gn a := fun x hx => by
      rw [hf (P + 5) (by omega)]
      have := hT.1 x hx (gR_lt hx)
      exact ⟨this.2.1, this.2.2.2.1⟩
    have lab : ∀ x y, x < gn a → y < gn a → (t x = t y ↔ gFp a (gs a 1) x = gFp a (gs a 1) y) := fun x y hx hy => hT.2 x y hx hy (gR_lt hx) (gR_lt hy)
    have hlv := gO_lt (a := a) (k := v) (by omega)
    have nuv : gNu a (gs a 1) (gO a p) = gNf a (gs a 1) v := by unfold gNu; rw [hv]
    have nuv2 : gNu a (gs a 1) (gO a v) = gNf a (gs a 1) v := by unfold gNu; rw [hfp.2]
    have nx : ∀ z, z = nI (gNu a (gs a 1) (gO a p)) → am_OK (h_L_lays bc bs) post 344 [some (.inr 114), some (.inr 115), some (.inr 116), some (.inr 117), some (.inr P), some (.inr (P + 1)), some (.inr (P + 2)), some (.inr (P + 4)), some (.inr (P + 5)), some (.inl (nI (gNf a (gs a 1) (p + 1)))), some (.inl (nI (p + 1))), some (.inl (nI v)), o12, o13, o14, o15, o16, o17] (S, am_u I' (P + 1) (gO a p) z, R) := by
      intro z hz
      refine ih _ _ (fun x hx => by rw [iu_k hx]; exact hf x hx) (fun x hx hxp => ?_)
      rw [iu_i]
      by_cases hxl : x = gO a p
      · rw [if_pos hxl, hz, hxl]
      · rw [if_neg hxl]
        have : gR a x ≠ p := fun q => hxl (gR_inj hx hl (by rw [q, hRl]))
        exact h1 x hx (by omega)
    have l356 : ∀ f, f ≤ v → am_OK (h_L_lays bc bs) post 356 [some (.inr 114), some (.inr 115), some (.inr 116), some (.inr 117), some (.inr P), some (.inr (P + 1)), some (.inr (P + 2)), some (.inr (P + 4)), some (.inr (P + 5)), some (.inl (nI (gNf a (gs a 1) p))), some (.inl (nI p)), some (.inl (nI f)), o12, o13, o14, o15, o16, o17] (S, I', R) := by
      refine dn v ?_ ?_
      · have tv : t (gO a v) = t (gO a p) := (lab _ _ hlv hl).mpr (by rw [hfp.2, hv])
        have b5 := (e5 _ hlv).2
        have b6 := (e5 _ hl).2
        apply am_fold; rw [h_L_lays_356]
        simp only [↓ap_cc, ↓ap_const, ↓ap_iload, ↓ap_aload, ↓ap_istore, ↓ap_astore, ↓ap_iinc, ↓ap_bin, ↓ap_idiv, ↓ap_irem, ↓ap_callSA, ↓ap_iretA, ↓ap_zretA, ↓ap_i2c, ↓ap_dup, ↓ap_dup2, ↓ap_nn, ↓ap_ic, ↓ap_if, ↓ap_sw, ↓ap_head, ↓ap_getI, ↓ap_getR, ↓ap_putI, ↓ap_putN, ↓ap_putR, ↓ap_iald, ↓ap_cald, ↓ap_iast, ↓ap_cast, ↓ap_aald, ↓ap_aast, ↓ap_alen, ↓ap_stat, ↓ap_pop, ↓ap_mm, ↓ap_copy, ↓ap_ret, ↓ap_iret, ↓ap_zret, ↓ap_aret, ↓ap_retA, ↓ap_new, ↓ap_newa, ↓ap_callV, ↓ap_callS, ↓ap_callI, am_in, List.map_cons, List.map_nil, List.getElem?_cons_zero, List.getElem?_cons_succ, List.set_cons_zero, List.set_cons_succ, List.take_succ_cons, List.take_zero, List.drop_succ_cons, List.drop_zero, List.reverse_cons, List.reverse_nil, List.nil_append, List.cons_append, List.append_nil, List.length_cons, List.length_nil, List.replicate_succ, List.replicate_zero, Option.toList_some, Option.toList_none, true_and, and_true, Option.some.injEq, exists_eq_left', am_wI_mk, am_wA_mk, am_wR_mk, Nat.reduceAdd, Nat.reduceSub, Nat.reduceLeDiff, Nat.zero_add, Nat.le_refl, not_true_eq_false, not_false_eq_true, forall_const, false_implies, true_implies, implies_true, and_self, Prod.mk.injEq, eq_self, true_or, or_true, false_and, and_false, or_false, false_or, Nat.reduceEqDiff, ↓a_L_lays_356, g0, g1, g2, g3, arr1 g0, arr1 g1, arr1 g2, arr1 g3, p1, p4, p5, arr1 p4, arr1 p5, arr1 p1]
        try simp (disch := omega) only [nm1, nm1', nsub1, np1, npd, nadd, n0m1, m1lt, nlt0, nge0, ngt0, nle0, nlt, nle, neq, neq0, m1n, m4n, vpn, vcl, ne_eq, bI_0, bI_1, bI_01, lit01, lit00, oI_s, oI_n, true_and, and_true, not_true_eq_false, not_false_eq_true, true_implies, false_implies, and_self, implies_true, forall_const, Bool.not_eq_false, Bool.not_eq_true, iu_s, iu_k1, iu_j1, ia_s1, ia_k1, lt2, lt3, lt5, lt6, lt7, lt8, lt9, lt10, lt11, lt12, lt13, lt15, lt16, lt17, lt20, lt26, lt30, lt32, lt36, lt50, lt60, lt64, lt100, lt300, lt400, lt500, lt1000, lt65536, lt100001, lt10000000, lt48, lt57, lt71, lt80, lt97, lt98, lt108, lt110, lt126, lt191, lt200, lt227, lt681, lt832, lt7919, lt1000000, lt18, lt45, lt65535, lt100000, decide_eq_true_eq, decide_eq_false_iff_not, Nat.le_refl, true_or, or_true, eq_self, e4, (e5 _ hlv).1, (e5 _ hl).1, tv]
        simp only [↓ap_cc, ↓ap_const, ↓ap_iload, ↓ap_aload, ↓ap_istore, ↓ap_astore, ↓ap_iinc, ↓ap_bin, ↓ap_idiv, ↓ap_irem, ↓ap_callSA, ↓ap_iretA, ↓ap_zretA, ↓ap_i2c, ↓ap_dup, ↓ap_dup2, ↓ap_nn, ↓ap_ic, ↓ap_if, ↓ap_sw, ↓ap_head, ↓ap_getI, ↓ap_getR, ↓ap_putI, ↓ap_putN, ↓ap_putR, ↓ap_iald, ↓ap_cald, ↓ap_iast, ↓ap_cast, ↓ap_aald, ↓ap_aast, ↓ap_alen, ↓ap_stat, ↓ap_pop, ↓ap_mm, ↓ap_copy, ↓ap_ret, ↓ap_iret, ↓ap_zret, ↓ap_aret, ↓ap_retA, ↓ap_new, ↓ap_newa, ↓ap_callV, ↓ap_callS, ↓ap_callI, am_in, List.map_cons, List.map_nil, List.getElem?_cons_zero, List.getElem?_cons_succ, List.set_cons_zero, List.set_cons_succ, List.take_succ_cons, List.take_zero, List.drop_succ_cons, List.drop_zero, List.reverse_cons, List.reverse_nil, List.nil_append, List.cons_append, List.append_nil, List.length_cons, List.length_nil, List.replicate_succ, List.replicate_zero, Option.toList_some, Option.toList_none, true_and, and_true, Option.some.injEq, exists_eq_left', am_wI_mk, am_wA_mk, am_wR_mk, Nat.reduceAdd, Nat.reduceSub, Nat.reduceLeDiff, Nat.zero_add, Nat.le_refl, not_true_eq_false, not_false_eq_true, forall_const, false_implies, true_implies, implies_true, and_self, Prod.mk.injEq, eq_self, true_or, or_true, false_and, and_false, or_false, false_or, Nat.reduceEqDiff, ↓a_L_lays_381, ↓a_L_lays_400, ↓a_L_lays_408, ↓a_L_lays_422, ↓a_L_lays_423, g0, g1, g2, g3, arr1 g0, arr1 g1, arr1 g2, arr1 g3, p1, p4, p5, arr1 p4, arr1 p5, arr1 p1]
        try simp (disch := omega) only [nm1, nm1', nsub1, np1, npd, nadd, n0m1, m1lt, nlt0, nge0, ngt0, nle0, nlt, nle, neq, neq0, m1n, m4n, vpn, vcl, ne_eq, bI_0, bI_1, bI_01, lit01, lit00, oI_s, oI_n, true_and, and_true, not_true_eq_false, not_false_eq_true, true_implies, false_implies, and_self, implies_true, forall_const, Bool.not_eq_false, Bool.not_eq_true, iu_s, iu_k1, iu_j1, ia_s1, ia_k1, lt2, lt3, lt5, lt6, lt7, lt8, lt9, lt10, lt11, lt12, lt13, lt15, lt16, lt17, lt20, lt26, lt30, lt32, lt36, lt50, lt60, lt64, lt100, lt300, lt400, lt500, lt1000, lt65536, lt100001, lt10000000, lt48, lt57, lt71, lt80, lt97, lt98, lt108, lt110, lt126, lt191, lt200, lt227, lt681, lt832, lt7919, lt1000000, lt18, lt45, lt65535, lt100000, decide_eq_true_eq, decide_eq_false_iff_not, Nat.le_refl, true_or, or_true, eq_self, e4]
        by_cases hvp : v = p
        · rw [if_pos (by rw [hv]; exact hvp)] at gss
          have hnu : gNf a (gs a 1) p = gNu a (gs a 1) (gO a p) := by rw [nuv, hvp]
          refine ⟨fun q => absurd hvp q, fun _ => ⟨fun q => absurd hvp q, fun _ => ?_⟩⟩
          have := nx (nI (gNf a (gs a 1) p)) (by rw [hnu])
          rw [gss] at this; exact this
        · rw [if_neg (by rw [hv]; exact hvp)] at gss
          have hRv := gR_gO (a := a) (k := v) (by omega)
          refine ⟨fun _ => ?_, fun q => absurd (Classical.byContradiction q) hvp⟩
          have e1 : I' (P + 1) (gO a v) = nI (gNu a (gs a 1) (gO a v)) := h1 _ hlv (by omega)
          try simp (disch := omega) only [nm1, nm1', nsub1, np1, npd, nadd, n0m1, m1lt, nlt0, nge0, ngt0, nle0, nlt, nle, neq, neq0, m1n, m4n, vpn, vcl, ne_eq, bI_0, bI_1, bI_01, lit01, lit00, oI_s, oI_n, true_and, and_true, not_true_eq_false, not_false_eq_true, true_implies, false_implies, and_self, implies_true, forall_const, Bool.not_eq_false, Bool.not_eq_true, iu_s, iu_k1, iu_j1, ia_s1, ia_k1, lt2, lt3, lt5, lt6, lt7, lt8, lt9, lt10, lt11, lt12, lt13, lt15, lt16, lt17, lt20, lt26, lt30, lt32, lt36, lt50, lt60, lt64, lt100, lt300, lt400, lt500, lt1000, lt65536, lt100001, lt10000000, lt48, lt57, lt71, lt80, lt97, lt98, lt108, lt110, lt126, lt191, lt200, lt227, lt681, lt832, lt7919, lt1000000, lt18, lt45, lt65535, lt100000, decide_eq_true_eq, decide_eq_false_iff_not, Nat.le_refl, true_or, or_true, eq_self, e1]
          refine ⟨fun _ => ?_, fun q => absurd (Classical.byContradiction q) hvp⟩
          have := nx (nI (gNu a (gs a 1) (gO a v))) (by rw [nuv, nuv2])
          rw [gss] at this
          rw [Int32.add_zero]; exact this
      · intro f hfv ihf
        have hlf := gO_lt (a := a) (k := f) (by omega)
        have hRf := gR_gO (a := a) (k := f) (by omega)
        have tf : t (gO a f) ≠ t (gO a p) := fun q => by
          have h2 := (lab _ _ hlf hl).mp q
          have h3 := (gFp_i hB (gs a 1) hlf).1
          rw [hv] at h2; omega
        have b5 := (e5 _ hlf).2
        have b6 := (e5 _ hl).2
        apply am_fold; rw [h_L_lays_356]
        simp only [↓ap_cc, ↓ap_const, ↓ap_iload, ↓ap_aload, ↓ap_istore, ↓ap_astore, ↓ap_iinc, ↓ap_bin, ↓ap_idiv, ↓ap_irem, ↓ap_callSA, ↓ap_iretA, ↓ap_zretA, ↓ap_i2c, ↓ap_dup, ↓ap_dup2, ↓ap_nn, ↓ap_ic, ↓ap_if, ↓ap_sw, ↓ap_head, ↓ap_getI, ↓ap_getR, ↓ap_putI, ↓ap_putN, ↓ap_putR, ↓ap_iald, ↓ap_cald, ↓ap_iast, ↓ap_cast, ↓ap_aald, ↓ap_aast, ↓ap_alen, ↓ap_stat, ↓ap_pop, ↓ap_mm, ↓ap_copy, ↓ap_ret, ↓ap_iret, ↓ap_zret, ↓ap_aret, ↓ap_retA, ↓ap_new, ↓ap_newa, ↓ap_callV, ↓ap_callS, ↓ap_callI, am_in, List.map_cons, List.map_nil, List.getElem?_cons_zero, List.getElem?_cons_succ, List.set_cons_zero, List.set_cons_succ, List.take_succ_cons, List.take_zero, List.drop_succ_cons, List.drop_zero, List.reverse_cons, List.reverse_nil, List.nil_append, List.cons_append, List.append_nil, List.length_cons, List.length_nil, List.replicate_succ, List.replicate_zero, Option.toList_some, Option.toList_none, true_and, and_true, Option.some.injEq, exists_eq_left', am_wI_mk, am_wA_mk, am_wR_mk, Nat.reduceAdd, Nat.reduceSub, Nat.reduceLeDiff, Nat.zero_add, Nat.le_refl, not_true_eq_false, not_false_eq_true, forall_const, false_implies, true_implies, implies_true, and_self, Prod.mk.injEq, eq_self, true_or, or_true, false_and, and_false, or_false, false_or, Nat.reduceEqDiff, ↓a_L_lays_356, g0, g1, g2, g3, arr1 g0, arr1 g1, arr1 g2, arr1 g3, p4, p5, arr1 p4, arr1 p5]
        try simp (disch := omega) only [nm1, nm1', nsub1, np1, npd, nadd, n0m1, m1lt, nlt0, nge0, ngt0, nle0, nlt, nle, neq, neq0, m1n, m4n, vpn, vcl, ne_eq, bI_0, bI_1, bI_01, lit01, lit00, oI_s, oI_n, true_and, and_true, not_true_eq_false, not_false_eq_true, true_implies, false_implies, and_self, implies_true, forall_const, Bool.not_eq_false, Bool.not_eq_true, iu_s, iu_k1, iu_j1, ia_s1, ia_k1, lt2, lt3, lt5, lt6, lt7, lt8, lt9, lt10, lt11, lt12, lt13, lt15, lt16, lt17, lt20, lt26, lt30, lt32, lt36, lt50, lt60, lt64, lt100, lt300, lt400, lt500, lt1000, lt65536, lt100001, lt10000000, lt48, lt57, lt71, lt80, lt97, lt98, lt108, lt110, lt126, lt191, lt200, lt227, lt681, lt832, lt7919, lt1000000, lt18, lt45, lt65535, lt100000, decide_eq_true_eq, decide_eq_false_iff_not, Nat.le_refl, true_or, or_true, eq_self, e4, (e5 _ hlf).1, (e5 _ hl).1]
        exact ⟨fun q => absurd q tf, fun _ => ihf⟩
    apply am_fold; rw [h_L_lays_344]
    simp only [↓ap_cc, ↓ap_const, ↓ap_iload, ↓ap_aload, ↓ap_istore, ↓ap_astore, ↓ap_iinc, ↓ap_bin, ↓ap_idiv, ↓ap_irem, ↓ap_callSA, ↓ap_iretA, ↓ap_zretA, ↓ap_i2c, ↓ap_dup, ↓ap_dup2, ↓ap_nn, ↓ap_ic, ↓ap_if, ↓ap_sw, ↓ap_head, ↓ap_getI, ↓ap_getR, ↓ap_putI, ↓ap_putN, ↓ap_putR, ↓ap_iald, ↓ap_cald, ↓ap_iast, ↓ap_cast, ↓ap_aald, ↓ap_aast, ↓ap_alen, ↓ap_stat, ↓ap_pop, ↓ap_mm, ↓ap_copy, ↓ap_ret, ↓ap_iret, ↓ap_zret, ↓ap_aret, ↓ap_retA, ↓ap_new, ↓ap_newa, ↓ap_callV, ↓ap_callS, ↓ap_callI, am_in, List.map_cons, List.map_nil, List.getElem?_cons_zero, List.getElem?_cons_succ, List.set_cons_zero, List.set_cons_succ, List.take_succ_cons, List.take_zero, List.drop_succ_cons, List.drop_zero, List.reverse_cons, List.reverse_nil, List.nil_append, List.cons_append, List.append_nil, List.length_cons, List.length_nil, List.replicate_succ, List.replicate_zero, Option.toList_some, Option.toList_none, true_and, and_true, Option.some.injEq, exists_eq_left', am_wI_mk, am_wA_mk, am_wR_mk, Nat.reduceAdd, Nat.reduceSub, Nat.reduceLeDiff, Nat.zero_add, Nat.le_refl, not_true_eq_false, not_false_eq_true, forall_const, false_implies, true_implies, implies_true, and_self, Prod.mk.injEq, eq_self, true_or, or_true, false_and, and_false, or_false, false_or, Nat.reduceEqDiff, ↓a_L_lays_344, g0, g1, g2, g3, arr1 g0, arr1 g1, arr1 g2, arr1 g3]
    try simp (disch := omega) only [nm1, nm1', nsub1, np1, npd, nadd, n0m1, m1lt, nlt0, nge0, ngt0, nle0, nlt, nle, neq, neq0, m1n, m4n, vpn, vcl, ne_eq, bI_0, bI_1, bI_01, lit01, lit00, oI_s, oI_n, true_and, and_true, not_true_eq_false, not_false_eq_true, true_implies, false_implies, and_self, implies_true, forall_const, Bool.not_eq_false, Bool.not_eq_true, iu_s, iu_k1, iu_j1, ia_s1, ia_k1, lt2, lt3, lt5, lt6, lt7, lt8, lt9, lt10, lt11, lt12, lt13, lt15, lt16, lt17, lt20, lt26, lt30, lt32, lt36, lt50, lt60, lt64, lt100, lt300, lt400, lt500, lt1000, lt65536, lt100001, lt10000000, lt48, lt57, lt71, lt80, lt97, lt98, lt108, lt110, lt126, lt191, lt200, lt227, lt681, lt832, lt7919, lt1000000, lt18, lt45, lt65535, lt100000, decide_eq_true_eq, decide_eq_false_iff_not, Nat.le_refl, true_or, or_true, eq_self, hI'.n]
    exact ⟨fun h => by omega, fun _ => l356 0 (by omega)⟩
/-- a row is made for the law -/
theorem lw_row (m : Nat) {c : Int32} {i : Nat} (hc : c = nI m) (hm : m ≤ 100000) (hf : Fz S I R) (hb : S.length + 1 ≤ bc) (hs : am_sz S + m ≤ bs) (hl : ∀ q : Nat, some (Sum.inr q) ∈ ls → q < S.length) (hk : k (ls.set i (some (.inr S.length))) [] (S ++ [(1, m)], I, R) K Q) : (tb_const c <| tb_newa bc bs 1 <| tb_astore i k) ls [] (S, I, R) K Q := by
  subst hc
  have e1 : (nI m).toNatClampNeg = m := vcl (by omega)
  refine ⟨⟨nI_pos (by omega), by rw [e1]; exact hm, hb, by rw [e1]; exact hs, fun i q h => hl q (List.mem_of_getElem? h), fun q hq => by simp at hq⟩, ?_⟩
  show k (ls.set i (some (.inr S.length))) [] (am_new (S, I, R) (1, (nI m).toNatClampNeg)) K Q
  rw [e1, new_mk _ hf]
  exact hk
theorem sz_row (m : Nat) : am_sz (S ++ [(1, m)]) = am_sz S + m := by
  rw [sz_app]; rfl
def LaidL (I : Nat → Nat → Int32) (P : Nat) (a : Lg) (th : Nat) : Prop := ∀ l, l < gn a → I P l = oI (-4) (gA a th l) ∧ I (P + 1) l = nI (gNu a th l) ∧ I (P + 2) l = nI (gJn a th l)
theorem l_lays (hS : LwS S) (hI : LwI I a) (hB : LgB a) (h8 : Lw8 a) (hP : 118 ≤ P) (hW : WfF a) (hn : S.length = P + 4) (hz : am_sz S = z) (hf : Fz S I R) (s0 : S[P]? = some (1, 12)) (s1 : S[P + 1]? = some (1, 12)) (s2 : S[P + 2]? = some (1, 12)) (hp : ∀ S' I', Ext S S' → S'.length = P + 6 → am_sz S' = z + 24 → Fz S' I' R → (∀ x, x < P ∨ x = P + 3 → I' x = I x) → LaidL I' P a (gs a 1) → post (some (.inl (nI (gTn a (gs a 1))))) (S', I', R)) : sp_L_lays [.inr 114, .inr 115, .inr 116, .inr 117, .inr P, .inr (P + 1), .inr (P + 2)] (S, I, R) post := by
  refine ⟨Nat.le_of_ble_eq_true rfl, am_fold ?_⟩
  rw [h_L_lays_0]
  show t_L_lays_0 (S.length + 2) (am_sz S + 24) [some (.inr 114), some (.inr 115), some (.inr 116), some (.inr 117), some (.inr P), some (.inr (P + 1)), some (.inr (P + 2)), none, none, none, none, none, none, none, none, none, none, none] [] (S, I, R) _ post
  rw [hn, hz, a_L_lays_0]
  have hl0 : ∀ q : Nat, some (Sum.inr q) ∈ [some (Sum.inr 114), some (.inr 115), some (.inr 116), some (.inr 117), some (.inr P), some (.inr (P + 1)), some (.inr (P + 2)), none, none, none, none, none, none, none, none, none, none, (none : Option am_V)] → q < S.length := by
    intro q hq
    simp only [List.mem_cons, Option.some.injEq, Sum.inr.injEq, List.not_mem_nil, or_false, reduceCtorEq] at hq
    omega
  refine lw_row 12 rfl (by decide) hf (by omega) (by omega) hl0 ?_
  have hn1 : (S ++ [(1, 12)]).length = P + 5 := by rw [List.length_append, hn]; rfl
  have hz1 : am_sz (S ++ [(1, 12)]) = z + 12 := by rw [sz_row, hz]
  rw [hn]
  refine lw_row 12 rfl (by decide) (hf.app _) (by omega) (by omega) (fun q hq => ?_) ?_
  · simp only [List.set_cons_succ, List.set_cons_zero, List.mem_cons, Option.some.injEq, Sum.inr.injEq, List.not_mem_nil, or_false, reduceCtorEq] at hq
    omega
  rw [hn1]
  obtain ⟨S2, hS2⟩ : ∃ S2, S2 = S ++ [(1, 12)] ++ [(1, 12)] := ⟨_, rfl⟩
  rw [← hS2]
  have x2 : Ext S S2 := by rw [hS2]; exact (Ext.app _).tr (Ext.app _)
  have hn2 : S2.length = P + 6 := by rw [hS2, List.length_append, hn1]; rfl
  have hz2 : am_sz S2 = z + 24 := by rw [hS2, sz_row, hz1]
  have hf2 : Fz S2 I R := by rw [hS2]; exact (hf.app _).app _
  have p4 : S2[P + 4]? = some (1, 12) := by
    rw [hS2]
    exact app_at ((at_r hn (i := 0) (by omega)).trans rfl)
  have p5 : S2[P + 5]? = some (1, 12) := by
    rw [hS2]
    exact (at_r hn1 (i := 0) (by omega)).trans rfl
  have hSL : LwS S2 := ⟨x2 _ _ hS.1, x2 _ _ hS.2.1, x2 _ _ hS.2.2.1, x2 _ _ hS.2.2.2⟩
  have hLp : LpS S2 P := ⟨x2 _ _ s0, x2 _ _ s1, x2 _ _ s2, p4, p5⟩
  have loop : ∀ m, m ≤ gn a → ∀ I' t (o10 o11 o12 o13 o14 o15 o16 o17 : Option am_V), (∀ x, x < P ∨ x = P + 3 ∨ P + 6 ≤ x → I' x = I x) → LOr I' P a → LTh I' P a (gs a 1) m t → am_OK (h_L_lays (P + 4 + 2) (z + 24)) post 22 [some (.inr 114), some (.inr 115), some (.inr 116), some (.inr 117), some (.inr P), some (.inr (P + 1)), some (.inr (P + 2)), some (.inr (P + 4)), some (.inr (P + 5)), some (.inl (nI m)), o10, o11, o12, o13, o14, o15, o16, o17] (S2, I', R) := by
    refine dn (gn a) ?_ ?_
    · intro I' t o10 o11 o12 o13 o14 o15 o16 o17 hfr hO hT
      have hI' : LwI I' a := hI.same (fun k h1 h2 => hfr k (by omega))
      have h0 : gNf a (gs a 1) 0 = 0 := by have := gNf_le a (gs a 1) 0; omega
      apply am_fold; rw [h_L_lays_22]
      simp only [↓ap_cc, ↓ap_const, ↓ap_iload, ↓ap_aload, ↓ap_istore, ↓ap_astore, ↓ap_iinc, ↓ap_bin, ↓ap_idiv, ↓ap_irem, ↓ap_callSA, ↓ap_iretA, ↓ap_zretA, ↓ap_i2c, ↓ap_dup, ↓ap_dup2, ↓ap_nn, ↓ap_ic, ↓ap_if, ↓ap_sw, ↓ap_head, ↓ap_getI, ↓ap_getR, ↓ap_putI, ↓ap_putN, ↓ap_putR, ↓ap_iald, ↓ap_cald, ↓ap_iast, ↓ap_cast, ↓ap_aald, ↓ap_aast, ↓ap_alen, ↓ap_stat, ↓ap_pop, ↓ap_mm, ↓ap_copy, ↓ap_ret, ↓ap_iret, ↓ap_zret, ↓ap_aret, ↓ap_retA, ↓ap_new, ↓ap_newa, ↓ap_callV, ↓ap_callS, ↓ap_callI, am_in, List.map_cons, List.map_nil, List.getElem?_cons_zero, List.getElem?_cons_succ, List.set_cons_zero, List.set_cons_succ, List.take_succ_cons, List.take_zero, List.drop_succ_cons, List.drop_zero, List.reverse_cons, List.reverse_nil, List.nil_append, List.cons_append, List.append_nil, List.length_cons, List.length_nil, List.replicate_succ, List.replicate_zero, Option.toList_some, Option.toList_none, true_and, and_true, Option.some.injEq, exists_eq_left', am_wI_mk, am_wA_mk, am_wR_mk, Nat.reduceAdd, Nat.reduceSub, Nat.reduceLeDiff, Nat.zero_add, Nat.le_refl, not_true_eq_false, not_false_eq_true, forall_const, false_implies, true_implies, implies_true, and_self, Prod.mk.injEq, eq_self, true_or, or_true, false_and, and_false, or_false, false_or, Nat.reduceEqDiff, ↓a_L_lays_22, ↓a_L_lays_338, hSL.1, arr1 hSL.1]
      have bn := h8.2.1
      try simp (disch := omega) only [nm1, nm1', nsub1, np1, npd, nadd, n0m1, m1lt, nlt0, nge0, ngt0, nle0, nlt, nle, neq, neq0, m1n, m4n, vpn, vcl, ne_eq, bI_0, bI_1, bI_01, lit01, lit00, oI_s, oI_n, true_and, and_true, not_true_eq_false, not_false_eq_true, true_implies, false_implies, and_self, implies_true, forall_const, Bool.not_eq_false, Bool.not_eq_true, iu_s, iu_k1, iu_j1, ia_s1, ia_k1, lt2, lt3, lt5, lt6, lt7, lt8, lt9, lt10, lt11, lt12, lt13, lt15, lt16, lt17, lt20, lt26, lt30, lt32, lt36, lt50, lt60, lt64, lt100, lt300, lt400, lt500, lt1000, lt65536, lt100001, lt10000000, lt48, lt57, lt71, lt80, lt97, lt98, lt108, lt110, lt126, lt191, lt200, lt227, lt681, lt832, lt7919, lt1000000, lt18, lt45, lt65535, lt100000, decide_eq_true_eq, decide_eq_false_iff_not, Nat.le_refl, true_or, or_true, eq_self, hI'.n]
      have := l_num (R := R) (bc := P + 4 + 2) (bs := z + 24) (o12 := o12) (o13 := o13) (o14 := o14) (o15 := o15) (o16 := o16) (o17 := o17) hSL hI' hB h8 hP hLp hO hT hn2 hz2 (post := post) (fun I2 hA h1 h2 => ?_) 0 (by omega) I' o11 (fun _ _ => rfl) (fun x _ h => by omega)
      · rw [h0] at this; exact this
      · refine hp S2 I2 x2 hn2 hz2 (fun k hk => ⟨?_, (hf2 k hk).2⟩) (fun x hx => ?_) (fun l hl => ⟨?_, h2 l hl, ?_⟩)
        · rw [h1 k (by omega), hfr k (by omega)]; exact (hf2 k hk).1
        · rw [h1 x (by omega), hfr x (by omega)]
        · rw [h1 P (by omega)]; exact (hT.1 l hl (gR_lt hl)).1
        · rw [h1 (P + 2) (by omega)]; exact (hT.1 l hl (gR_lt hl)).2.2.1
    · intro m hm ih I' t o10 o11 o12 o13 o14 o15 o16 o17 hfr hO hT
      have hI' : LwI I' a := hI.same (fun k h1 h2 => hfr k (by omega))
      refine l_one hSL hI' hB h8 hP hLp hW hO hm hT (fun I2 t' o11 o12 o13 o14 o15 o16 o17 hA hT' => ?_) _ _ _ _ _ _ _ _
      refine ih I2 t' _ _ _ _ _ _ _ _ (fun x hx => ?_) (fun j hj => ?_) hT'
      · rw [hA x (by omega) (by omega) (by omega) (by omega)]; exact hfr x hx
      · rw [hA (P + 4) (by omega) (by omega) (by omega) (by omega)]; exact hO j hj
  have hI2 : LwI I a := hI
  simp only [↓ap_cc, ↓ap_const, ↓ap_iload, ↓ap_aload, ↓ap_istore, ↓ap_astore, ↓ap_iinc, ↓ap_bin, ↓ap_idiv, ↓ap_irem, ↓ap_callSA, ↓ap_iretA, ↓ap_zretA, ↓ap_i2c, ↓ap_dup, ↓ap_dup2, ↓ap_nn, ↓ap_ic, ↓ap_if, ↓ap_sw, ↓ap_head, ↓ap_getI, ↓ap_getR, ↓ap_putI, ↓ap_putN, ↓ap_putR, ↓ap_iald, ↓ap_cald, ↓ap_iast, ↓ap_cast, ↓ap_aald, ↓ap_aast, ↓ap_alen, ↓ap_stat, ↓ap_pop, ↓ap_mm, ↓ap_copy, ↓ap_ret, ↓ap_iret, ↓ap_zret, ↓ap_aret, ↓ap_retA, ↓ap_new, ↓ap_newa, ↓ap_callV, ↓ap_callS, ↓ap_callI, am_in, List.map_cons, List.map_nil, List.getElem?_cons_zero, List.getElem?_cons_succ, List.set_cons_zero, List.set_cons_succ, List.take_succ_cons, List.take_zero, List.drop_succ_cons, List.drop_zero, List.reverse_cons, List.reverse_nil, List.nil_append, List.cons_append, List.append_nil, List.length_cons, List.length_nil, List.replicate_succ, List.replicate_zero, Option.toList_some, Option.toList_none, true_and, and_true, Option.some.injEq, exists_eq_left', am_wI_mk, am_wA_mk, am_wR_mk, Nat.reduceAdd, Nat.reduceSub, Nat.reduceLeDiff, Nat.zero_add, Nat.le_refl, not_true_eq_false, not_false_eq_true, forall_const, false_implies, true_implies, implies_true, and_self, Prod.mk.injEq, eq_self, true_or, or_true, false_and, and_false, or_false, false_or, Nat.reduceEqDiff, hSL.1]
  refine l_orders (P := P + 4) hSL hI hB h8 (by omega) p4 (fun I1 hf1 hO1 => ?_)
  simp only [↓ap_cc, ↓ap_const, ↓ap_iload, ↓ap_aload, ↓ap_istore, ↓ap_astore, ↓ap_iinc, ↓ap_bin, ↓ap_idiv, ↓ap_irem, ↓ap_callSA, ↓ap_iretA, ↓ap_zretA, ↓ap_i2c, ↓ap_dup, ↓ap_dup2, ↓ap_nn, ↓ap_ic, ↓ap_if, ↓ap_sw, ↓ap_head, ↓ap_getI, ↓ap_getR, ↓ap_putI, ↓ap_putN, ↓ap_putR, ↓ap_iald, ↓ap_cald, ↓ap_iast, ↓ap_cast, ↓ap_aald, ↓ap_aast, ↓ap_alen, ↓ap_stat, ↓ap_pop, ↓ap_mm, ↓ap_copy, ↓ap_ret, ↓ap_iret, ↓ap_zret, ↓ap_aret, ↓ap_retA, ↓ap_new, ↓ap_newa, ↓ap_callV, ↓ap_callS, ↓ap_callI, am_in, List.map_cons, List.map_nil, List.getElem?_cons_zero, List.getElem?_cons_succ, List.set_cons_zero, List.set_cons_succ, List.take_succ_cons, List.take_zero, List.drop_succ_cons, List.drop_zero, List.reverse_cons, List.reverse_nil, List.nil_append, List.cons_append, List.append_nil, List.length_cons, List.length_nil, List.replicate_succ, List.replicate_zero, Option.toList_some, Option.toList_none, true_and, and_true, Option.some.injEq, exists_eq_left', am_wI_mk, am_wA_mk, am_wR_mk, Nat.reduceAdd, Nat.reduceSub, Nat.reduceLeDiff, Nat.zero_add, Nat.le_refl, not_true_eq_false, not_false_eq_true, forall_const, false_implies, true_implies, implies_true, and_self, Prod.mk.injEq, eq_self, true_or, or_true, false_and, and_false, or_false, false_or, Nat.reduceEqDiff, hSL.1]
  exact loop 0 (by omega) I1 (fun _ => 0) _ _ _ _ _ _ _ _ (fun x hx => hf1 x (by omega)) hO1 ⟨fun x _ h => by omega, fun x y _ _ h => by omega⟩
