-- needs: 10 11 12 13 14 15 20 21 22 23 30 31 32 33 34 35 36 37 38 40 41 42 50 51 52 53 54 55 56 59 60 64 65 66 67 68 69 70 71 72 95a 95b 95c 95d 95e 95f 95g 95h 95i 95j 95k 90 91 92 93 94
variable {S : List (Nat × Nat)} {R : Nat → Nat → Option Nat} {I : Nat → Nat → Int32} {q : Nat → Nat} {s : St} {post : am_R} {P bc bs z : Nat} {a : Lg}
theorem jn_le (a : Lg) (th : Nat) : ∀ k x, (gSt a th k).2.1 x ≤ gn a
  | 0, x => Nat.zero_le _
  | k + 1, x => by
    have ih := jn_le a th k x
    cases hA : gA a th (gO a k) with
    | none =>
      rw [gSt_n hA]
      show un _ _ 0 x ≤ gn a
      unfold un
      split
      · exact Nat.zero_le _
      · exact ih
    | some b =>
      rw [gSt_b hA]
      show un _ _ _ x ≤ gn a
      unfold un
      split
      · exact cnt_le _ _
      · exact ih
theorem ClS.ext {S' : List (Nat × Nat)} (h : ClS S R q) (e : Ext S S') : ClS S' R q := by
  obtain ⟨⟨c4, p⟩, cT, cH, cX, cT2, c1, c2⟩ := h
  exact ⟨⟨e _ _ c4, p⟩, cT.ext e, cH.ext e, cX.ext e, cT2.ext e, e _ _ c1, e _ _ c2⟩
theorem LwS.ext {S' : List (Nat × Nat)} (h : LwS S) (e : Ext S S') : LwS S' := ⟨e _ _ h.1, e _ _ h.2.1, e _ _ h.2.2.1, e _ _ h.2.2.2⟩
/-- rows beyond the law's own are made and written -/
theorem LwV.ext {S' : List (Nat × Nat)} {I' : Nat → Nat → Int32} (h : LwV S I R q s) (e : Ext S S') (hf : ∀ k, k < 118 → I' k = I k) : LwV S' I' R q s :=
  ⟨h.1.ext e, h.2.1.same (fun k _ h2 => hf k (by omega)), h.2.2.1.ext e, h.2.2.2.1.same h.2.2.1 (fun k hk => hf k (by omega)) (by rw [hf 83 (by decide)]) (hf 84 (by decide)), h.2.2.2.2⟩
theorem l_isSo (hV : LwV S I R q s) (hf : Fz S I R) (hn : S.length = P) (hP : 118 ≤ P) (hz : am_sz S = z) (hp : ∀ S' I', Ext S S' → S'.length = P + 6 → am_sz S' = z + 72 → Fz S' I' R → LwV S' I' R q s → I' 3 = I 3 → post (some (.inl 1)) (S', I', R)) : sp_L_isSo [.inr 4, .inr 114, .inr 115, .inr 116, .inr 117] (S, I, R) post := by
  obtain ⟨hS, hI, hC, hCI, hW, h8, hn0⟩ := id hV
  have hB := hW.1.1
  refine ⟨Nat.le_of_ble_eq_true rfl, am_fold ?_⟩
  rw [h_L_isSo_0]
  show t_L_isSo_0 (S.length + 6) (am_sz S + 72) [some (.inr 4), some (.inr 114), some (.inr 115), some (.inr 116), some (.inr 117), none, none, none, none, none, none, none, none, none, none, none, none, none, none] [] (S, I, R) _ post
  rw [hn, hz, a_L_isSo_0]
  refine lw_row 12 rfl (by decide) hf (by omega) (by omega) (fun x hx => ?_) ?_
  · simp only [List.mem_cons, Option.some.injEq, Sum.inr.injEq, List.not_mem_nil, or_false, reduceCtorEq] at hx
    omega
  have hn1 : (S ++ [(1, 12)]).length = P + 1 := by rw [List.length_append, hn]; rfl
  have hz1 : am_sz (S ++ [(1, 12)]) = z + 12 := by rw [sz_row, hz]
  rw [hn]
  refine lw_row 12 rfl (by decide) (hf.app _) (by omega) (by omega) (fun x hx => ?_) ?_
  · simp only [List.set_cons_succ, List.set_cons_zero, List.mem_cons, Option.some.injEq, Sum.inr.injEq, List.not_mem_nil, or_false, reduceCtorEq] at hx
    omega
  have hn2 : (S ++ [(1, 12)] ++ [(1, 12)]).length = P + 2 := by rw [List.length_append, hn1]; rfl
  have hz2 : am_sz (S ++ [(1, 12)] ++ [(1, 12)]) = z + 24 := by rw [sz_row, hz1]
  rw [hn1]
  refine lw_row 12 rfl (by decide) ((hf.app _).app _) (by omega) (by omega) (fun x hx => ?_) ?_
  · simp only [List.set_cons_succ, List.set_cons_zero, List.mem_cons, Option.some.injEq, Sum.inr.injEq, List.not_mem_nil, or_false, reduceCtorEq] at hx
    omega
  have hn3 : (S ++ [(1, 12)] ++ [(1, 12)] ++ [(1, 12)]).length = P + 3 := by rw [List.length_append, hn2]; rfl
  have hz3 : am_sz (S ++ [(1, 12)] ++ [(1, 12)] ++ [(1, 12)]) = z + 36 := by rw [sz_row, hz2]
  rw [hn2]
  refine lw_row 12 rfl (by decide) (((hf.app _).app _).app _) (by omega) (by omega) (fun x hx => ?_) ?_
  · simp only [List.set_cons_succ, List.set_cons_zero, List.mem_cons, Option.some.injEq, Sum.inr.injEq, List.not_mem_nil, or_false, reduceCtorEq] at hx
    omega
  rw [hn3]
  obtain ⟨S4, hS4⟩ : ∃ S4, S4 = S ++ [(1, 12)] ++ [(1, 12)] ++ [(1, 12)] ++ [(1, 12)] := ⟨_, rfl⟩
  rw [← hS4]
  have x4 : Ext S S4 := by rw [hS4]; exact (((Ext.app _).tr (Ext.app _)).tr (Ext.app _)).tr (Ext.app _)
  have hn4 : S4.length = P + 4 := by rw [hS4, List.length_append, hn3]; rfl
  have hz4 : am_sz S4 = z + 48 := by rw [hS4, sz_row, hz3]
  have hf4 : Fz S4 I R := by rw [hS4]; exact (((hf.app _).app _).app _).app _
  have p0 : S4[P]? = some (1, 12) := by rw [hS4]; exact app_at (app_at (app_at ((at_r hn (i := 0) (by omega)).trans rfl)))
  have p1 : S4[P + 1]? = some (1, 12) := by rw [hS4]; exact app_at (app_at ((at_r hn1 (i := 0) (by omega)).trans rfl))
  have p2 : S4[P + 2]? = some (1, 12) := by rw [hS4]; exact app_at ((at_r hn2 (i := 0) (by omega)).trans rfl)
  have p3 : S4[P + 3]? = some (1, 12) := by rw [hS4]; exact (at_r hn3 (i := 0) (by omega)).trans rfl
  have hV4 : LwV S4 I R q s := hV.ext x4 (fun _ _ => rfl)
  have all4 : am_all (S4, I, R) [some (.inr 4), some (.inr 114), some (.inr 115), some (.inr 116), some (.inr 117), some (.inr P), some (.inr (P + 1)), some (.inr (P + 2)), some (.inr (P + 3)), none, none, none, none, none, none, none, none, none, none] [] := by
    refine ⟨fun i x hx => ?_, fun x hx => by simp at hx⟩
    have hx := List.mem_of_getElem? hx
    simp only [List.mem_cons, Option.some.injEq, Sum.inr.injEq, List.not_mem_nil, or_false, reduceCtorEq] at hx
    show x < S4.length
    omega
  show (7 ≤ 7 ∧ 0 ≤ 8 ∧ S4.length + 2 ≤ P + 6 ∧ am_sz S4 + 24 ≤ z + 72 ∧ am_all (S4, I, R) [some (.inr 4), some (.inr 114), some (.inr 115), some (.inr 116), some (.inr 117), some (.inr P), some (.inr (P + 1)), some (.inr (P + 2)), some (.inr (P + 3)), none, none, none, none, none, none, none, none, none, none] []) ∧ sp_L_lays [.inr 114, .inr 115, .inr 116, .inr 117, .inr P, .inr (P + 1), .inr (P + 2)] (S4, I, R) (am_cc (tb_istore 9 <| tb_aload 1 <| tb_aload 3 <| tb_aload 8 <| tb_callS sp_L_orders 3 <| tb_const 0 <| tb_istore 10 <| tb_const 0 <| tb_istore 11 <| tb_const 0 <| tb_istore 12 <| tb_const 1 <| tb_istore 13 <| tb_const 0 <| tb_istore 14 <| tb_head 62) (am_b0 _) [some (.inr 4), some (.inr 114), some (.inr 115), some (.inr 116), some (.inr 117), some (.inr P), some (.inr (P + 1)), some (.inr (P + 2)), some (.inr (P + 3)), none, none, none, none, none, none, none, none, none, none] [] (am_OK (h_L_isSo (P + 6) (z + 72)) post) post)
  refine ⟨⟨by decide, by decide, by omega, by omega, all4⟩, ?_⟩
  refine l_lays (P := P) (hS.ext x4) hI hB h8 hP hW.1.2.1 hn4 hz4 hf4 p0 p1 p2 (fun S6 I1 x6 hn6 hz6 hf6 hfr hLd => ?_)
  have e6 : Ext S S6 := x4.tr x6
  have hV6 : LwV S6 I1 R q s := hV.ext e6 (fun k hk => hfr k (by omega))
  have g6 := hV6.1
  simp only [↓ap_cc, ↓ap_const, ↓ap_iload, ↓ap_aload, ↓ap_istore, ↓ap_astore, ↓ap_iinc, ↓ap_bin, ↓ap_idiv, ↓ap_irem, ↓ap_callSA, ↓ap_iretA, ↓ap_zretA, ↓ap_i2c, ↓ap_dup, ↓ap_dup2, ↓ap_nn, ↓ap_ic, ↓ap_if, ↓ap_sw, ↓ap_head, ↓ap_getI, ↓ap_getR, ↓ap_putI, ↓ap_putN, ↓ap_putR, ↓ap_iald, ↓ap_cald, ↓ap_iast, ↓ap_cast, ↓ap_aald, ↓ap_aast, ↓ap_alen, ↓ap_stat, ↓ap_pop, ↓ap_mm, ↓ap_copy, ↓ap_ret, ↓ap_iret, ↓ap_zret, ↓ap_aret, ↓ap_retA, ↓ap_new, ↓ap_newa, ↓ap_callV, ↓ap_callS, ↓ap_callI, am_in, List.map_cons, List.map_nil, List.getElem?_cons_zero, List.getElem?_cons_succ, List.set_cons_zero, List.set_cons_succ, List.take_succ_cons, List.take_zero, List.drop_succ_cons, List.drop_zero, List.reverse_cons, List.reverse_nil, List.nil_append, List.cons_append, List.append_nil, List.length_cons, List.length_nil, List.replicate_succ, List.replicate_zero, Option.toList_some, Option.toList_none, true_and, and_true, Option.some.injEq, exists_eq_left', am_wI_mk, am_wA_mk, am_wR_mk, Nat.reduceAdd, Nat.reduceSub, Nat.reduceLeDiff, Nat.zero_add, Nat.le_refl, not_true_eq_false, not_false_eq_true, forall_const, false_implies, true_implies, implies_true, and_self, Prod.mk.injEq, eq_self, true_or, or_true, false_and, and_false, or_false, false_or, Nat.reduceEqDiff, g6.1]
  refine l_orders (P := P + 3) g6 hV6.2.1 hB h8 (by omega) (x6 _ _ p3) (fun I2 hf2 hO2 => ?_)
  simp only [↓ap_cc, ↓ap_const, ↓ap_iload, ↓ap_aload, ↓ap_istore, ↓ap_astore, ↓ap_iinc, ↓ap_bin, ↓ap_idiv, ↓ap_irem, ↓ap_callSA, ↓ap_iretA, ↓ap_zretA, ↓ap_i2c, ↓ap_dup, ↓ap_dup2, ↓ap_nn, ↓ap_ic, ↓ap_if, ↓ap_sw, ↓ap_head, ↓ap_getI, ↓ap_getR, ↓ap_putI, ↓ap_putN, ↓ap_putR, ↓ap_iald, ↓ap_cald, ↓ap_iast, ↓ap_cast, ↓ap_aald, ↓ap_aast, ↓ap_alen, ↓ap_stat, ↓ap_pop, ↓ap_mm, ↓ap_copy, ↓ap_ret, ↓ap_iret, ↓ap_zret, ↓ap_aret, ↓ap_retA, ↓ap_new, ↓ap_newa, ↓ap_callV, ↓ap_callS, ↓ap_callI, am_in, List.map_cons, List.map_nil, List.getElem?_cons_zero, List.getElem?_cons_succ, List.set_cons_zero, List.set_cons_succ, List.take_succ_cons, List.take_zero, List.drop_succ_cons, List.drop_zero, List.reverse_cons, List.reverse_nil, List.nil_append, List.cons_append, List.append_nil, List.length_cons, List.length_nil, List.replicate_succ, List.replicate_zero, Option.toList_some, Option.toList_none, true_and, and_true, Option.some.injEq, exists_eq_left', am_wI_mk, am_wA_mk, am_wR_mk, Nat.reduceAdd, Nat.reduceSub, Nat.reduceLeDiff, Nat.zero_add, Nat.le_refl, not_true_eq_false, not_false_eq_true, forall_const, false_implies, true_implies, implies_true, and_self, Prod.mk.injEq, eq_self, true_or, or_true, false_and, and_false, or_false, false_or, Nat.reduceEqDiff, g6.1]
  have hV7 : LwV S6 I2 R q s := hV.ext e6 (fun k hk => by rw [hf2 k (by omega), hfr k (by omega)])
  have hIs : IsV S6 I2 R q s P := ⟨hV7, fun l hl => by rw [hf2 P (by omega), hf2 (P + 1) (by omega), hf2 (P + 2) (by omega)]; exact hLd l hl, hO2, hP, x6 _ _ p0, x6 _ _ p1, x6 _ _ p2, x6 _ _ p3⟩
  have bn := hB.n
  refine so_62 (P := P) (bc := P + 6) (bs := z + 72) (fun l hl => Nat.le_trans (jn_le _ _ _ _) bn) (fun J hJ hpJ o15 o16 o17 o18 => ?_) 0 (by omega) I2 none none none none hIs (fun I' hI' hF => ?_)
  · refine so_400 (P := P) (fun J hJ hpJ o15 o16 o17 o18 => ?_) 0 (by omega) J o15 hJ hpJ
    exact so_600 (P := P) (by omega) (by omega) (fun J hJ hpJ o14 o15 o16 o17 o18 => so_641 hJ (by omega) (by omega) hpJ) 0 (by omega) J hJ hpJ
  · refine hp S6 I' e6 hn6 (by omega) (fun k hk => ⟨?_, (hf6 k hk).2⟩) hI'.1 ?_
    · rw [hF k (by omega), hf2 k (by omega)]; exact (hf6 k hk).1
    · rw [hF 3 (Or.inr rfl), hf2 3 (by omega), hfr 3 (by omega)]
/-- who has what name -/
theorem l_areNamed {v : Int32} (hV : LwV S I R q s) (hp : ∀ I', LwV S I' R q s → FrC I I' → post (some (.inl 1)) (S, I', R)) : sp_L_areNamed [.inr 4, .inr 114, .inr 115, .inl v] (S, I, R) post := by
  have hS := hV.1
  have hC := hV.2.2.1
  have hW := hV.2.2.2.2.1
  have h8 := hV.2.2.2.2.2.1
  have hB := hW.1.1
  obtain ⟨g0, g1, g2, g3⟩ := id hS
  have bt := h8.1
  have bn := h8.2.1
  have bk := h8.2.2.1
  have s4 := hC.1.1
  have loop : ∀ (τ : Nat), τ < 300 → ∀ i, i ≤ 16 → ∀ I', LwV S I' R q s → FrC I I' → am_OK h_L_areNamed post 15 [some (.inr 4), some (.inr 114), some (.inr 115), some (.inl v), some (.inl 1), some (.inl (nI τ)), some (.inl (nI i))] (S, I', R) := by
    intro τ hτ
    refine dn 16 ?_ ?_
    · intro I' hV' hf
      apply am_fold; rw [h_L_areNamed_15]
      simp only [↓ap_cc, ↓ap_const, ↓ap_iload, ↓ap_aload, ↓ap_istore, ↓ap_astore, ↓ap_iinc, ↓ap_bin, ↓ap_idiv, ↓ap_irem, ↓ap_callSA, ↓ap_iretA, ↓ap_zretA, ↓ap_i2c, ↓ap_dup, ↓ap_dup2, ↓ap_nn, ↓ap_ic, ↓ap_if, ↓ap_sw, ↓ap_head, ↓ap_getI, ↓ap_getR, ↓ap_putI, ↓ap_putN, ↓ap_putR, ↓ap_iald, ↓ap_cald, ↓ap_iast, ↓ap_cast, ↓ap_aald, ↓ap_aast, ↓ap_alen, ↓ap_stat, ↓ap_pop, ↓ap_mm, ↓ap_copy, ↓ap_ret, ↓ap_iret, ↓ap_zret, ↓ap_aret, ↓ap_retA, ↓ap_new, ↓ap_newa, ↓ap_callV, ↓ap_callS, ↓ap_callI, am_in, List.map_cons, List.map_nil, List.getElem?_cons_zero, List.getElem?_cons_succ, List.set_cons_zero, List.set_cons_succ, List.take_succ_cons, List.take_zero, List.drop_succ_cons, List.drop_zero, List.reverse_cons, List.reverse_nil, List.nil_append, List.cons_append, List.append_nil, List.length_cons, List.length_nil, List.replicate_succ, List.replicate_zero, Option.toList_some, Option.toList_none, true_and, and_true, Option.some.injEq, exists_eq_left', am_wI_mk, am_wA_mk, am_wR_mk, Nat.reduceAdd, Nat.reduceSub, Nat.reduceLeDiff, Nat.zero_add, Nat.le_refl, not_true_eq_false, not_false_eq_true, forall_const, false_implies, true_implies, implies_true, and_self, Prod.mk.injEq, eq_self, true_or, or_true, false_and, and_false, or_false, false_or, Nat.reduceEqDiff, ↓a_L_areNamed_15, ↓a_L_areNamed_87, g0, g1, g2, g3, arr1 g0, arr1 g1, arr1 g2, arr1 g3, s4]
      try simp (disch := omega) only [nm1, nm1', nsub1, np1, npd, nadd, n0m1, m1lt, nlt0, nge0, ngt0, nle0, nlt, nle, neq, neq0, m1n, m4n, vpn, vcl, ne_eq, bI_0, bI_1, bI_01, lit01, lit00, oI_s, oI_n, true_and, and_true, not_true_eq_false, not_false_eq_true, true_implies, false_implies, and_self, implies_true, forall_const, Bool.not_eq_false, Bool.not_eq_true, iu_s, iu_k1, iu_j1, ia_s1, ia_k1, lt2, lt3, lt5, lt6, lt7, lt8, lt9, lt10, lt11, lt12, lt13, lt15, lt16, lt17, lt20, lt26, lt30, lt32, lt36, lt50, lt60, lt64, lt100, lt300, lt400, lt500, lt1000, lt65536, lt100001, lt10000000, lt48, lt57, lt71, lt80, lt97, lt98, lt108, lt110, lt126, lt191, lt200, lt227, lt681, lt832, lt7919, lt1000000, lt18, lt45, lt65535, lt100000, decide_eq_true_eq, decide_eq_false_iff_not, Nat.le_refl, true_or, or_true, eq_self]
      exact hp I' hV' hf
    · intro i hi ih I' hV' hf
      have hCI' := hV'.2.2.2.1
      apply am_fold; rw [h_L_areNamed_15]
      simp only [↓ap_cc, ↓ap_const, ↓ap_iload, ↓ap_aload, ↓ap_istore, ↓ap_astore, ↓ap_iinc, ↓ap_bin, ↓ap_idiv, ↓ap_irem, ↓ap_callSA, ↓ap_iretA, ↓ap_zretA, ↓ap_i2c, ↓ap_dup, ↓ap_dup2, ↓ap_nn, ↓ap_ic, ↓ap_if, ↓ap_sw, ↓ap_head, ↓ap_getI, ↓ap_getR, ↓ap_putI, ↓ap_putN, ↓ap_putR, ↓ap_iald, ↓ap_cald, ↓ap_iast, ↓ap_cast, ↓ap_aald, ↓ap_aast, ↓ap_alen, ↓ap_stat, ↓ap_pop, ↓ap_mm, ↓ap_copy, ↓ap_ret, ↓ap_iret, ↓ap_zret, ↓ap_aret, ↓ap_retA, ↓ap_new, ↓ap_newa, ↓ap_callV, ↓ap_callS, ↓ap_callI, am_in, List.map_cons, List.map_nil, List.getElem?_cons_zero, List.getElem?_cons_succ, List.set_cons_zero, List.set_cons_succ, List.take_succ_cons, List.take_zero, List.drop_succ_cons, List.drop_zero, List.reverse_cons, List.reverse_nil, List.nil_append, List.cons_append, List.append_nil, List.length_cons, List.length_nil, List.replicate_succ, List.replicate_zero, Option.toList_some, Option.toList_none, true_and, and_true, Option.some.injEq, exists_eq_left', am_wI_mk, am_wA_mk, am_wR_mk, Nat.reduceAdd, Nat.reduceSub, Nat.reduceLeDiff, Nat.zero_add, Nat.le_refl, not_true_eq_false, not_false_eq_true, forall_const, false_implies, true_implies, implies_true, and_self, Prod.mk.injEq, eq_self, true_or, or_true, false_and, and_false, or_false, false_or, Nat.reduceEqDiff, ↓a_L_areNamed_15, ↓a_L_areNamed_78, g0, g1, g2, g3, arr1 g0, arr1 g1, arr1 g2, arr1 g3, s4, i10]
      try simp (disch := omega) only [nm1, nm1', nsub1, np1, npd, nadd, n0m1, m1lt, nlt0, nge0, ngt0, nle0, nlt, nle, neq, neq0, m1n, m4n, vpn, vcl, ne_eq, bI_0, bI_1, bI_01, lit01, lit00, oI_s, oI_n, true_and, and_true, not_true_eq_false, not_false_eq_true, true_implies, false_implies, and_self, implies_true, forall_const, Bool.not_eq_false, Bool.not_eq_true, iu_s, iu_k1, iu_j1, ia_s1, ia_k1, lt2, lt3, lt5, lt6, lt7, lt8, lt9, lt10, lt11, lt12, lt13, lt15, lt16, lt17, lt20, lt26, lt30, lt32, lt36, lt50, lt60, lt64, lt100, lt300, lt400, lt500, lt1000, lt65536, lt100001, lt10000000, lt48, lt57, lt71, lt80, lt97, lt98, lt108, lt110, lt126, lt191, lt200, lt227, lt681, lt832, lt7919, lt1000000, lt18, lt45, lt65535, lt100000, decide_eq_true_eq, decide_eq_false_iff_not, Nat.le_refl, true_or, or_true, eq_self]
      refine ⟨fun h => by omega, fun _ => c_whoHas hC hCI' hW (fun I1 hI1 hf1 => ?_)⟩
      have hV1 := hV'.same hC hI1 hf1
      have e1 : q_whoHas s (nI i) (nI τ) = oI (-4) (gH s.a i τ) := by
        unfold q_whoHas
        rw [if_pos ⟨isN_n hi, isT_n (by omega)⟩, pN_n (by omega), pN_n (by omega)]
      rw [e1]
      simp only [↓ap_cc, ↓ap_const, ↓ap_iload, ↓ap_aload, ↓ap_istore, ↓ap_astore, ↓ap_iinc, ↓ap_bin, ↓ap_idiv, ↓ap_irem, ↓ap_callSA, ↓ap_iretA, ↓ap_zretA, ↓ap_i2c, ↓ap_dup, ↓ap_dup2, ↓ap_nn, ↓ap_ic, ↓ap_if, ↓ap_sw, ↓ap_head, ↓ap_getI, ↓ap_getR, ↓ap_putI, ↓ap_putN, ↓ap_putR, ↓ap_iald, ↓ap_cald, ↓ap_iast, ↓ap_cast, ↓ap_aald, ↓ap_aast, ↓ap_alen, ↓ap_stat, ↓ap_pop, ↓ap_mm, ↓ap_copy, ↓ap_ret, ↓ap_iret, ↓ap_zret, ↓ap_aret, ↓ap_retA, ↓ap_new, ↓ap_newa, ↓ap_callV, ↓ap_callS, ↓ap_callI, am_in, List.map_cons, List.map_nil, List.getElem?_cons_zero, List.getElem?_cons_succ, List.set_cons_zero, List.set_cons_succ, List.take_succ_cons, List.take_zero, List.drop_succ_cons, List.drop_zero, List.reverse_cons, List.reverse_nil, List.nil_append, List.cons_append, List.append_nil, List.length_cons, List.length_nil, List.replicate_succ, List.replicate_zero, Option.toList_some, Option.toList_none, true_and, and_true, Option.some.injEq, exists_eq_left', am_wI_mk, am_wA_mk, am_wR_mk, Nat.reduceAdd, Nat.reduceSub, Nat.reduceLeDiff, Nat.zero_add, Nat.le_refl, not_true_eq_false, not_false_eq_true, forall_const, false_implies, true_implies, implies_true, and_self, Prod.mk.injEq, eq_self, true_or, or_true, false_and, and_false, or_false, false_or, Nat.reduceEqDiff, ↓a_L_areNamed_78, g0, g1, g2, g3, arr1 g0, arr1 g1, arr1 g2, arr1 g3, s4]
      refine l_has hS hV1.2.1 hB h8 hi (by omega) ?_
      rw [gH_lst hW.1.2.2]
      simp only [↓ap_cc, ↓ap_const, ↓ap_iload, ↓ap_aload, ↓ap_istore, ↓ap_astore, ↓ap_iinc, ↓ap_bin, ↓ap_idiv, ↓ap_irem, ↓ap_callSA, ↓ap_iretA, ↓ap_zretA, ↓ap_i2c, ↓ap_dup, ↓ap_dup2, ↓ap_nn, ↓ap_ic, ↓ap_if, ↓ap_sw, ↓ap_head, ↓ap_getI, ↓ap_getR, ↓ap_putI, ↓ap_putN, ↓ap_putR, ↓ap_iald, ↓ap_cald, ↓ap_iast, ↓ap_cast, ↓ap_aald, ↓ap_aast, ↓ap_alen, ↓ap_stat, ↓ap_pop, ↓ap_mm, ↓ap_copy, ↓ap_ret, ↓ap_iret, ↓ap_zret, ↓ap_aret, ↓ap_retA, ↓ap_new, ↓ap_newa, ↓ap_callV, ↓ap_callS, ↓ap_callI, am_in, List.map_cons, List.map_nil, List.getElem?_cons_zero, List.getElem?_cons_succ, List.set_cons_zero, List.set_cons_succ, List.take_succ_cons, List.take_zero, List.drop_succ_cons, List.drop_zero, List.reverse_cons, List.reverse_nil, List.nil_append, List.cons_append, List.append_nil, List.length_cons, List.length_nil, List.replicate_succ, List.replicate_zero, Option.toList_some, Option.toList_none, true_and, and_true, Option.some.injEq, exists_eq_left', am_wI_mk, am_wA_mk, am_wR_mk, Nat.reduceAdd, Nat.reduceSub, Nat.reduceLeDiff, Nat.zero_add, Nat.le_refl, not_true_eq_false, not_false_eq_true, forall_const, false_implies, true_implies, implies_true, and_self, Prod.mk.injEq, eq_self, true_or, or_true, false_and, and_false, or_false, false_or, Nat.reduceEqDiff, ↓a_L_areNamed_78, g0, g1, g2, g3, arr1 g0, arr1 g1, arr1 g2, arr1 g3, s4]
      try simp (disch := omega) only [nm1, nm1', nsub1, np1, npd, nadd, n0m1, m1lt, nlt0, nge0, ngt0, nle0, nlt, nle, neq, neq0, m1n, m4n, vpn, vcl, ne_eq, bI_0, bI_1, bI_01, lit01, lit00, oI_s, oI_n, true_and, and_true, not_true_eq_false, not_false_eq_true, true_implies, false_implies, and_self, implies_true, forall_const, Bool.not_eq_false, Bool.not_eq_true, iu_s, iu_k1, iu_j1, ia_s1, ia_k1, lt2, lt3, lt5, lt6, lt7, lt8, lt9, lt10, lt11, lt12, lt13, lt15, lt16, lt17, lt20, lt26, lt30, lt32, lt36, lt50, lt60, lt64, lt100, lt300, lt400, lt500, lt1000, lt65536, lt100001, lt10000000, lt48, lt57, lt71, lt80, lt97, lt98, lt108, lt110, lt126, lt191, lt200, lt227, lt681, lt832, lt7919, lt1000000, lt18, lt45, lt65535, lt100000, decide_eq_true_eq, decide_eq_false_iff_not, Nat.le_refl, true_or, or_true, eq_self]
      refine ⟨fun h11 => ?_, fun h11 => c_nameOf hC hI1 hW (fun I2 hI2 hf2 => ?_)⟩
      · simp only [↓a_L_areNamed_74]
        simp only [↓ap_cc, ↓ap_const, ↓ap_iload, ↓ap_aload, ↓ap_istore, ↓ap_astore, ↓ap_iinc, ↓ap_bin, ↓ap_idiv, ↓ap_irem, ↓ap_callSA, ↓ap_iretA, ↓ap_zretA, ↓ap_i2c, ↓ap_dup, ↓ap_dup2, ↓ap_nn, ↓ap_ic, ↓ap_if, ↓ap_sw, ↓ap_head, ↓ap_getI, ↓ap_getR, ↓ap_putI, ↓ap_putN, ↓ap_putR, ↓ap_iald, ↓ap_cald, ↓ap_iast, ↓ap_cast, ↓ap_aald, ↓ap_aast, ↓ap_alen, ↓ap_stat, ↓ap_pop, ↓ap_mm, ↓ap_copy, ↓ap_ret, ↓ap_iret, ↓ap_zret, ↓ap_aret, ↓ap_retA, ↓ap_new, ↓ap_newa, ↓ap_callV, ↓ap_callS, ↓ap_callI, am_in, List.map_cons, List.map_nil, List.getElem?_cons_zero, List.getElem?_cons_succ, List.set_cons_zero, List.set_cons_succ, List.take_succ_cons, List.take_zero, List.drop_succ_cons, List.drop_zero, List.reverse_cons, List.reverse_nil, List.nil_append, List.cons_append, List.append_nil, List.length_cons, List.length_nil, List.replicate_succ, List.replicate_zero, Option.toList_some, Option.toList_none, true_and, and_true, Option.some.injEq, exists_eq_left', am_wI_mk, am_wA_mk, am_wR_mk, Nat.reduceAdd, Nat.reduceSub, Nat.reduceLeDiff, Nat.zero_add, Nat.le_refl, not_true_eq_false, not_false_eq_true, forall_const, false_implies, true_implies, implies_true, and_self, Prod.mk.injEq, eq_self, true_or, or_true, false_and, and_false, or_false, false_or, Nat.reduceEqDiff, ↓a_L_areNamed_79, g0, g1, g2, g3, arr1 g0, arr1 g1, arr1 g2, arr1 g3, s4]
        try simp (disch := omega) only [nm1, nm1', nsub1, np1, npd, nadd, n0m1, m1lt, nlt0, nge0, ngt0, nle0, nlt, nle, neq, neq0, m1n, m4n, vpn, vcl, ne_eq, bI_0, bI_1, bI_01, lit01, lit00, oI_s, oI_n, true_and, and_true, not_true_eq_false, not_false_eq_true, true_implies, false_implies, and_self, implies_true, forall_const, Bool.not_eq_false, Bool.not_eq_true, iu_s, iu_k1, iu_j1, ia_s1, ia_k1, lt2, lt3, lt5, lt6, lt7, lt8, lt9, lt10, lt11, lt12, lt13, lt15, lt16, lt17, lt20, lt26, lt30, lt32, lt36, lt50, lt60, lt64, lt100, lt300, lt400, lt500, lt1000, lt65536, lt100001, lt10000000, lt48, lt57, lt71, lt80, lt97, lt98, lt108, lt110, lt126, lt191, lt200, lt227, lt681, lt832, lt7919, lt1000000, lt18, lt45, lt65535, lt100000, decide_eq_true_eq, decide_eq_false_iff_not, Nat.le_refl, true_or, or_true, eq_self]
        exact ih I1 hV1 (hf.tr hf1)
      · have hV2 := hV1.same hC hI2 hf2
        have e2 : q_nameOf s (nI i) (nI τ) = oI (-4) (gN s.a i τ (gt s.a)) := by
          unfold q_nameOf
          rw [if_pos ⟨isP_n (by omega), isT_n (by omega)⟩, pN_n (by omega), pN_n (by omega)]
        rw [e2]
        simp only [↓ap_cc, ↓ap_const, ↓ap_iload, ↓ap_aload, ↓ap_istore, ↓ap_astore, ↓ap_iinc, ↓ap_bin, ↓ap_idiv, ↓ap_irem, ↓ap_callSA, ↓ap_iretA, ↓ap_zretA, ↓ap_i2c, ↓ap_dup, ↓ap_dup2, ↓ap_nn, ↓ap_ic, ↓ap_if, ↓ap_sw, ↓ap_head, ↓ap_getI, ↓ap_getR, ↓ap_putI, ↓ap_putN, ↓ap_putR, ↓ap_iald, ↓ap_cald, ↓ap_iast, ↓ap_cast, ↓ap_aald, ↓ap_aast, ↓ap_alen, ↓ap_stat, ↓ap_pop, ↓ap_mm, ↓ap_copy, ↓ap_ret, ↓ap_iret, ↓ap_zret, ↓ap_aret, ↓ap_retA, ↓ap_new, ↓ap_newa, ↓ap_callV, ↓ap_callS, ↓ap_callI, am_in, List.map_cons, List.map_nil, List.getElem?_cons_zero, List.getElem?_cons_succ, List.set_cons_zero, List.set_cons_succ, List.take_succ_cons, List.take_zero, List.drop_succ_cons, List.drop_zero, List.reverse_cons, List.reverse_nil, List.nil_append, List.cons_append, List.append_nil, List.length_cons, List.length_nil, List.replicate_succ, List.replicate_zero, Option.toList_some, Option.toList_none, true_and, and_true, Option.some.injEq, exists_eq_left', am_wI_mk, am_wA_mk, am_wR_mk, Nat.reduceAdd, Nat.reduceSub, Nat.reduceLeDiff, Nat.zero_add, Nat.le_refl, not_true_eq_false, not_false_eq_true, forall_const, false_implies, true_implies, implies_true, and_self, Prod.mk.injEq, eq_self, true_or, or_true, false_and, and_false, or_false, false_or, Nat.reduceEqDiff, ↓a_L_areNamed_78, g0, g1, g2, g3, arr1 g0, arr1 g1, arr1 g2, arr1 g3, s4]
        refine l_name hS hV2.2.1 hB h8 (by omega) (by omega) ?_
        simp only [↓ap_cc, ↓ap_const, ↓ap_iload, ↓ap_aload, ↓ap_istore, ↓ap_astore, ↓ap_iinc, ↓ap_bin, ↓ap_idiv, ↓ap_irem, ↓ap_callSA, ↓ap_iretA, ↓ap_zretA, ↓ap_i2c, ↓ap_dup, ↓ap_dup2, ↓ap_nn, ↓ap_ic, ↓ap_if, ↓ap_sw, ↓ap_head, ↓ap_getI, ↓ap_getR, ↓ap_putI, ↓ap_putN, ↓ap_putR, ↓ap_iald, ↓ap_cald, ↓ap_iast, ↓ap_cast, ↓ap_aald, ↓ap_aast, ↓ap_alen, ↓ap_stat, ↓ap_pop, ↓ap_mm, ↓ap_copy, ↓ap_ret, ↓ap_iret, ↓ap_zret, ↓ap_aret, ↓ap_retA, ↓ap_new, ↓ap_newa, ↓ap_callV, ↓ap_callS, ↓ap_callI, am_in, List.map_cons, List.map_nil, List.getElem?_cons_zero, List.getElem?_cons_succ, List.set_cons_zero, List.set_cons_succ, List.take_succ_cons, List.take_zero, List.drop_succ_cons, List.drop_zero, List.reverse_cons, List.reverse_nil, List.nil_append, List.cons_append, List.append_nil, List.length_cons, List.length_nil, List.replicate_succ, List.replicate_zero, Option.toList_some, Option.toList_none, true_and, and_true, Option.some.injEq, exists_eq_left', am_wI_mk, am_wA_mk, am_wR_mk, Nat.reduceAdd, Nat.reduceSub, Nat.reduceLeDiff, Nat.zero_add, Nat.le_refl, not_true_eq_false, not_false_eq_true, forall_const, false_implies, true_implies, implies_true, and_self, Prod.mk.injEq, eq_self, true_or, or_true, false_and, and_false, or_false, false_or, Nat.reduceEqDiff, ↓a_L_areNamed_74, ↓a_L_areNamed_78, ↓a_L_areNamed_79, g0, g1, g2, g3, arr1 g0, arr1 g1, arr1 g2, arr1 g3, s4]
        try simp (disch := omega) only [nm1, nm1', nsub1, np1, npd, nadd, n0m1, m1lt, nlt0, nge0, ngt0, nle0, nlt, nle, neq, neq0, m1n, m4n, vpn, vcl, ne_eq, bI_0, bI_1, bI_01, lit01, lit00, oI_s, oI_n, true_and, and_true, not_true_eq_false, not_false_eq_true, true_implies, false_implies, and_self, implies_true, forall_const, Bool.not_eq_false, Bool.not_eq_true, iu_s, iu_k1, iu_j1, ia_s1, ia_k1, lt2, lt3, lt5, lt6, lt7, lt8, lt9, lt10, lt11, lt12, lt13, lt15, lt16, lt17, lt20, lt26, lt30, lt32, lt36, lt50, lt60, lt64, lt100, lt300, lt400, lt500, lt1000, lt65536, lt100001, lt10000000, lt48, lt57, lt71, lt80, lt97, lt98, lt108, lt110, lt126, lt191, lt200, lt227, lt681, lt832, lt7919, lt1000000, lt18, lt45, lt65535, lt100000, decide_eq_true_eq, decide_eq_false_iff_not, Nat.le_refl, true_or, or_true, eq_self]
        exact ih I2 hV2 (hf.tr (hf1.tr hf2))
  refine ⟨Nat.le_of_ble_eq_true rfl, am_fold ?_⟩; rw [h_L_areNamed_0]
  simp only [↓ap_cc, ↓ap_const, ↓ap_iload, ↓ap_aload, ↓ap_istore, ↓ap_astore, ↓ap_iinc, ↓ap_bin, ↓ap_idiv, ↓ap_irem, ↓ap_callSA, ↓ap_iretA, ↓ap_zretA, ↓ap_i2c, ↓ap_dup, ↓ap_dup2, ↓ap_nn, ↓ap_ic, ↓ap_if, ↓ap_sw, ↓ap_head, ↓ap_getI, ↓ap_getR, ↓ap_putI, ↓ap_putN, ↓ap_putR, ↓ap_iald, ↓ap_cald, ↓ap_iast, ↓ap_cast, ↓ap_aald, ↓ap_aast, ↓ap_alen, ↓ap_stat, ↓ap_pop, ↓ap_mm, ↓ap_copy, ↓ap_ret, ↓ap_iret, ↓ap_zret, ↓ap_aret, ↓ap_retA, ↓ap_new, ↓ap_newa, ↓ap_callV, ↓ap_callS, ↓ap_callI, am_in, List.map_cons, List.map_nil, List.getElem?_cons_zero, List.getElem?_cons_succ, List.set_cons_zero, List.set_cons_succ, List.take_succ_cons, List.take_zero, List.drop_succ_cons, List.drop_zero, List.reverse_cons, List.reverse_nil, List.nil_append, List.cons_append, List.append_nil, List.length_cons, List.length_nil, List.replicate_succ, List.replicate_zero, Option.toList_some, Option.toList_none, true_and, and_true, Option.some.injEq, exists_eq_left', am_wI_mk, am_wA_mk, am_wR_mk, Nat.reduceAdd, Nat.reduceSub, Nat.reduceLeDiff, Nat.zero_add, Nat.le_refl, not_true_eq_false, not_false_eq_true, forall_const, false_implies, true_implies, implies_true, and_self, Prod.mk.injEq, eq_self, true_or, or_true, false_and, and_false, or_false, false_or, Nat.reduceEqDiff, ↓a_L_areNamed_0, g0, g1, g2, g3, arr1 g0, arr1 g1, arr1 g2, arr1 g3, s4]
  try simp (disch := omega) only [nm1, nm1', nsub1, np1, npd, nadd, n0m1, m1lt, nlt0, nge0, ngt0, nle0, nlt, nle, neq, neq0, m1n, m4n, vpn, vcl, ne_eq, bI_0, bI_1, bI_01, lit01, lit00, oI_s, oI_n, true_and, and_true, not_true_eq_false, not_false_eq_true, true_implies, false_implies, and_self, implies_true, forall_const, Bool.not_eq_false, Bool.not_eq_true, iu_s, iu_k1, iu_j1, ia_s1, ia_k1, lt2, lt3, lt5, lt6, lt7, lt8, lt9, lt10, lt11, lt12, lt13, lt15, lt16, lt17, lt20, lt26, lt30, lt32, lt36, lt50, lt60, lt64, lt100, lt300, lt400, lt500, lt1000, lt65536, lt100001, lt10000000, lt48, lt57, lt71, lt80, lt97, lt98, lt108, lt110, lt126, lt191, lt200, lt227, lt681, lt832, lt7919, lt1000000, lt18, lt45, lt65535, lt100000, decide_eq_true_eq, decide_eq_false_iff_not, Nat.le_refl, true_or, or_true, eq_self]
  refine l_low (m := 300) (by decide) (by decide) (fun τ hτ => ?_)
  simp only [↓ap_cc, ↓ap_const, ↓ap_iload, ↓ap_aload, ↓ap_istore, ↓ap_astore, ↓ap_iinc, ↓ap_bin, ↓ap_idiv, ↓ap_irem, ↓ap_callSA, ↓ap_iretA, ↓ap_zretA, ↓ap_i2c, ↓ap_dup, ↓ap_dup2, ↓ap_nn, ↓ap_ic, ↓ap_if, ↓ap_sw, ↓ap_head, ↓ap_getI, ↓ap_getR, ↓ap_putI, ↓ap_putN, ↓ap_putR, ↓ap_iald, ↓ap_cald, ↓ap_iast, ↓ap_cast, ↓ap_aald, ↓ap_aast, ↓ap_alen, ↓ap_stat, ↓ap_pop, ↓ap_mm, ↓ap_copy, ↓ap_ret, ↓ap_iret, ↓ap_zret, ↓ap_aret, ↓ap_retA, ↓ap_new, ↓ap_newa, ↓ap_callV, ↓ap_callS, ↓ap_callI, am_in, List.map_cons, List.map_nil, List.getElem?_cons_zero, List.getElem?_cons_succ, List.set_cons_zero, List.set_cons_succ, List.take_succ_cons, List.take_zero, List.drop_succ_cons, List.drop_zero, List.reverse_cons, List.reverse_nil, List.nil_append, List.cons_append, List.append_nil, List.length_cons, List.length_nil, List.replicate_succ, List.replicate_zero, Option.toList_some, Option.toList_none, true_and, and_true, Option.some.injEq, exists_eq_left', am_wI_mk, am_wA_mk, am_wR_mk, Nat.reduceAdd, Nat.reduceSub, Nat.reduceLeDiff, Nat.zero_add, Nat.le_refl, not_true_eq_false, not_false_eq_true, forall_const, false_implies, true_implies, implies_true, and_self, Prod.mk.injEq, eq_self, true_or, or_true, false_and, and_false, or_false, false_or, Nat.reduceEqDiff, ↓a_L_areNamed_0, g0, g1, g2, g3, arr1 g0, arr1 g1, arr1 g2, arr1 g3, s4]
  exact loop τ hτ 0 (by omega) I hV FrC.rfl
