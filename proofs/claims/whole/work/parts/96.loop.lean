-- needs: 10 11 12 13 14 15 20 21 22 23 30 31 32 33 34 35 36 37 38 40 41 42 50 51 52 53 54 55 56 57 58 59 60 61 64 65 66 67 68 69 70 71 72 73 74 75 76 77 78 79 80 81 82 83 84 85 86 87 88 89 90 91 92 93 94 95
variable {S : List (Nat × Nat)} {R : Nat → Nat → Option Nat} {I : Nat → Nat → Int32} {q : Nat → Nat} {s : St} {post : am_R} {bc bs L i : Nat}
/-- one round after the other -/
theorem law_loop (hL : L ≤ 2560) (h3 : S[3]? = some (4, L)) (hq : ∀ M, post (some (.inl 1)) M) : ∀ d i, i + d = L + 5 → ∀ I R q s, LwV S L I R q s → am_OK (h_L_law bc bs) post 18 [some (.inr 3), some (.inr 4), some (.inr 114), some (.inl (nI i))] (S, I, R) := by
  have step : ∀ i I R q s, LwV S L I R q s → (i + 5 ≤ L → LwN bc bs post S L i) → i ≤ L + 5 → am_OK (h_L_law bc bs) post 18 [some (.inr 3), some (.inr 4), some (.inr 114), some (.inl (nI i))] (S, I, R) := by
    intro i I R q s hV nx hi5
    obtain ⟨e3, hS, hI, hM, hO, hW⟩ := id hV
    have s4 := hS.1.1
    have m0 := hM.1.1
    refine am_fold ?_
    rw [h_L_law_18]
    simp only [↓ap_cc, ↓ap_const, ↓ap_iload, ↓ap_aload, ↓ap_istore, ↓ap_astore, ↓ap_iinc, ↓ap_bin, ↓ap_idiv, ↓ap_i2c, ↓ap_dup, ↓ap_dup2, ↓ap_nn, ↓ap_ic, ↓ap_if, ↓ap_sw, ↓ap_head, ↓ap_getI, ↓ap_getR, ↓ap_putI, ↓ap_putN, ↓ap_putR, ↓ap_iald, ↓ap_cald, ↓ap_iast, ↓ap_cast, ↓ap_aald, ↓ap_aast, ↓ap_alen, ↓ap_stat, ↓ap_pop, ↓ap_mm, ↓ap_copy, ↓ap_ret, ↓ap_iret, ↓ap_zret, ↓ap_aret, ↓ap_retA, ↓ap_new, ↓ap_newa, ↓ap_callV, ↓ap_callS, ↓ap_callI, am_in, List.map_cons, List.map_nil, List.getElem?_cons_zero, List.getElem?_cons_succ, List.set_cons_zero, List.set_cons_succ, List.take_succ_cons, List.take_zero, List.drop_succ_cons, List.drop_zero, List.reverse_cons, List.reverse_nil, List.nil_append, List.cons_append, List.append_nil, List.length_cons, List.length_nil, List.replicate_succ, List.replicate_zero, Option.toList_some, Option.toList_none, true_and, and_true, Option.some.injEq, exists_eq_left', am_wI_mk, am_wA_mk, am_wR_mk, Nat.reduceAdd, Nat.reduceSub, Nat.reduceLeDiff, Nat.zero_add, Nat.le_refl, not_true_eq_false, not_false_eq_true, forall_const, false_implies, true_implies, implies_true, and_self, Prod.mk.injEq, eq_self, true_or, or_true, false_and, and_false, or_false, false_or, Nat.reduceEqDiff, ↓a_L_law_18, ↓a_L_law_970, e3, arr4 e3]
    refine ⟨fun _ => hq _, fun h => ?_⟩
    have hc : i + 5 ≤ L := by
      have e : Int32.ofNat L - 5 = zI ((L : Int) - 5) := by
        show nI L - zI 5 = _
        rw [nz, zsub]
      rw [e, nz, zlt (by omega) (by omega) (by omega) (by omega)] at h
      omega
    have nx := nx hc
    try simp (disch := omega) only [nm1, nm1', nsub1, np1, npd, nadd, n0m1, m1lt, nlt0, nge0, ngt0, nle0, nlt, nle, neq, neq0, m1n, m4n, vpn, vcl, ne_eq, bI_0, bI_1, bI_01, lit01, lit00, oI_s, oI_n, true_and, and_true, not_true_eq_false, not_false_eq_true, true_implies, false_implies, and_self, implies_true, forall_const, Bool.not_eq_false, Bool.not_eq_true, iu_s, iu_k1, iu_j1, ia_s1, ia_k1, lt2, lt3, lt5, lt6, lt7, lt8, lt9, lt10, lt11, lt12, lt15, lt16, lt17, lt20, lt30, lt32, lt48, lt57, lt71, lt80, lt97, lt98, lt108, lt110, lt126, lt191, lt200, lt227, lt681, lt65535, lt100000, decide_eq_true_eq, decide_eq_false_iff_not, Nat.le_refl, true_or, or_true, eq_self]
    have d964 : t_L_law_964 bc bs [some (.inr 3), some (.inr 4), some (.inr 114), some (.inl (nI i))] [] (S, I, R) (am_OK (h_L_law bc bs) post) post := by
      simp only [↓ap_cc, ↓ap_const, ↓ap_iload, ↓ap_aload, ↓ap_istore, ↓ap_astore, ↓ap_iinc, ↓ap_bin, ↓ap_idiv, ↓ap_i2c, ↓ap_dup, ↓ap_dup2, ↓ap_nn, ↓ap_ic, ↓ap_if, ↓ap_sw, ↓ap_head, ↓ap_getI, ↓ap_getR, ↓ap_putI, ↓ap_putN, ↓ap_putR, ↓ap_iald, ↓ap_cald, ↓ap_iast, ↓ap_cast, ↓ap_aald, ↓ap_aast, ↓ap_alen, ↓ap_stat, ↓ap_pop, ↓ap_mm, ↓ap_copy, ↓ap_ret, ↓ap_iret, ↓ap_zret, ↓ap_aret, ↓ap_retA, ↓ap_new, ↓ap_newa, ↓ap_callV, ↓ap_callS, ↓ap_callI, am_in, List.map_cons, List.map_nil, List.getElem?_cons_zero, List.getElem?_cons_succ, List.set_cons_zero, List.set_cons_succ, List.take_succ_cons, List.take_zero, List.drop_succ_cons, List.drop_zero, List.reverse_cons, List.reverse_nil, List.nil_append, List.cons_append, List.append_nil, List.length_cons, List.length_nil, List.replicate_succ, List.replicate_zero, Option.toList_some, Option.toList_none, true_and, and_true, Option.some.injEq, exists_eq_left', am_wI_mk, am_wA_mk, am_wR_mk, Nat.reduceAdd, Nat.reduceSub, Nat.reduceLeDiff, Nat.zero_add, Nat.le_refl, not_true_eq_false, not_false_eq_true, forall_const, false_implies, true_implies, implies_true, and_self, Prod.mk.injEq, eq_self, true_or, or_true, false_and, and_false, or_false, false_or, Nat.reduceEqDiff, ↓a_L_law_964, e3]
      try simp (disch := omega) only [nm1, nm1', nsub1, np1, npd, nadd, n0m1, m1lt, nlt0, nge0, ngt0, nle0, nlt, nle, neq, neq0, m1n, m4n, vpn, vcl, ne_eq, bI_0, bI_1, bI_01, lit01, lit00, oI_s, oI_n, true_and, and_true, not_true_eq_false, not_false_eq_true, true_implies, false_implies, and_self, implies_true, forall_const, Bool.not_eq_false, Bool.not_eq_true, iu_s, iu_k1, iu_j1, ia_s1, ia_k1, lt2, lt3, lt5, lt6, lt7, lt8, lt9, lt10, lt11, lt12, lt15, lt16, lt17, lt20, lt30, lt32, lt48, lt57, lt71, lt80, lt97, lt98, lt108, lt110, lt126, lt191, lt200, lt227, lt681, lt65535, lt100000, decide_eq_true_eq, decide_eq_false_iff_not, Nat.le_refl, true_or, or_true, eq_self]
      exact nx I R q s hV
    refine ⟨fun _ => d964, fun j _ hj => ?_⟩
    rcases (by omega : j = 0 ∨ j = 1 ∨ j = 2 ∨ j = 3 ∨ j = 4 ∨ j = 5 ∨ j = 6 ∨ j = 7 ∨ j = 8 ∨ j = 9 ∨ j = 10 ∨ j = 11 ∨ j = 12 ∨ j = 13 ∨ j = 14 ∨ j = 15 ∨ j = 16 ∨ j = 17 ∨ j = 18 ∨ j = 19 ∨ j = 20 ∨ j = 21 ∨ j = 22 ∨ j = 23 ∨ j = 24 ∨ j = 25 ∨ j = 26 ∨ j = 27) with rfl | rfl | rfl | rfl | rfl | rfl | rfl | rfl | rfl | rfl | rfl | rfl | rfl | rfl | rfl | rfl | rfl | rfl | rfl | rfl | rfl | rfl | rfl | rfl | rfl | rfl | rfl | rfl
    · exact lc_takes hc hL hV nx
    · exact lc_nameOf hc hL hV nx
    · exact lc_whoHas hc hL hV nx
    · exact lc_line hc hL hV nx
    · exact lc_drop hc hL hV nx
    · exact lc_lineOf hc hL hV nx
    · exact lc_inOrder hc hL hV nx
    · exact lc_score hc hL hV nx
    · exact lc_reason hc hL hV nx
    · exact lc_set hc hL hV nx
    · exact lc_count hc hL hV nx
    · exact lc_undo hc hL hV nx
    · exact lc_correct hc hL hV nx
    · exact lc_withdraw hc hL hV nx
    · exact lc_correction hc hL hV nx
    · exact lc_threadOf hc hL hV nx
    · exact lc_lineIn hc hL hV nx
    · exact lc_busiest hc hL hV nx
    · exact lc_answers hc hL hV nx
    · exact lc_partner hc hL hV nx
    · exact lc_awake hc hL hV nx
    · exact lc_threadsWith hc hL hV nx
    · exact lc_threadsWithout hc hL hV nx
    · exact lc_parting hc hL hV nx
    · exact lc_type hc hL hV nx
    · exact lc_clearText hc hL hV nx
    · exact lc_fault hc hL hV nx
    · exact lc_load hc hL hV nx
  intro d
  induction d using Nat.strongRecOn with
  | _ d ih =>
    intro i hi I R q s hV
    refine step i I R q s hV (fun hc I' R' q' s' hV' => ?_) (by omega)
    exact ih (d - 5) (by omega) (i + 5) (by omega) I' R' q' s' hV'
