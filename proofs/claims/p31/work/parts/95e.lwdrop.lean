-- needs: 10 11 12 13 14 15 20 21 22 50 51 52 64 95a
variable {S : List (Nat × Nat)} {R : Nat → Nat → Option Nat} {I : Nat → Nat → Int32} {a : Lg} {post : am_R}
theorem LwI.o (h : LwI I a) {I' : Nat → Nat → Int32} (e : ∀ k, 114 ≤ k → k ≤ 117 → I' k = I k) : LwI I' a := h.same e
theorem l_goes {x : Nat} (hS : LwS S) (hI : LwI I a) (hB : LgB a) (h8 : Lw8 a) (hx : x < gk a) (hp : ∀ I', Fr 114 117 I I' → LwI I' (rmF a x) → post none (S, I', R)) : sp_L_goes [.inr 114, .inr 117, .inl (nI x)] (S, I, R) post := by
  obtain ⟨g0, g1, g2, g3⟩ := id hS
  have bt := h8.1
  have bn := h8.2.1
  have bk := h8.2.2.1
  have l4 : ∀ k, k ≤ 3 * (gk a - 1) → ∀ I', 3 * x ≤ k → Fr 117 117 I I' → (∀ j, I' 117 j = if 3 * x ≤ j ∧ j < k then I 117 (j + 3) else I 117 j) → am_OK h_L_goes post 4 [some (.inr 114), some (.inr 117), some (.inl (nI x)), some (.inl (nI k))] (S, I', R) := by
    refine dn (3 * (gk a - 1)) ?_ ?_
    · intro I' hk hf hj
      have eg : ∀ j, I' 114 j = I 114 j := fun j => by rw [hf 114 (by omega)]
      have e15 : ∀ j, I' 115 j = I 115 j := fun j => by rw [hf 115 (by omega)]
      have e16 : ∀ j, I' 116 j = I 116 j := fun j => by rw [hf 116 (by omega)]
      have e10 : I' 114 10 = nI (gk a) := by rw [eg]; exact hI.k
      apply am_fold; rw [h_L_goes_4]
      simp only [↓ap_cc, ↓ap_const, ↓ap_iload, ↓ap_aload, ↓ap_istore, ↓ap_astore, ↓ap_iinc, ↓ap_bin, ↓ap_idiv, ↓ap_irem, ↓ap_callSA, ↓ap_iretA, ↓ap_zretA, ↓ap_i2c, ↓ap_dup, ↓ap_dup2, ↓ap_nn, ↓ap_ic, ↓ap_if, ↓ap_sw, ↓ap_head, ↓ap_getI, ↓ap_getR, ↓ap_putI, ↓ap_putN, ↓ap_putR, ↓ap_iald, ↓ap_cald, ↓ap_iast, ↓ap_cast, ↓ap_aald, ↓ap_aast, ↓ap_alen, ↓ap_stat, ↓ap_pop, ↓ap_mm, ↓ap_copy, ↓ap_ret, ↓ap_iret, ↓ap_zret, ↓ap_aret, ↓ap_retA, ↓ap_new, ↓ap_newa, ↓ap_callV, ↓ap_callS, ↓ap_callI, am_in, List.map_cons, List.map_nil, List.getElem?_cons_zero, List.getElem?_cons_succ, List.set_cons_zero, List.set_cons_succ, List.take_succ_cons, List.take_zero, List.drop_succ_cons, List.drop_zero, List.reverse_cons, List.reverse_nil, List.nil_append, List.cons_append, List.append_nil, List.length_cons, List.length_nil, List.replicate_succ, List.replicate_zero, Option.toList_some, Option.toList_none, true_and, and_true, Option.some.injEq, exists_eq_left', am_wI_mk, am_wA_mk, am_wR_mk, Nat.reduceAdd, Nat.reduceSub, Nat.reduceLeDiff, Nat.zero_add, Nat.le_refl, not_true_eq_false, not_false_eq_true, forall_const, false_implies, true_implies, implies_true, and_self, Prod.mk.injEq, eq_self, true_or, or_true, false_and, and_false, or_false, false_or, Nat.reduceEqDiff, ↓a_L_goes_4, ↓a_L_goes_30, g0, g1, g2, g3, arr1 g0, arr1 g1, arr1 g2, arr1 g3]
      try simp (disch := omega) only [nm1, nm1', nsub1, np1, npd, nadd, n0m1, m1lt, nlt0, nge0, ngt0, nle0, nlt, nle, neq, neq0, m1n, m4n, vpn, vcl, ne_eq, bI_0, bI_1, bI_01, lit01, lit00, oI_s, oI_n, true_and, and_true, not_true_eq_false, not_false_eq_true, true_implies, false_implies, and_self, implies_true, forall_const, Bool.not_eq_false, Bool.not_eq_true, iu_s, iu_k1, iu_j1, ia_s1, ia_k1, lt2, lt3, lt5, lt6, lt7, lt8, lt9, lt10, lt11, lt12, lt13, lt15, lt16, lt17, lt20, lt26, lt30, lt32, lt36, lt50, lt60, lt64, lt100, lt300, lt400, lt500, lt1000, lt65536, lt100001, lt10000000, lt48, lt57, lt71, lt80, lt97, lt98, lt108, lt110, lt126, lt191, lt200, lt227, lt681, lt832, lt7919, lt1000000, lt18, lt45, lt65535, lt100000, decide_eq_true_eq, decide_eq_false_iff_not, Nat.le_refl, true_or, or_true, eq_self, e10, nmul, nsub]
      refine ⟨fun _ => hp _ ((hf.wide (by decide) (by decide)).u (by decide) (by decide)) ⟨⟨?_, ?_, ?_, fun j hj2 => ?_⟩, fun j w hj2 hw => ?_, fun j w hj2 hw => ?_, fun j w hj2 hw => ?_, fun j hj2 => ?_⟩, fun h => by omega⟩
      · rw [iu_j1 (by decide), eg]; exact hI.t
      · rw [iu_j1 (by decide), eg]; exact hI.n
      · rw [iu_s]; rfl
      · rw [iu_j1 (by omega), eg]; exact hI.s hj2
      · rw [iu_k1 (by decide), e15]; exact hI.T hj2 hw
      · rw [iu_k1 (by decide), e16]; exact hI.L hj2 hw
      · rw [rmF_k] at hj2
        simp only [rmF_F]
        rw [iu_k1 (by decide), hj]
        by_cases hjx : j < x
        · rw [if_neg (by omega), if_pos hjx]; exact hI.F (by omega) hw
        · rw [if_pos (by omega), if_neg hjx, show 3 * j + w + 3 = 3 * (j + 1) + w by omega]; exact hI.F (by omega) hw
      · rw [rmF_k] at hj2
        rw [rmF_e, iu_k1 (by decide), hj]
        by_cases hjx : j < x
        · rw [if_neg (by omega), if_pos hjx]; exact hI.F2 (by omega)
        · rw [if_pos (by omega), if_neg hjx, show 3 * j + 2 + 3 = 3 * (j + 1) + 2 by omega]; exact hI.F2 (by omega)
    · intro k hk ih I' hxk hf hj
      have e10 : I' 114 10 = nI (gk a) := by rw [hf 114 (by omega)]; exact hI.k
      have e1 : I' 117 (k + 3) = I 117 (k + 3) := by rw [hj, if_neg (by omega)]
      apply am_fold; rw [h_L_goes_4]
      simp only [↓ap_cc, ↓ap_const, ↓ap_iload, ↓ap_aload, ↓ap_istore, ↓ap_astore, ↓ap_iinc, ↓ap_bin, ↓ap_idiv, ↓ap_irem, ↓ap_callSA, ↓ap_iretA, ↓ap_zretA, ↓ap_i2c, ↓ap_dup, ↓ap_dup2, ↓ap_nn, ↓ap_ic, ↓ap_if, ↓ap_sw, ↓ap_head, ↓ap_getI, ↓ap_getR, ↓ap_putI, ↓ap_putN, ↓ap_putR, ↓ap_iald, ↓ap_cald, ↓ap_iast, ↓ap_cast, ↓ap_aald, ↓ap_aast, ↓ap_alen, ↓ap_stat, ↓ap_pop, ↓ap_mm, ↓ap_copy, ↓ap_ret, ↓ap_iret, ↓ap_zret, ↓ap_aret, ↓ap_retA, ↓ap_new, ↓ap_newa, ↓ap_callV, ↓ap_callS, ↓ap_callI, am_in, List.map_cons, List.map_nil, List.getElem?_cons_zero, List.getElem?_cons_succ, List.set_cons_zero, List.set_cons_succ, List.take_succ_cons, List.take_zero, List.drop_succ_cons, List.drop_zero, List.reverse_cons, List.reverse_nil, List.nil_append, List.cons_append, List.append_nil, List.length_cons, List.length_nil, List.replicate_succ, List.replicate_zero, Option.toList_some, Option.toList_none, true_and, and_true, Option.some.injEq, exists_eq_left', am_wI_mk, am_wA_mk, am_wR_mk, Nat.reduceAdd, Nat.reduceSub, Nat.reduceLeDiff, Nat.zero_add, Nat.le_refl, not_true_eq_false, not_false_eq_true, forall_const, false_implies, true_implies, implies_true, and_self, Prod.mk.injEq, eq_self, true_or, or_true, false_and, and_false, or_false, false_or, Nat.reduceEqDiff, ↓a_L_goes_4, g0, g1, g2, g3, arr1 g0, arr1 g1, arr1 g2, arr1 g3]
      try simp (disch := omega) only [nm1, nm1', nsub1, np1, npd, nadd, n0m1, m1lt, nlt0, nge0, ngt0, nle0, nlt, nle, neq, neq0, m1n, m4n, vpn, vcl, ne_eq, bI_0, bI_1, bI_01, lit01, lit00, oI_s, oI_n, true_and, and_true, not_true_eq_false, not_false_eq_true, true_implies, false_implies, and_self, implies_true, forall_const, Bool.not_eq_false, Bool.not_eq_true, iu_s, iu_k1, iu_j1, ia_s1, ia_k1, lt2, lt3, lt5, lt6, lt7, lt8, lt9, lt10, lt11, lt12, lt13, lt15, lt16, lt17, lt20, lt26, lt30, lt32, lt36, lt50, lt60, lt64, lt100, lt300, lt400, lt500, lt1000, lt65536, lt100001, lt10000000, lt48, lt57, lt71, lt80, lt97, lt98, lt108, lt110, lt126, lt191, lt200, lt227, lt681, lt832, lt7919, lt1000000, lt18, lt45, lt65535, lt100000, decide_eq_true_eq, decide_eq_false_iff_not, Nat.le_refl, true_or, or_true, eq_self, e10, e1, nmul, nsub]
      refine ⟨fun h => by omega, fun _ => ih _ (by omega) (hf.u (by omega) (by omega)) (fun j => ?_)⟩
      rw [iu_i]
      by_cases hjk : j = k
      · subst hjk; rw [if_pos rfl, if_pos (by omega)]
      · rw [if_neg hjk, hj]
        by_cases h2 : 3 * x ≤ j ∧ j < k
        · rw [if_pos h2, if_pos (by omega)]
        · rw [if_neg h2, if_neg (by omega)]
  refine ⟨Nat.le_of_ble_eq_true rfl, am_fold ?_⟩; rw [h_L_goes_0]
  simp only [↓ap_cc, ↓ap_const, ↓ap_iload, ↓ap_aload, ↓ap_istore, ↓ap_astore, ↓ap_iinc, ↓ap_bin, ↓ap_idiv, ↓ap_irem, ↓ap_callSA, ↓ap_iretA, ↓ap_zretA, ↓ap_i2c, ↓ap_dup, ↓ap_dup2, ↓ap_nn, ↓ap_ic, ↓ap_if, ↓ap_sw, ↓ap_head, ↓ap_getI, ↓ap_getR, ↓ap_putI, ↓ap_putN, ↓ap_putR, ↓ap_iald, ↓ap_cald, ↓ap_iast, ↓ap_cast, ↓ap_aald, ↓ap_aast, ↓ap_alen, ↓ap_stat, ↓ap_pop, ↓ap_mm, ↓ap_copy, ↓ap_ret, ↓ap_iret, ↓ap_zret, ↓ap_aret, ↓ap_retA, ↓ap_new, ↓ap_newa, ↓ap_callV, ↓ap_callS, ↓ap_callI, am_in, List.map_cons, List.map_nil, List.getElem?_cons_zero, List.getElem?_cons_succ, List.set_cons_zero, List.set_cons_succ, List.take_succ_cons, List.take_zero, List.drop_succ_cons, List.drop_zero, List.reverse_cons, List.reverse_nil, List.nil_append, List.cons_append, List.append_nil, List.length_cons, List.length_nil, List.replicate_succ, List.replicate_zero, Option.toList_some, Option.toList_none, true_and, and_true, Option.some.injEq, exists_eq_left', am_wI_mk, am_wA_mk, am_wR_mk, Nat.reduceAdd, Nat.reduceSub, Nat.reduceLeDiff, Nat.zero_add, Nat.le_refl, not_true_eq_false, not_false_eq_true, forall_const, false_implies, true_implies, implies_true, and_self, Prod.mk.injEq, eq_self, true_or, or_true, false_and, and_false, or_false, false_or, Nat.reduceEqDiff, ↓a_L_goes_30, ↓a_L_goes_4, ↓a_L_goes_0, g0, g1, g2, g3, arr1 g0, arr1 g1, arr1 g2, arr1 g3]
  try simp (disch := omega) only [nm1, nm1', nsub1, np1, npd, nadd, n0m1, m1lt, nlt0, nge0, ngt0, nle0, nlt, nle, neq, neq0, m1n, m4n, vpn, vcl, ne_eq, bI_0, bI_1, bI_01, lit01, lit00, oI_s, oI_n, true_and, and_true, not_true_eq_false, not_false_eq_true, true_implies, false_implies, and_self, implies_true, forall_const, Bool.not_eq_false, Bool.not_eq_true, iu_s, iu_k1, iu_j1, ia_s1, ia_k1, lt2, lt3, lt5, lt6, lt7, lt8, lt9, lt10, lt11, lt12, lt13, lt15, lt16, lt17, lt20, lt26, lt30, lt32, lt36, lt50, lt60, lt64, lt100, lt300, lt400, lt500, lt1000, lt65536, lt100001, lt10000000, lt48, lt57, lt71, lt80, lt97, lt98, lt108, lt110, lt126, lt191, lt200, lt227, lt681, lt832, lt7919, lt1000000, lt18, lt45, lt65535, lt100000, decide_eq_true_eq, decide_eq_false_iff_not, Nat.le_refl, true_or, or_true, eq_self, nmul]
  refine l4 (3 * x) (by omega) I (by omega) Fr.rfl (fun j => ?_)
  rw [if_neg (by omega)]
/-- where the corrections go that stay, when those go that speak of line x -/
theorem rmFs_at (x : Nat) : ∀ k (a : Lg), k ≤ gk a → gk (rmFs x k a) + cnt (fun j => decide (hit a x j)) k = gk a ∧ (∀ i c, i < k → ¬ hit a x i → gF (rmFs x k a) c (i - cnt (fun j => decide (hit a x j)) i) = gF a c i) ∧ ∀ i c, k ≤ i → i < gk a → gF (rmFs x k a) c (i - cnt (fun j => decide (hit a x j)) k) = gF a c i
  | 0, a, _ => ⟨rfl, fun i c h => by omega, fun i c _ _ => rfl⟩
  | k + 1, a, hk => by
    unfold rmFs
    rw [cnt_s]
    have ck := cnt_le (fun j => decide (hit a x j)) k
    by_cases hh : hit a x k
    · rw [if_pos hh, decide_eq_true hh, if_pos rfl]
      have hsame : ∀ j, j < k → (decide (hit (rmF a k) x j)) = decide (hit a x j) := by
        intro j hj
        have e : ∀ c, gF (rmF a k) c j = gF a c j := fun c => by simp only [rmF_F]; rw [if_pos hj]
        rw [decide_eq_decide]
        unfold hit
        rw [e, e, e]
      have cs : ∀ i, i ≤ k → cnt (fun j => decide (hit (rmF a k) x j)) i = cnt (fun j => decide (hit a x j)) i := fun i hi => cnt_congr (fun j hj => hsame j (by omega))
      have ih := rmFs_at x k (rmF a k) (by rw [rmF_k]; omega)
      rw [cs k (Nat.le_refl _), rmF_k] at ih
      refine ⟨by omega, fun i c hi hn => ?_, fun i c hi hi2 => ?_⟩
      · have hik : i < k := by
          by_cases q : i = k
          · subst q; exact absurd hh hn
          · omega
        have h2 := ih.2.1 i c hik (fun q => hn (by have := hsame i hik; rw [decide_eq_decide] at this; exact this.mp q))
        rw [cs i (by omega)] at h2
        rw [h2]; simp only [rmF_F]; rw [if_pos hik]
      · have h2 := ih.2.2 (i - 1) c (by omega) (by omega)
        rw [show i - (cnt (fun j => decide (hit a x j)) k + 1) = i - 1 - cnt (fun j => decide (hit a x j)) k by omega, h2]
        simp only [rmF_F]
        rw [if_neg (by omega), show i - 1 + 1 = i by omega]
    · rw [if_neg hh, decide_eq_false hh]
      have ih := rmFs_at x k a (by omega)
      simp only [Bool.false_eq_true, if_false, Nat.add_zero]
      refine ⟨ih.1, fun i c hi hn => ?_, fun i c hi hi2 => ih.2.2 i c (by omega) hi2⟩
      by_cases q : i = k
      · subst q; exact ih.2.2 i c (by omega) (by omega)
      · exact ih.2.1 i c (by omega) hn
theorem dropL_F {x : Nat} (i : Nat) (hi : i < gk a) (hn : ¬ hit a x i) : i - cnt (fun j => decide (hit a x j)) i < gk (dropL a x) ∧ gF (dropL a x) 0 (i - cnt (fun j => decide (hit a x j)) i) = gF a 0 i ∧ gF (dropL a x) 1 (i - cnt (fun j => decide (hit a x j)) i) = (if x < gF a 1 i then gF a 1 i - 1 else gF a 1 i) ∧ eI (-4) (dropL a x) (i - cnt (fun j => decide (hit a x j)) i) = if gF a 0 i = 0 then -4 else nI (if x < gF a 2 i then gF a 2 i - 1 else gF a 2 i) := by
  have h := rmFs_at x (gk a) a (Nat.le_refl _)
  have hk : gk (dropL a x) = gk (rmFs x (gk a) a) := rfl
  have mono : ∀ d, cnt (fun j => decide (hit a x j)) (i + 1 + d) ≤ cnt (fun j => decide (hit a x j)) (i + 1) + d := by
    intro d
    induction d with
    | zero => exact Nat.le_refl _
    | succ d ih => rw [show i + 1 + (d + 1) = i + 1 + d + 1 by omega, cnt_s]; split <;> omega
  have m1 := mono (gk a - (i + 1))
  rw [show i + 1 + (gk a - (i + 1)) = gk a by omega, cnt_s, decide_eq_false hn] at m1
  simp only [Bool.false_eq_true, if_false, Nat.add_zero] at m1
  have ci := cnt_le (fun j => decide (hit a x j)) i
  have hlt : i - cnt (fun j => decide (hit a x j)) i < gk (rmFs x (gk a) a) := by omega
  have f0 := h.2.1 i 0 hi hn
  have f1 := h.2.1 i 1 hi hn
  have f2 := h.2.1 i 2 hi hn
  have e : ∀ c j, gF (dropL a x) c j = gF (renF (rmFs x (gk a) a) x (gk (rmFs x (gk a) a))) c j := fun c j => rfl
  refine ⟨by rw [hk]; exact hlt, ?_, ?_, ?_⟩
  · rw [e]; simp only [renF_F]; rw [if_pos hlt]; simpa using f0
  · rw [e]; simp only [renF_F]; rw [if_pos hlt, f1]; simp
  · have e2 : eI (-4) (dropL a x) (i - cnt (fun j => decide (hit a x j)) i) = eI (-4) (renF (rmFs x (gk a) a) x (gk (rmFs x (gk a) a))) (i - cnt (fun j => decide (hit a x j)) i) := rfl
    rw [e2, renF_e, if_pos hlt, f0, f2]
theorem dropL_kn (x : Nat) : gk (dropL a x) = gk a - cnt (fun j => decide (hit a x j)) (gk a) := by
  have h := (rmFs_at x (gk a) a (Nat.le_refl _)).1
  have hk : gk (dropL a x) = gk (rmFs x (gk a) a) := rfl
  omega
theorem dropL_n (x : Nat) : gn (dropL a x) = gn a - 1 := rfl
theorem dropL_L (x w j : Nat) (hj : j < gn a - 1) : gL (dropL a x) w j = if x ≤ j then gL a w (j + 1) else gL a w j := by
  have e1 : gL (dropL a x) w j = gL (shL (renF (rmFs x (gk a) a) x (gk (rmFs x (gk a) a))) x (gn a)) w j := rfl
  have e2 : gL (renF (rmFs x (gk a) a) x (gk (rmFs x (gk a) a))) = gL a := (rmFs_same x (gk a) a).2.2.2.1
  rw [e1]; simp only [shL_L]; rw [e2]
  by_cases h : x ≤ j
  · rw [if_pos ⟨h, by omega⟩, if_pos h]
  · rw [if_neg (fun q => h q.1), if_neg h]
theorem l_drops {x : Nat} (hS : LwS S) (hI : LwI I a) (hB : LgB a) (h8 : Lw8 a) (hx : x < gn a) (hW : WfF a) (hp : ∀ I', Fr 114 117 I I' → LwI I' (dropL a x) → post none (S, I', R)) : sp_L_drops [.inr 114, .inr 116, .inr 117, .inl (nI x)] (S, I, R) post := by
  obtain ⟨g0, g1, g2, g3⟩ := id hS
  have bt := h8.1
  have bn := h8.2.1
  have bk := h8.2.2.1
  have hd := dropL_i hB hW hx
  have dk := dropL_kn (a := a) x
  have c0 := cnt_le (fun j => decide (hit a x j)) (gk a)
  have l162 : ∀ k, k ≤ 4 * (gn a - 1) → ∀ I' (o4 : Option am_V), 4 * x ≤ k → Fr 114 117 I I' → (∀ j, I' 114 j = if j = 10 then nI (gk (dropL a x)) else I 114 j) → (∀ j, I' 115 j = I 115 j) → (∀ j, I' 116 j = if 4 * x ≤ j ∧ j < k then I 116 (j + 4) else I 116 j) → (∀ m, m < gk (dropL a x) → I' 117 (3 * m) = nI (gF (dropL a x) 0 m) ∧ I' 117 (3 * m + 1) = nI (gF (dropL a x) 1 m) ∧ I' 117 (3 * m + 2) = eI (-4) (dropL a x) m) → am_OK h_L_drops post 162 [some (.inr 114), some (.inr 116), some (.inr 117), some (.inl (nI x)), o4, some (.inl (nI k))] (S, I', R) := by
    refine dn (4 * (gn a - 1)) ?_ ?_
    · intro I' o4 hk hf h14 h15 h16 h17
      have e9 : I' 114 9 = nI (gn a) := by rw [h14, if_neg (by decide)]; exact hI.n
      apply am_fold; rw [h_L_drops_162]
      simp only [↓ap_cc, ↓ap_const, ↓ap_iload, ↓ap_aload, ↓ap_istore, ↓ap_astore, ↓ap_iinc, ↓ap_bin, ↓ap_idiv, ↓ap_irem, ↓ap_callSA, ↓ap_iretA, ↓ap_zretA, ↓ap_i2c, ↓ap_dup, ↓ap_dup2, ↓ap_nn, ↓ap_ic, ↓ap_if, ↓ap_sw, ↓ap_head, ↓ap_getI, ↓ap_getR, ↓ap_putI, ↓ap_putN, ↓ap_putR, ↓ap_iald, ↓ap_cald, ↓ap_iast, ↓ap_cast, ↓ap_aald, ↓ap_aast, ↓ap_alen, ↓ap_stat, ↓ap_pop, ↓ap_mm, ↓ap_copy, ↓ap_ret, ↓ap_iret, ↓ap_zret, ↓ap_aret, ↓ap_retA, ↓ap_new, ↓ap_newa, ↓ap_callV, ↓ap_callS, ↓ap_callI, am_in, List.map_cons, List.map_nil, List.getElem?_cons_zero, List.getElem?_cons_succ, List.set_cons_zero, List.set_cons_succ, List.take_succ_cons, List.take_zero, List.drop_succ_cons, List.drop_zero, List.reverse_cons, List.reverse_nil, List.nil_append, List.cons_append, List.append_nil, List.length_cons, List.length_nil, List.replicate_succ, List.replicate_zero, Option.toList_some, Option.toList_none, true_and, and_true, Option.some.injEq, exists_eq_left', am_wI_mk, am_wA_mk, am_wR_mk, Nat.reduceAdd, Nat.reduceSub, Nat.reduceLeDiff, Nat.zero_add, Nat.le_refl, not_true_eq_false, not_false_eq_true, forall_const, false_implies, true_implies, implies_true, and_self, Prod.mk.injEq, eq_self, true_or, or_true, false_and, and_false, or_false, false_or, Nat.reduceEqDiff, ↓a_L_drops_162, ↓a_L_drops_191, g0, g1, g2, g3, arr1 g0, arr1 g1, arr1 g2, arr1 g3]
      try simp (disch := omega) only [nm1, nm1', nsub1, np1, npd, nadd, n0m1, m1lt, nlt0, nge0, ngt0, nle0, nlt, nle, neq, neq0, m1n, m4n, vpn, vcl, ne_eq, bI_0, bI_1, bI_01, lit01, lit00, oI_s, oI_n, true_and, and_true, not_true_eq_false, not_false_eq_true, true_implies, false_implies, and_self, implies_true, forall_const, Bool.not_eq_false, Bool.not_eq_true, iu_s, iu_k1, iu_j1, ia_s1, ia_k1, lt2, lt3, lt5, lt6, lt7, lt8, lt9, lt10, lt11, lt12, lt13, lt15, lt16, lt17, lt20, lt26, lt30, lt32, lt36, lt50, lt60, lt64, lt100, lt300, lt400, lt500, lt1000, lt65536, lt100001, lt10000000, lt48, lt57, lt71, lt80, lt97, lt98, lt108, lt110, lt126, lt191, lt200, lt227, lt681, lt832, lt7919, lt1000000, lt18, lt45, lt65535, lt100000, decide_eq_true_eq, decide_eq_false_iff_not, Nat.le_refl, true_or, or_true, eq_self, lt4, e9, nmul, nsub]
      refine ⟨fun _ => hp _ (hf.u (by decide) (by decide)) ⟨⟨?_, ?_, ?_, fun j hj2 => ?_⟩, fun j w hj2 hw => ?_, fun j w hj2 hw => ?_, fun j w hj2 hw => ?_, fun j hj2 => ?_⟩, fun h => by omega⟩
      · rw [iu_j1 (by decide), h14, if_neg (by decide), hd.2.2.1]; exact hI.t
      · rw [iu_s]; rfl
      · rw [iu_j1 (by decide), h14, if_pos rfl]
      · rw [iu_j1 (by omega), h14, if_neg (by omega), hd.2.2.2.2]; exact hI.s hj2
      · rw [hd.2.2.1] at hj2
        rw [iu_k1 (by decide), h15, hd.2.2.2.1]; exact hI.T hj2 hw
      · rw [dropL_n] at hj2
        rw [iu_k1 (by decide), h16, dropL_L x w j hj2]
        by_cases hjx : x ≤ j
        · rw [if_pos (by omega), if_pos hjx, show 4 * j + w + 4 = 4 * (j + 1) + w by omega]; exact hI.L (by omega) hw
        · rw [if_neg (by omega), if_neg hjx]; exact hI.L (by omega) hw
      · rw [iu_k1 (by decide)]
        rcases (by omega : w = 0 ∨ w = 1) with rfl | rfl
        · exact (h17 j hj2).1
        · exact (h17 j hj2).2.1
      · rw [iu_k1 (by decide)]; exact (h17 j hj2).2.2
    · intro k hk ih I' o4 hxk hf h14 h15 h16 h17
      have e9 : I' 114 9 = nI (gn a) := by rw [h14, if_neg (by decide)]; exact hI.n
      have e1 : I' 116 (k + 4) = I 116 (k + 4) := by rw [h16, if_neg (by omega)]
      apply am_fold; rw [h_L_drops_162]
      simp only [↓ap_cc, ↓ap_const, ↓ap_iload, ↓ap_aload, ↓ap_istore, ↓ap_astore, ↓ap_iinc, ↓ap_bin, ↓ap_idiv, ↓ap_irem, ↓ap_callSA, ↓ap_iretA, ↓ap_zretA, ↓ap_i2c, ↓ap_dup, ↓ap_dup2, ↓ap_nn, ↓ap_ic, ↓ap_if, ↓ap_sw, ↓ap_head, ↓ap_getI, ↓ap_getR, ↓ap_putI, ↓ap_putN, ↓ap_putR, ↓ap_iald, ↓ap_cald, ↓ap_iast, ↓ap_cast, ↓ap_aald, ↓ap_aast, ↓ap_alen, ↓ap_stat, ↓ap_pop, ↓ap_mm, ↓ap_copy, ↓ap_ret, ↓ap_iret, ↓ap_zret, ↓ap_aret, ↓ap_retA, ↓ap_new, ↓ap_newa, ↓ap_callV, ↓ap_callS, ↓ap_callI, am_in, List.map_cons, List.map_nil, List.getElem?_cons_zero, List.getElem?_cons_succ, List.set_cons_zero, List.set_cons_succ, List.take_succ_cons, List.take_zero, List.drop_succ_cons, List.drop_zero, List.reverse_cons, List.reverse_nil, List.nil_append, List.cons_append, List.append_nil, List.length_cons, List.length_nil, List.replicate_succ, List.replicate_zero, Option.toList_some, Option.toList_none, true_and, and_true, Option.some.injEq, exists_eq_left', am_wI_mk, am_wA_mk, am_wR_mk, Nat.reduceAdd, Nat.reduceSub, Nat.reduceLeDiff, Nat.zero_add, Nat.le_refl, not_true_eq_false, not_false_eq_true, forall_const, false_implies, true_implies, implies_true, and_self, Prod.mk.injEq, eq_self, true_or, or_true, false_and, and_false, or_false, false_or, Nat.reduceEqDiff, ↓a_L_drops_162, g0, g1, g2, g3, arr1 g0, arr1 g1, arr1 g2, arr1 g3]
      try simp (disch := omega) only [nm1, nm1', nsub1, np1, npd, nadd, n0m1, m1lt, nlt0, nge0, ngt0, nle0, nlt, nle, neq, neq0, m1n, m4n, vpn, vcl, ne_eq, bI_0, bI_1, bI_01, lit01, lit00, oI_s, oI_n, true_and, and_true, not_true_eq_false, not_false_eq_true, true_implies, false_implies, and_self, implies_true, forall_const, Bool.not_eq_false, Bool.not_eq_true, iu_s, iu_k1, iu_j1, ia_s1, ia_k1, lt2, lt3, lt5, lt6, lt7, lt8, lt9, lt10, lt11, lt12, lt13, lt15, lt16, lt17, lt20, lt26, lt30, lt32, lt36, lt50, lt60, lt64, lt100, lt300, lt400, lt500, lt1000, lt65536, lt100001, lt10000000, lt48, lt57, lt71, lt80, lt97, lt98, lt108, lt110, lt126, lt191, lt200, lt227, lt681, lt832, lt7919, lt1000000, lt18, lt45, lt65535, lt100000, decide_eq_true_eq, decide_eq_false_iff_not, Nat.le_refl, true_or, or_true, eq_self, lt4, e9, e1, nmul, nsub]
      refine ⟨fun h => by omega, fun _ => ih _ _ (by omega) (hf.u (by omega) (by omega)) (fun j => by rw [iu_k1 (by decide)]; exact h14 j) (fun j => by rw [iu_k1 (by decide)]; exact h15 j) (fun j => ?_) (fun m hm => by rw [iu_k1 (by decide), iu_k1 (by decide), iu_k1 (by decide)]; exact h17 m hm)⟩
      rw [iu_i]
      by_cases hjk : j = k
      · subst hjk; rw [if_pos rfl, if_pos (by omega)]
      · rw [if_neg hjk, h16]
        by_cases h2 : 4 * x ≤ j ∧ j < k
        · rw [if_pos h2, if_pos (by omega)]
        · rw [if_neg h2, if_neg (by omega)]
  have l6 : ∀ i, i ≤ gk a → ∀ I', Fr 117 117 I I' → (∀ m, m < i - cnt (fun j => decide (hit a x j)) i → I' 117 (3 * m) = nI (gF (dropL a x) 0 m) ∧ I' 117 (3 * m + 1) = nI (gF (dropL a x) 1 m) ∧ I' 117 (3 * m + 2) = eI (-4) (dropL a x) m) → (∀ j, 3 * i ≤ j → I' 117 j = I 117 j) → am_OK h_L_drops post 6 [some (.inr 114), some (.inr 116), some (.inr 117), some (.inl (nI x)), some (.inl (nI (i - cnt (fun j => decide (hit a x j)) i))), some (.inl (nI i))] (S, I', R) := by
    refine dn (gk a) ?_ ?_
    · intro I' hf hm hj
      have e10 : I' 114 10 = nI (gk a) := by rw [hf 114 (by omega)]; exact hI.k
      apply am_fold; rw [h_L_drops_6]
      simp only [↓ap_cc, ↓ap_const, ↓ap_iload, ↓ap_aload, ↓ap_istore, ↓ap_astore, ↓ap_iinc, ↓ap_bin, ↓ap_idiv, ↓ap_irem, ↓ap_callSA, ↓ap_iretA, ↓ap_zretA, ↓ap_i2c, ↓ap_dup, ↓ap_dup2, ↓ap_nn, ↓ap_ic, ↓ap_if, ↓ap_sw, ↓ap_head, ↓ap_getI, ↓ap_getR, ↓ap_putI, ↓ap_putN, ↓ap_putR, ↓ap_iald, ↓ap_cald, ↓ap_iast, ↓ap_cast, ↓ap_aald, ↓ap_aast, ↓ap_alen, ↓ap_stat, ↓ap_pop, ↓ap_mm, ↓ap_copy, ↓ap_ret, ↓ap_iret, ↓ap_zret, ↓ap_aret, ↓ap_retA, ↓ap_new, ↓ap_newa, ↓ap_callV, ↓ap_callS, ↓ap_callI, am_in, List.map_cons, List.map_nil, List.getElem?_cons_zero, List.getElem?_cons_succ, List.set_cons_zero, List.set_cons_succ, List.take_succ_cons, List.take_zero, List.drop_succ_cons, List.drop_zero, List.reverse_cons, List.reverse_nil, List.nil_append, List.cons_append, List.append_nil, List.length_cons, List.length_nil, List.replicate_succ, List.replicate_zero, Option.toList_some, Option.toList_none, true_and, and_true, Option.some.injEq, exists_eq_left', am_wI_mk, am_wA_mk, am_wR_mk, Nat.reduceAdd, Nat.reduceSub, Nat.reduceLeDiff, Nat.zero_add, Nat.le_refl, not_true_eq_false, not_false_eq_true, forall_const, false_implies, true_implies, implies_true, and_self, Prod.mk.injEq, eq_self, true_or, or_true, false_and, and_false, or_false, false_or, Nat.reduceEqDiff, ↓a_L_drops_6, ↓a_L_drops_151, g0, g1, g2, g3, arr1 g0, arr1 g1, arr1 g2, arr1 g3]
      try simp (disch := omega) only [nm1, nm1', nsub1, np1, npd, nadd, n0m1, m1lt, nlt0, nge0, ngt0, nle0, nlt, nle, neq, neq0, m1n, m4n, vpn, vcl, ne_eq, bI_0, bI_1, bI_01, lit01, lit00, oI_s, oI_n, true_and, and_true, not_true_eq_false, not_false_eq_true, true_implies, false_implies, and_self, implies_true, forall_const, Bool.not_eq_false, Bool.not_eq_true, iu_s, iu_k1, iu_j1, ia_s1, ia_k1, lt2, lt3, lt5, lt6, lt7, lt8, lt9, lt10, lt11, lt12, lt13, lt15, lt16, lt17, lt20, lt26, lt30, lt32, lt36, lt50, lt60, lt64, lt100, lt300, lt400, lt500, lt1000, lt65536, lt100001, lt10000000, lt48, lt57, lt71, lt80, lt97, lt98, lt108, lt110, lt126, lt191, lt200, lt227, lt681, lt832, lt7919, lt1000000, lt18, lt45, lt65535, lt100000, decide_eq_true_eq, decide_eq_false_iff_not, Nat.le_refl, true_or, or_true, eq_self, lt4, e10, nmul]
      refine l162 (4 * x) (by omega) _ _ (by omega) ((hf.wide (by decide) (by decide)).u (by decide) (by decide)) (fun j => ?_) (fun j => ?_) (fun j => ?_) (fun m hmk => ?_)
      · rw [iu_i, dk, hf 114 (by omega)]
      · rw [iu_k1 (by decide), hf 115 (by omega)]
      · rw [iu_k1 (by decide), hf 116 (by omega), if_neg (by omega)]
      · rw [iu_k1 (by decide), iu_k1 (by decide), iu_k1 (by decide)]; exact hm m (by omega)
    · intro i hi ih I' hf hm hj
      have ci := cnt_le (fun j => decide (hit a x j)) i
      have bi := hB.Fn hi
      have e10 : I' 114 10 = nI (gk a) := by rw [hf 114 (by omega)]; exact hI.k
      have q0 : I' 117 (3 * i) = nI (gF a 0 i) := by rw [hj _ (by omega)]; exact hI.F0 hi
      have q1 : I' 117 (3 * i + 1) = nI (gF a 1 i) := by rw [hj _ (by omega)]; exact hI.F hi (by decide)
      have q2 : I' 117 (3 * i + 2) = eI (-4) a i := by rw [hj _ (by omega)]; exact hI.F2 hi
      rw [cnt_s] at ih
      have gone : hit a x i → am_OK h_L_drops post 6 [some (.inr 114), some (.inr 116), some (.inr 117), some (.inl (nI x)), some (.inl (nI (i - cnt (fun j => decide (hit a x j)) i))), some (.inl (nI (i + 1)))] (S, I', R) := by
        intro hh
        rw [decide_eq_true hh, if_pos rfl, show i + 1 - (cnt (fun j => decide (hit a x j)) i + 1) = i - cnt (fun j => decide (hit a x j)) i by omega] at ih
        exact ih I' hf hm (fun j h => hj j (by omega))
      obtain ⟨n, hn⟩ : ∃ n, i - cnt (fun j => decide (hit a x j)) i = n := ⟨_, rfl⟩
      have fin : ¬ hit a x i → ∀ z1 z2, z1 = nI (if x < gF a 1 i then gF a 1 i - 1 else gF a 1 i) → z2 = (if gF a 0 i = 0 then -4 else nI (if x < gF a 2 i then gF a 2 i - 1 else gF a 2 i)) → am_OK h_L_drops post 6 [some (.inr 114), some (.inr 116), some (.inr 117), some (.inl (nI x)), some (.inl (nI (n + 1))), some (.inl (nI (i + 1)))] (S, am_u (am_u (am_u I' 117 (3 * n) (nI (gF a 0 i))) 117 (3 * n + 1) z1) 117 (3 * n + 2) z2, R) := by
        intro hh z1 z2 h1 h2
        have df := dropL_F (x := x) i hi hh
        rw [hn] at df
        rw [decide_eq_false hh] at ih
        simp only [Bool.false_eq_true, if_false, Nat.add_zero] at ih
        rw [show i + 1 - cnt (fun j => decide (hit a x j)) i = n + 1 by omega] at ih
        refine ih _ (((hf.u (by omega) (by omega)).u (by omega) (by omega)).u (by omega) (by omega)) (fun m hmn => ?_) (fun j hji => ?_)
        · by_cases hmn2 : m = n
          · subst hmn2
            simp (disch := omega) only [iu_j1, iu_s]
            exact ⟨by rw [df.2.1], by rw [h1, df.2.2.1], by rw [h2, df.2.2.2]⟩
          · simp (disch := omega) only [iu_j1]
            exact hm m (by omega)
        · simp (disch := omega) only [iu_j1]
          exact hj j (by omega)
      rw [hn] at gone hm ⊢
      have c48 : ¬ hit a x i → t_L_drops_48 [some (.inr 114), some (.inr 116), some (.inr 117), some (.inl (nI x)), some (.inl (nI n)), some (.inl (nI i))] [] (S, I', R) (am_OK h_L_drops post) post := by
        intro hh
        have fin := fin hh
        have w1 : ∀ z, am_u I' 117 (3 * n) z 117 (3 * i + 1) = nI (gF a 1 i) := fun z => by rw [iu_j1 (by omega)]; exact q1
        have w2 : ∀ z y, am_u (am_u I' 117 (3 * n) z) 117 (3 * n + 1) y 117 (3 * i + 2) = eI (-4) a i := fun z y => by rw [iu_j1 (by omega), iu_j1 (by omega)]; exact q2
        have c100 : ∀ z1, z1 = nI (if x < gF a 1 i then gF a 1 i - 1 else gF a 1 i) → t_L_drops_100 [some (.inr 114), some (.inr 116), some (.inr 117), some (.inl (nI x)), some (.inl (nI n)), some (.inl (nI i))] [.inl z1, .inl (nI (3 * n + 1)), .inr 117] (S, am_u I' 117 (3 * n) (nI (gF a 0 i)), R) (am_OK h_L_drops post) post := by
          intro z1 h1
          simp only [↓a_L_drops_100]
          simp only [↓ap_cc, ↓ap_const, ↓ap_iload, ↓ap_aload, ↓ap_istore, ↓ap_astore, ↓ap_iinc, ↓ap_bin, ↓ap_idiv, ↓ap_irem, ↓ap_callSA, ↓ap_iretA, ↓ap_zretA, ↓ap_i2c, ↓ap_dup, ↓ap_dup2, ↓ap_nn, ↓ap_ic, ↓ap_if, ↓ap_sw, ↓ap_head, ↓ap_getI, ↓ap_getR, ↓ap_putI, ↓ap_putN, ↓ap_putR, ↓ap_iald, ↓ap_cald, ↓ap_iast, ↓ap_cast, ↓ap_aald, ↓ap_aast, ↓ap_alen, ↓ap_stat, ↓ap_pop, ↓ap_mm, ↓ap_copy, ↓ap_ret, ↓ap_iret, ↓ap_zret, ↓ap_aret, ↓ap_retA, ↓ap_new, ↓ap_newa, ↓ap_callV, ↓ap_callS, ↓ap_callI, am_in, List.map_cons, List.map_nil, List.getElem?_cons_zero, List.getElem?_cons_succ, List.set_cons_zero, List.set_cons_succ, List.take_succ_cons, List.take_zero, List.drop_succ_cons, List.drop_zero, List.reverse_cons, List.reverse_nil, List.nil_append, List.cons_append, List.append_nil, List.length_cons, List.length_nil, List.replicate_succ, List.replicate_zero, Option.toList_some, Option.toList_none, true_and, and_true, Option.some.injEq, exists_eq_left', am_wI_mk, am_wA_mk, am_wR_mk, Nat.reduceAdd, Nat.reduceSub, Nat.reduceLeDiff, Nat.zero_add, Nat.le_refl, not_true_eq_false, not_false_eq_true, forall_const, false_implies, true_implies, implies_true, and_self, Prod.mk.injEq, eq_self, true_or, or_true, false_and, and_false, or_false, false_or, Nat.reduceEqDiff, ↓a_L_drops_133, ↓a_L_drops_141, ↓a_L_drops_145, g0, g1, g2, g3, arr1 g0, arr1 g1, arr1 g2, arr1 g3]
          simp (disch := omega) only [lt3, lt2, nmul, nadd, vpn, vcl, w2, true_and]
          unfold eI
          by_cases h0 : gF a 0 i = 0
          · rw [if_pos h0]
            refine ⟨fun _ => ?_, fun h => absurd (Int32.le_of_lt (Int32.lt_of_lt_of_le (by decide : (-4 : Int32) < 0) (nI_pos' (by omega)))) h⟩
            rw [np1, np1]
            exact fin _ _ h1 (by rw [if_pos h0])
          · have b2 := bi.2.2 h0
            rw [if_neg h0, nle (by omega) (by omega)]
            refine ⟨fun h => ?_, fun h => ?_⟩
            · rw [np1, np1]
              exact fin _ _ h1 (by rw [if_neg h0, if_neg (by omega)])
            · rw [np1, np1, npd (by omega)]
              exact fin _ _ h1 (by rw [if_neg h0, if_pos (by omega)])
        simp only [↓a_L_drops_48]
        simp only [↓ap_cc, ↓ap_const, ↓ap_iload, ↓ap_aload, ↓ap_istore, ↓ap_astore, ↓ap_iinc, ↓ap_bin, ↓ap_idiv, ↓ap_irem, ↓ap_callSA, ↓ap_iretA, ↓ap_zretA, ↓ap_i2c, ↓ap_dup, ↓ap_dup2, ↓ap_nn, ↓ap_ic, ↓ap_if, ↓ap_sw, ↓ap_head, ↓ap_getI, ↓ap_getR, ↓ap_putI, ↓ap_putN, ↓ap_putR, ↓ap_iald, ↓ap_cald, ↓ap_iast, ↓ap_cast, ↓ap_aald, ↓ap_aast, ↓ap_alen, ↓ap_stat, ↓ap_pop, ↓ap_mm, ↓ap_copy, ↓ap_ret, ↓ap_iret, ↓ap_zret, ↓ap_aret, ↓ap_retA, ↓ap_new, ↓ap_newa, ↓ap_callV, ↓ap_callS, ↓ap_callI, am_in, List.map_cons, List.map_nil, List.getElem?_cons_zero, List.getElem?_cons_succ, List.set_cons_zero, List.set_cons_succ, List.take_succ_cons, List.take_zero, List.drop_succ_cons, List.drop_zero, List.reverse_cons, List.reverse_nil, List.nil_append, List.cons_append, List.append_nil, List.length_cons, List.length_nil, List.replicate_succ, List.replicate_zero, Option.toList_some, Option.toList_none, true_and, and_true, Option.some.injEq, exists_eq_left', am_wI_mk, am_wA_mk, am_wR_mk, Nat.reduceAdd, Nat.reduceSub, Nat.reduceLeDiff, Nat.zero_add, Nat.le_refl, not_true_eq_false, not_false_eq_true, forall_const, false_implies, true_implies, implies_true, and_self, Prod.mk.injEq, eq_self, true_or, or_true, false_and, and_false, or_false, false_or, Nat.reduceEqDiff, ↓a_L_drops_92, g0, g1, g2, g3, arr1 g0, arr1 g1, arr1 g2, arr1 g3]
        simp (disch := omega) only [lt3, lt2, nmul, nadd, np1, vpn, vcl, q0, w1, true_and]
        rw [nle (by omega) (by omega)]
        refine ⟨fun h => c100 _ ?_, fun h => c100 _ ?_⟩
        · rw [if_neg (by omega)]
        · rw [if_pos (by omega), npd (by omega)]
      apply am_fold; rw [h_L_drops_6]
      simp only [↓ap_cc, ↓ap_const, ↓ap_iload, ↓ap_aload, ↓ap_istore, ↓ap_astore, ↓ap_iinc, ↓ap_bin, ↓ap_idiv, ↓ap_irem, ↓ap_callSA, ↓ap_iretA, ↓ap_zretA, ↓ap_i2c, ↓ap_dup, ↓ap_dup2, ↓ap_nn, ↓ap_ic, ↓ap_if, ↓ap_sw, ↓ap_head, ↓ap_getI, ↓ap_getR, ↓ap_putI, ↓ap_putN, ↓ap_putR, ↓ap_iald, ↓ap_cald, ↓ap_iast, ↓ap_cast, ↓ap_aald, ↓ap_aast, ↓ap_alen, ↓ap_stat, ↓ap_pop, ↓ap_mm, ↓ap_copy, ↓ap_ret, ↓ap_iret, ↓ap_zret, ↓ap_aret, ↓ap_retA, ↓ap_new, ↓ap_newa, ↓ap_callV, ↓ap_callS, ↓ap_callI, am_in, List.map_cons, List.map_nil, List.getElem?_cons_zero, List.getElem?_cons_succ, List.set_cons_zero, List.set_cons_succ, List.take_succ_cons, List.take_zero, List.drop_succ_cons, List.drop_zero, List.reverse_cons, List.reverse_nil, List.nil_append, List.cons_append, List.append_nil, List.length_cons, List.length_nil, List.replicate_succ, List.replicate_zero, Option.toList_some, Option.toList_none, true_and, and_true, Option.some.injEq, exists_eq_left', am_wI_mk, am_wA_mk, am_wR_mk, Nat.reduceAdd, Nat.reduceSub, Nat.reduceLeDiff, Nat.zero_add, Nat.le_refl, not_true_eq_false, not_false_eq_true, forall_const, false_implies, true_implies, implies_true, and_self, Prod.mk.injEq, eq_self, true_or, or_true, false_and, and_false, or_false, false_or, Nat.reduceEqDiff, ↓a_L_drops_6, ↓a_L_drops_145, g0, g1, g2, g3, arr1 g0, arr1 g1, arr1 g2, arr1 g3]
      try simp (disch := omega) only [nm1, nm1', nsub1, np1, npd, nadd, n0m1, m1lt, nlt0, nge0, ngt0, nle0, nlt, nle, neq, neq0, m1n, m4n, vpn, vcl, ne_eq, bI_0, bI_1, bI_01, lit01, lit00, oI_s, oI_n, true_and, and_true, not_true_eq_false, not_false_eq_true, true_implies, false_implies, and_self, implies_true, forall_const, Bool.not_eq_false, Bool.not_eq_true, iu_s, iu_k1, iu_j1, ia_s1, ia_k1, lt2, lt3, lt5, lt6, lt7, lt8, lt9, lt10, lt11, lt12, lt13, lt15, lt16, lt17, lt20, lt26, lt30, lt32, lt36, lt50, lt60, lt64, lt100, lt300, lt400, lt500, lt1000, lt65536, lt100001, lt10000000, lt48, lt57, lt71, lt80, lt97, lt98, lt108, lt110, lt126, lt191, lt200, lt227, lt681, lt832, lt7919, lt1000000, lt18, lt45, lt65535, lt100000, decide_eq_true_eq, decide_eq_false_iff_not, Nat.le_refl, true_or, or_true, eq_self, e10, nmul, q0, q1]
      refine ⟨fun h => by omega, fun _ => ⟨fun h => gone (Or.inl h), fun h1 => ⟨fun h0 => c48 (fun q => q.elim (fun q => h1 q) (fun q => q.1 h0)), fun h0 => ?_⟩⟩⟩
      have b2 := bi.2.2 h0
      have e2 : I' 117 (3 * i + 2) = nI (gF a 2 i) := by rw [q2]; unfold eI; rw [if_neg h0]
      try simp (disch := omega) only [nm1, nm1', nsub1, np1, npd, nadd, n0m1, m1lt, nlt0, nge0, ngt0, nle0, nlt, nle, neq, neq0, m1n, m4n, vpn, vcl, ne_eq, bI_0, bI_1, bI_01, lit01, lit00, oI_s, oI_n, true_and, and_true, not_true_eq_false, not_false_eq_true, true_implies, false_implies, and_self, implies_true, forall_const, Bool.not_eq_false, Bool.not_eq_true, iu_s, iu_k1, iu_j1, ia_s1, ia_k1, lt2, lt3, lt5, lt6, lt7, lt8, lt9, lt10, lt11, lt12, lt13, lt15, lt16, lt17, lt20, lt26, lt30, lt32, lt36, lt50, lt60, lt64, lt100, lt300, lt400, lt500, lt1000, lt65536, lt100001, lt10000000, lt48, lt57, lt71, lt80, lt97, lt98, lt108, lt110, lt126, lt191, lt200, lt227, lt681, lt832, lt7919, lt1000000, lt18, lt45, lt65535, lt100000, decide_eq_true_eq, decide_eq_false_iff_not, Nat.le_refl, true_or, or_true, eq_self, e2]
      exact ⟨fun h => gone (Or.inr ⟨h0, h⟩), fun h2 => c48 (fun q => q.elim (fun q => h1 q) (fun q => h2 q.2))⟩
  refine ⟨Nat.le_of_ble_eq_true rfl, am_fold ?_⟩; rw [h_L_drops_0]
  simp only [↓ap_cc, ↓ap_const, ↓ap_iload, ↓ap_aload, ↓ap_istore, ↓ap_astore, ↓ap_iinc, ↓ap_bin, ↓ap_idiv, ↓ap_irem, ↓ap_callSA, ↓ap_iretA, ↓ap_zretA, ↓ap_i2c, ↓ap_dup, ↓ap_dup2, ↓ap_nn, ↓ap_ic, ↓ap_if, ↓ap_sw, ↓ap_head, ↓ap_getI, ↓ap_getR, ↓ap_putI, ↓ap_putN, ↓ap_putR, ↓ap_iald, ↓ap_cald, ↓ap_iast, ↓ap_cast, ↓ap_aald, ↓ap_aast, ↓ap_alen, ↓ap_stat, ↓ap_pop, ↓ap_mm, ↓ap_copy, ↓ap_ret, ↓ap_iret, ↓ap_zret, ↓ap_aret, ↓ap_retA, ↓ap_new, ↓ap_newa, ↓ap_callV, ↓ap_callS, ↓ap_callI, am_in, List.map_cons, List.map_nil, List.getElem?_cons_zero, List.getElem?_cons_succ, List.set_cons_zero, List.set_cons_succ, List.take_succ_cons, List.take_zero, List.drop_succ_cons, List.drop_zero, List.reverse_cons, List.reverse_nil, List.nil_append, List.cons_append, List.append_nil, List.length_cons, List.length_nil, List.replicate_succ, List.replicate_zero, Option.toList_some, Option.toList_none, true_and, and_true, Option.some.injEq, exists_eq_left', am_wI_mk, am_wA_mk, am_wR_mk, Nat.reduceAdd, Nat.reduceSub, Nat.reduceLeDiff, Nat.zero_add, Nat.le_refl, not_true_eq_false, not_false_eq_true, forall_const, false_implies, true_implies, implies_true, and_self, Prod.mk.injEq, eq_self, true_or, or_true, false_and, and_false, or_false, false_or, Nat.reduceEqDiff, ↓a_L_drops_191, ↓a_L_drops_162, ↓a_L_drops_151, ↓a_L_drops_145, ↓a_L_drops_141, ↓a_L_drops_133, ↓a_L_drops_100, ↓a_L_drops_92, ↓a_L_drops_48, ↓a_L_drops_6, ↓a_L_drops_0, g0, g1, g2, g3, arr1 g0, arr1 g1, arr1 g2, arr1 g3]
  exact l6 0 (by omega) I Fr.rfl (fun m hm => by omega) (fun j _ => rfl)
theorem l_top {w : Nat} {M : am_M} (hp : post (some (.inl (am_t2 w))) M) (hw : w < 8) : sp_L_top [.inl (nI w)] M post := by
  refine ⟨Nat.le_of_ble_eq_true rfl, am_fold ?_⟩; rw [h_L_top_0]
  simp only [↓ap_cc, ↓ap_const, ↓ap_iload, ↓ap_aload, ↓ap_istore, ↓ap_astore, ↓ap_iinc, ↓ap_bin, ↓ap_idiv, ↓ap_irem, ↓ap_callSA, ↓ap_iretA, ↓ap_zretA, ↓ap_i2c, ↓ap_dup, ↓ap_dup2, ↓ap_nn, ↓ap_ic, ↓ap_if, ↓ap_sw, ↓ap_head, ↓ap_getI, ↓ap_getR, ↓ap_putI, ↓ap_putN, ↓ap_putR, ↓ap_iald, ↓ap_cald, ↓ap_iast, ↓ap_cast, ↓ap_aald, ↓ap_aast, ↓ap_alen, ↓ap_stat, ↓ap_pop, ↓ap_mm, ↓ap_copy, ↓ap_ret, ↓ap_iret, ↓ap_zret, ↓ap_aret, ↓ap_retA, ↓ap_new, ↓ap_newa, ↓ap_callV, ↓ap_callS, ↓ap_callI, am_in, List.map_cons, List.map_nil, List.getElem?_cons_zero, List.getElem?_cons_succ, List.set_cons_zero, List.set_cons_succ, List.take_succ_cons, List.take_zero, List.drop_succ_cons, List.drop_zero, List.reverse_cons, List.reverse_nil, List.nil_append, List.cons_append, List.append_nil, List.length_cons, List.length_nil, List.replicate_succ, List.replicate_zero, Option.toList_some, Option.toList_none, true_and, and_true, Option.some.injEq, exists_eq_left', am_wI_mk, am_wA_mk, am_wR_mk, Nat.reduceAdd, Nat.reduceSub, Nat.reduceLeDiff, Nat.zero_add, Nat.le_refl, not_true_eq_false, not_false_eq_true, forall_const, false_implies, true_implies, implies_true, and_self, Prod.mk.injEq, eq_self, true_or, or_true, false_and, and_false, or_false, false_or, Nat.reduceEqDiff, ↓a_L_top_44, ↓a_L_top_42, ↓a_L_top_30, ↓a_L_top_20, ↓a_L_top_9, ↓a_L_top_0]
  rcases (by omega : w = 0 ∨ w = 1 ∨ w = 2 ∨ w = 3 ∨ w = 4 ∨ w = 5 ∨ w = 6 ∨ w = 7) with rfl | rfl | rfl | rfl | rfl | rfl | rfl | rfl
  · exact ⟨fun h => absurd rfl h, fun _ => hp⟩
  · exact ⟨fun _ => ⟨fun h => absurd rfl h, fun _ => hp⟩, (fun h => absurd (by decide) h)⟩
  · exact ⟨fun _ => ⟨fun _ => ⟨fun _ => ⟨fun _ => hp, (fun h => absurd (by decide) h)⟩, (fun h => absurd (by decide) h)⟩, (fun h => absurd (by decide) h)⟩, (fun h => absurd (by decide) h)⟩
  · exact ⟨fun _ => ⟨fun _ => ⟨fun _ => ⟨fun _ => hp, (fun h => absurd (by decide) h)⟩, (fun h => absurd (by decide) h)⟩, (fun h => absurd (by decide) h)⟩, (fun h => absurd (by decide) h)⟩
  · exact ⟨fun _ => ⟨fun _ => ⟨fun h => absurd rfl h, fun _ => hp⟩, (fun h => absurd (by decide) h)⟩, (fun h => absurd (by decide) h)⟩
  · exact ⟨fun _ => ⟨fun _ => ⟨fun _ => ⟨fun _ => hp, (fun h => absurd (by decide) h)⟩, (fun h => absurd (by decide) h)⟩, (fun h => absurd (by decide) h)⟩, (fun h => absurd (by decide) h)⟩
  · exact ⟨fun _ => ⟨fun _ => ⟨fun _ => ⟨fun h => absurd rfl h, fun _ => hp⟩, (fun h => absurd (by decide) h)⟩, (fun h => absurd (by decide) h)⟩, (fun h => absurd (by decide) h)⟩
  · exact ⟨fun _ => ⟨fun _ => ⟨fun _ => ⟨fun _ => hp, (fun h => absurd (by decide) h)⟩, (fun h => absurd (by decide) h)⟩, (fun h => absurd (by decide) h)⟩, (fun h => absurd (by decide) h)⟩
