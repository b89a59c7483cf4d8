-- needs: 10 11 12 13 14
variable {S : List (Nat × Nat)} {R : Nat → Nat → Option Nat} {I : Nat → Nat → Int32} {H L : Nat} {a : Lg} {q : Nat → Nat} {c : Nat} {h : Nat → Lg} {post : am_R}
theorem ur_all (R : Nat → Nat → Option Nat) (k j x k' j' : Nat) : am_ur R k j x k' j' = if k' = k ∧ j' = j then some x else R k' j' := by
  unfold am_ur va_up
  by_cases h : k' = k
  · subst h
    by_cases h2 : j' = j
    · subst h2; simp
    · simp [h2]
  · simp [h]
theorem ur_k {R : Nat → Nat → Option Nat} {k j x k' : Nat} (h : k' ≠ k) : am_ur R k j x k' = R k' := by
  unfold am_ur va_up; simp [h]
theorem LogS.sameR {R' : Nat → Nat → Option Nat} (hS : LogS S R L) (h : R' L = R L) : LogS S R' L := by
  unfold LogS at hS ⊢; rw [h]; exact hS
/-- the places of a history at H: its row of states, and the states -/
def HisS (S : List (Nat × Nat)) (R : Nat → Nat → Option Nat) (H : Nat) (q : Nat → Nat) : Prop := S[H]? = some (0, 0) ∧ S[H + 1]? = some (3, 4) ∧ R H 1 = some (H + 1) ∧ ∀ j, j < 4 → R (H + 1) j = some (q j) ∧ LogS S R (q j) ∧ H + 2 ≤ q j ∧ q j + 11 ≤ H + 49 ∧ ∀ i, i < 4 → i ≠ j → q i + 11 < q j ∨ q j + 11 < q i
def HisI (I : Nat → Nat → Int32) (H : Nat) (q : Nat → Nat) (c : Nat) (h : Nat → Lg) : Prop := c ≤ 4 ∧ I H 0 = nI c ∧ ∀ j, j < c → LogI I (q j) (h j) ∧ LgB (h j)
theorem f_dropOldest (hS : HisS S R H q) (hc : c ≤ 4) (hI : I H 0 = nI c) (hc0 : 0 < c) (hp : ∀ R', (∀ k, k ≠ H + 1 → R' k = R k) → (∀ j, j < 4 → R' (H + 1) j = some (q (if j = 3 then 0 else j + 1))) → post none (S, am_u I H 0 (nI (c - 1)), R')) : sp_X0_dropOldest [.inr H] (S, I, R) post := by
  obtain ⟨s0, s1, r1, hq⟩ := hS
  have l9 : ∀ i, i ≤ 4 → ∀ R', 1 ≤ i → (∀ k, k ≠ H + 1 → R' k = R k) → (∀ j, j < 4 → R' (H + 1) j = some (q (if j + 1 < i then j + 1 else j))) → am_OK h_X0_dropOldest post 9 [some (.inr H), some (.inr (q 0)), some (.inl (nI i))] (S, I, R') := by
    refine dn 4 ?_ ?_
    · intro R' _ hR hj
      have z := (hq 0 (by decide)).2.1.1.1
      have rH : R' H 1 = some (H + 1) := by rw [hR H (by omega)]; exact r1
      apply am_fold; rw [h_X0_dropOldest_9]
      simp only [↓ap_cc, ↓ap_const, ↓ap_iload, ↓ap_aload, ↓ap_istore, ↓ap_astore, ↓ap_iinc, ↓ap_bin, ↓ap_idiv, ↓ap_irem, ↓ap_callSA, ↓ap_iretA, ↓ap_zretA, ↓ap_i2c, ↓ap_dup, ↓ap_dup2, ↓ap_nn, ↓ap_ic, ↓ap_if, ↓ap_sw, ↓ap_head, ↓ap_getI, ↓ap_getR, ↓ap_putI, ↓ap_putN, ↓ap_putR, ↓ap_iald, ↓ap_cald, ↓ap_iast, ↓ap_cast, ↓ap_aald, ↓ap_aast, ↓ap_alen, ↓ap_stat, ↓ap_pop, ↓ap_mm, ↓ap_copy, ↓ap_ret, ↓ap_iret, ↓ap_zret, ↓ap_aret, ↓ap_retA, ↓ap_new, ↓ap_newa, ↓ap_callV, ↓ap_callS, ↓ap_callI, am_in, List.map_cons, List.map_nil, List.getElem?_cons_zero, List.getElem?_cons_succ, List.set_cons_zero, List.set_cons_succ, List.take_succ_cons, List.take_zero, List.drop_succ_cons, List.drop_zero, List.reverse_cons, List.reverse_nil, List.nil_append, List.cons_append, List.append_nil, List.length_cons, List.length_nil, List.replicate_succ, List.replicate_zero, Option.toList_some, Option.toList_none, true_and, and_true, Option.some.injEq, exists_eq_left', am_wI_mk, am_wA_mk, am_wR_mk, Nat.reduceAdd, Nat.reduceSub, Nat.reduceLeDiff, Nat.zero_add, Nat.le_refl, not_true_eq_false, not_false_eq_true, forall_const, false_implies, true_implies, implies_true, and_self, Prod.mk.injEq, eq_self, true_or, or_true, false_and, and_false, or_false, false_or, Nat.reduceEqDiff, ↓a_X0_dropOldest_34, ↓a_X0_dropOldest_9, ↓a_X0_dropOldest_0, s0, s1, rH, z, hI]
      try simp (disch := omega) only [nm1, nm1', nsub1, np1, npd, nadd, n0m1, m1lt, nlt0, nge0, ngt0, nle0, nlt, nle, neq, neq0, m1n, m4n, vpn, vcl, ne_eq, bI_0, bI_1, bI_01, lit01, lit00, oI_s, oI_n, true_and, and_true, not_true_eq_false, not_false_eq_true, true_implies, false_implies, and_self, implies_true, forall_const, Bool.not_eq_false, Bool.not_eq_true, iu_s, iu_k1, iu_j1, ia_s1, ia_k1, lt2, lt3, lt5, lt6, lt7, lt8, lt9, lt10, lt11, lt12, lt13, lt15, lt16, lt17, lt20, lt26, lt30, lt32, lt36, lt50, lt60, lt64, lt100, lt300, lt400, lt500, lt1000, lt65536, lt100001, lt10000000, lt48, lt57, lt71, lt80, lt97, lt98, lt108, lt110, lt126, lt191, lt200, lt227, lt681, lt65535, lt100000, decide_eq_true_eq, decide_eq_false_iff_not, Nat.le_refl, true_or, or_true, eq_self, lt4]
      refine hp _ (fun k hk => ?_) (fun j hj4 => ?_)
      · rw [ur_k hk, hR k hk]
      · rw [ur_all]
        by_cases h3 : j = 3
        · subst h3; simp
        · rw [if_neg (fun q => h3 q.2), hj j hj4, if_pos (by omega), if_neg h3]
    · intro i hi ih R' h1 hR hj
      obtain ⟨i', rfl⟩ : ∃ i', i = i' + 1 := ⟨i - 1, by omega⟩
      have z := (hq (i' + 1) hi).2.1.1.1
      have e1 := hj (i' + 1) hi
      rw [if_neg (by omega)] at e1
      have rH : R' H 1 = some (H + 1) := by rw [hR H (by omega)]; exact r1
      apply am_fold; rw [h_X0_dropOldest_9]
      simp only [↓ap_cc, ↓ap_const, ↓ap_iload, ↓ap_aload, ↓ap_istore, ↓ap_astore, ↓ap_iinc, ↓ap_bin, ↓ap_idiv, ↓ap_irem, ↓ap_callSA, ↓ap_iretA, ↓ap_zretA, ↓ap_i2c, ↓ap_dup, ↓ap_dup2, ↓ap_nn, ↓ap_ic, ↓ap_if, ↓ap_sw, ↓ap_head, ↓ap_getI, ↓ap_getR, ↓ap_putI, ↓ap_putN, ↓ap_putR, ↓ap_iald, ↓ap_cald, ↓ap_iast, ↓ap_cast, ↓ap_aald, ↓ap_aast, ↓ap_alen, ↓ap_stat, ↓ap_pop, ↓ap_mm, ↓ap_copy, ↓ap_ret, ↓ap_iret, ↓ap_zret, ↓ap_aret, ↓ap_retA, ↓ap_new, ↓ap_newa, ↓ap_callV, ↓ap_callS, ↓ap_callI, am_in, List.map_cons, List.map_nil, List.getElem?_cons_zero, List.getElem?_cons_succ, List.set_cons_zero, List.set_cons_succ, List.take_succ_cons, List.take_zero, List.drop_succ_cons, List.drop_zero, List.reverse_cons, List.reverse_nil, List.nil_append, List.cons_append, List.append_nil, List.length_cons, List.length_nil, List.replicate_succ, List.replicate_zero, Option.toList_some, Option.toList_none, true_and, and_true, Option.some.injEq, exists_eq_left', am_wI_mk, am_wA_mk, am_wR_mk, Nat.reduceAdd, Nat.reduceSub, Nat.reduceLeDiff, Nat.zero_add, Nat.le_refl, not_true_eq_false, not_false_eq_true, forall_const, false_implies, true_implies, implies_true, and_self, Prod.mk.injEq, eq_self, true_or, or_true, false_and, and_false, or_false, false_or, Nat.reduceEqDiff, ↓a_X0_dropOldest_34, ↓a_X0_dropOldest_9, ↓a_X0_dropOldest_0, s0, s1, rH, nm1]
      try simp (disch := omega) only [nm1, nm1', nsub1, np1, npd, nadd, n0m1, m1lt, nlt0, nge0, ngt0, nle0, nlt, nle, neq, neq0, m1n, m4n, vpn, vcl, ne_eq, bI_0, bI_1, bI_01, lit01, lit00, oI_s, oI_n, true_and, and_true, not_true_eq_false, not_false_eq_true, true_implies, false_implies, and_self, implies_true, forall_const, Bool.not_eq_false, Bool.not_eq_true, iu_s, iu_k1, iu_j1, ia_s1, ia_k1, lt2, lt3, lt5, lt6, lt7, lt8, lt9, lt10, lt11, lt12, lt13, lt15, lt16, lt17, lt20, lt26, lt30, lt32, lt36, lt50, lt60, lt64, lt100, lt300, lt400, lt500, lt1000, lt65536, lt100001, lt10000000, lt48, lt57, lt71, lt80, lt97, lt98, lt108, lt110, lt126, lt191, lt200, lt227, lt681, lt65535, lt100000, decide_eq_true_eq, decide_eq_false_iff_not, Nat.le_refl, true_or, or_true, eq_self, lt4, e1]
      refine ⟨fun h => by omega, fun _ => ⟨q (i' + 1), rfl, z, ih _ (by omega) (fun k hk => ?_) (fun j hj4 => ?_)⟩⟩
      · rw [ur_k hk, hR k hk]
      · rw [ur_all]
        by_cases h3 : j = i'
        · subst h3; simp
        · rw [if_neg (fun q => h3 q.2), hj j hj4]
          by_cases h4 : j + 1 < i' + 1
          · rw [if_pos h4, if_pos (by omega)]
          · rw [if_neg h4, if_neg (by omega)]
  have e0 := (hq 0 (by decide)).1
  refine ⟨Nat.le_of_ble_eq_true rfl, am_fold ?_⟩; rw [h_X0_dropOldest_0]
  simp only [↓ap_cc, ↓ap_const, ↓ap_iload, ↓ap_aload, ↓ap_istore, ↓ap_astore, ↓ap_iinc, ↓ap_bin, ↓ap_idiv, ↓ap_irem, ↓ap_callSA, ↓ap_iretA, ↓ap_zretA, ↓ap_i2c, ↓ap_dup, ↓ap_dup2, ↓ap_nn, ↓ap_ic, ↓ap_if, ↓ap_sw, ↓ap_head, ↓ap_getI, ↓ap_getR, ↓ap_putI, ↓ap_putN, ↓ap_putR, ↓ap_iald, ↓ap_cald, ↓ap_iast, ↓ap_cast, ↓ap_aald, ↓ap_aast, ↓ap_alen, ↓ap_stat, ↓ap_pop, ↓ap_mm, ↓ap_copy, ↓ap_ret, ↓ap_iret, ↓ap_zret, ↓ap_aret, ↓ap_retA, ↓ap_new, ↓ap_newa, ↓ap_callV, ↓ap_callS, ↓ap_callI, am_in, List.map_cons, List.map_nil, List.getElem?_cons_zero, List.getElem?_cons_succ, List.set_cons_zero, List.set_cons_succ, List.take_succ_cons, List.take_zero, List.drop_succ_cons, List.drop_zero, List.reverse_cons, List.reverse_nil, List.nil_append, List.cons_append, List.append_nil, List.length_cons, List.length_nil, List.replicate_succ, List.replicate_zero, Option.toList_some, Option.toList_none, true_and, and_true, Option.some.injEq, exists_eq_left', am_wI_mk, am_wA_mk, am_wR_mk, Nat.reduceAdd, Nat.reduceSub, Nat.reduceLeDiff, Nat.zero_add, Nat.le_refl, not_true_eq_false, not_false_eq_true, forall_const, false_implies, true_implies, implies_true, and_self, Prod.mk.injEq, eq_self, true_or, or_true, false_and, and_false, or_false, false_or, Nat.reduceEqDiff, ↓a_X0_dropOldest_34, ↓a_X0_dropOldest_9, ↓a_X0_dropOldest_0, s0, s1, r1]
  try simp (disch := omega) only [nm1, nm1', nsub1, np1, npd, nadd, n0m1, m1lt, nlt0, nge0, ngt0, nle0, nlt, nle, neq, neq0, m1n, m4n, vpn, vcl, ne_eq, bI_0, bI_1, bI_01, lit01, lit00, oI_s, oI_n, true_and, and_true, not_true_eq_false, not_false_eq_true, true_implies, false_implies, and_self, implies_true, forall_const, Bool.not_eq_false, Bool.not_eq_true, iu_s, iu_k1, iu_j1, ia_s1, ia_k1, lt2, lt3, lt5, lt6, lt7, lt8, lt9, lt10, lt11, lt12, lt13, lt15, lt16, lt17, lt20, lt26, lt30, lt32, lt36, lt50, lt60, lt64, lt100, lt300, lt400, lt500, lt1000, lt65536, lt100001, lt10000000, lt48, lt57, lt71, lt80, lt97, lt98, lt108, lt110, lt126, lt191, lt200, lt227, lt681, lt65535, lt100000, decide_eq_true_eq, decide_eq_false_iff_not, Nat.le_refl, true_or, or_true, eq_self, lt4, vpn0, vcl0, e0]
  refine ⟨q 0, rfl, l9 1 (by omega) R (by omega) (fun _ _ => rfl) (fun j hj => ?_)⟩
  rw [if_neg (by omega)]; exact (hq j hj).1
/-- a state more, the oldest one gone if there were four -/
def pushC (c : Nat) : Nat := if c = 4 then 4 else c + 1
def pushH (c : Nat) (h : Nat → Lg) (a : Lg) : Nat → Lg := if c = 4 then (fun j => if j = 3 then a else h (j + 1)) else fun j => if j = c then a else h j
theorem HisS.sw (hS : HisS S R H q) {R' : Nat → Nat → Option Nat} (hR : ∀ k, k ≠ H + 1 → R' k = R k) (hj : ∀ j, j < 4 → R' (H + 1) j = some (q (if j = 3 then 0 else j + 1))) : HisS S R' H (fun j => q (if j = 3 then 0 else j + 1)) := by
  obtain ⟨s0, s1, r1, hq⟩ := hS
  refine ⟨s0, s1, by rw [hR H (by omega)]; exact r1, fun j hj4 => ?_⟩
  have hx : (if j = 3 then 0 else j + 1) < 4 := by split <;> omega
  have h := hq _ hx
  refine ⟨hj j hj4, h.2.1.sameR (hR _ (by omega)), h.2.2.1, h.2.2.2.1, fun i hi hne => ?_⟩
  refine h.2.2.2.2 _ (by split <;> omega) ?_
  split <;> split <;> omega
theorem f_keep (hH : HisS S R H q) (hL : LogS S R L) (hlt : L + 11 < H) (hHI : HisI I H q c h) (hI : LogI I L a) (hB : LgB a) (hp : ∀ I' R' q', (∀ k, k ≠ H + 1 → R' k = R k) → HisS S R' H q' → Fr H (H + 49) I I' → HisI I' H q' (pushC c) (pushH c h a) → post none (S, I', R')) : sp_X0_keep [.inr H, .inr L] (S, I, R) post := by
  obtain ⟨s0, s1, r1, hq⟩ := id hH
  have c12 : ∀ I1 R1 q1 c1 h1, c1 < 4 → (∀ k, k ≠ H + 1 → R1 k = R k) → HisS S R1 H q1 → Fr H (H + 49) I I1 → HisI I1 H q1 c1 h1 → pushC c = c1 + 1 → (∀ j, j < c1 → pushH c h a j = h1 j) → pushH c h a c1 = a → ∀ o : Option am_V, t_X0_keep_12 [some (.inr H), some (.inr L), o] [] (S, I1, R1) (am_OK h_X0_keep post) post := by
    intro I1 R1 q1 c1 h1 hc1 hR1 hH1 hf1 hHI1 e1 e2 e3 o
    obtain ⟨s0, s1, r1, hq1⟩ := id hH1
    have hqc := hq1 c1 hc1
    have hI1 := hI.fr hf1 (by omega)
    simp only [↓a_X0_keep_12]
    simp only [↓ap_cc, ↓ap_const, ↓ap_iload, ↓ap_aload, ↓ap_istore, ↓ap_astore, ↓ap_iinc, ↓ap_bin, ↓ap_idiv, ↓ap_irem, ↓ap_callSA, ↓ap_iretA, ↓ap_zretA, ↓ap_i2c, ↓ap_dup, ↓ap_dup2, ↓ap_nn, ↓ap_ic, ↓ap_if, ↓ap_sw, ↓ap_head, ↓ap_getI, ↓ap_getR, ↓ap_putI, ↓ap_putN, ↓ap_putR, ↓ap_iald, ↓ap_cald, ↓ap_iast, ↓ap_cast, ↓ap_aald, ↓ap_aast, ↓ap_alen, ↓ap_stat, ↓ap_pop, ↓ap_mm, ↓ap_copy, ↓ap_ret, ↓ap_iret, ↓ap_zret, ↓ap_aret, ↓ap_retA, ↓ap_new, ↓ap_newa, ↓ap_callV, ↓ap_callS, ↓ap_callI, am_in, List.map_cons, List.map_nil, List.getElem?_cons_zero, List.getElem?_cons_succ, List.set_cons_zero, List.set_cons_succ, List.take_succ_cons, List.take_zero, List.drop_succ_cons, List.drop_zero, List.reverse_cons, List.reverse_nil, List.nil_append, List.cons_append, List.append_nil, List.length_cons, List.length_nil, List.replicate_succ, List.replicate_zero, Option.toList_some, Option.toList_none, true_and, and_true, Option.some.injEq, exists_eq_left', am_wI_mk, am_wA_mk, am_wR_mk, Nat.reduceAdd, Nat.reduceSub, Nat.reduceLeDiff, Nat.zero_add, Nat.le_refl, not_true_eq_false, not_false_eq_true, forall_const, false_implies, true_implies, implies_true, and_self, Prod.mk.injEq, eq_self, true_or, or_true, false_and, and_false, or_false, false_or, Nat.reduceEqDiff, s0, s1, r1, hHI1.2.1]
    try simp (disch := omega) only [nm1, nm1', nsub1, np1, npd, nadd, n0m1, m1lt, nlt0, nge0, ngt0, nle0, nlt, nle, neq, neq0, m1n, m4n, vpn, vcl, ne_eq, bI_0, bI_1, bI_01, lit01, lit00, oI_s, oI_n, true_and, and_true, not_true_eq_false, not_false_eq_true, true_implies, false_implies, and_self, implies_true, forall_const, Bool.not_eq_false, Bool.not_eq_true, iu_s, iu_k1, iu_j1, ia_s1, ia_k1, lt2, lt3, lt5, lt6, lt7, lt8, lt9, lt10, lt11, lt12, lt13, lt15, lt16, lt17, lt20, lt26, lt30, lt32, lt36, lt50, lt60, lt64, lt100, lt300, lt400, lt500, lt1000, lt65536, lt100001, lt10000000, lt48, lt57, lt71, lt80, lt97, lt98, lt108, lt110, lt126, lt191, lt200, lt227, lt681, lt65535, lt100000, decide_eq_true_eq, decide_eq_false_iff_not, Nat.le_refl, true_or, or_true, eq_self, lt4, hqc.1]
    refine ⟨q1 c1, rfl, ?_⟩
    simp only [↓ap_cc, ↓ap_const, ↓ap_iload, ↓ap_aload, ↓ap_istore, ↓ap_astore, ↓ap_iinc, ↓ap_bin, ↓ap_idiv, ↓ap_irem, ↓ap_callSA, ↓ap_iretA, ↓ap_zretA, ↓ap_i2c, ↓ap_dup, ↓ap_dup2, ↓ap_nn, ↓ap_ic, ↓ap_if, ↓ap_sw, ↓ap_head, ↓ap_getI, ↓ap_getR, ↓ap_putI, ↓ap_putN, ↓ap_putR, ↓ap_iald, ↓ap_cald, ↓ap_iast, ↓ap_cast, ↓ap_aald, ↓ap_aast, ↓ap_alen, ↓ap_stat, ↓ap_pop, ↓ap_mm, ↓ap_copy, ↓ap_ret, ↓ap_iret, ↓ap_zret, ↓ap_aret, ↓ap_retA, ↓ap_new, ↓ap_newa, ↓ap_callV, ↓ap_callS, ↓ap_callI, am_in, List.map_cons, List.map_nil, List.getElem?_cons_zero, List.getElem?_cons_succ, List.set_cons_zero, List.set_cons_succ, List.take_succ_cons, List.take_zero, List.drop_succ_cons, List.drop_zero, List.reverse_cons, List.reverse_nil, List.nil_append, List.cons_append, List.append_nil, List.length_cons, List.length_nil, List.replicate_succ, List.replicate_zero, Option.toList_some, Option.toList_none, true_and, and_true, Option.some.injEq, exists_eq_left', am_wI_mk, am_wA_mk, am_wR_mk, Nat.reduceAdd, Nat.reduceSub, Nat.reduceLeDiff, Nat.zero_add, Nat.le_refl, not_true_eq_false, not_false_eq_true, forall_const, false_implies, true_implies, implies_true, and_self, Prod.mk.injEq, eq_self, true_or, or_true, false_and, and_false, or_false, false_or, Nat.reduceEqDiff, s0, s1, r1, hHI1.2.1, hqc.2.1.1.1]
    refine f_copyFrom hqc.2.1 (hL.sameR (hR1 L (by omega))) hI1 hB (by omega) (fun I2 hI2 hf2 => ?_)
    have e0 : I2 H 0 = nI c1 := by rw [hf2 H (by omega)]; exact hHI1.2.1
    simp only [↓ap_cc, ↓ap_const, ↓ap_iload, ↓ap_aload, ↓ap_istore, ↓ap_astore, ↓ap_iinc, ↓ap_bin, ↓ap_idiv, ↓ap_irem, ↓ap_callSA, ↓ap_iretA, ↓ap_zretA, ↓ap_i2c, ↓ap_dup, ↓ap_dup2, ↓ap_nn, ↓ap_ic, ↓ap_if, ↓ap_sw, ↓ap_head, ↓ap_getI, ↓ap_getR, ↓ap_putI, ↓ap_putN, ↓ap_putR, ↓ap_iald, ↓ap_cald, ↓ap_iast, ↓ap_cast, ↓ap_aald, ↓ap_aast, ↓ap_alen, ↓ap_stat, ↓ap_pop, ↓ap_mm, ↓ap_copy, ↓ap_ret, ↓ap_iret, ↓ap_zret, ↓ap_aret, ↓ap_retA, ↓ap_new, ↓ap_newa, ↓ap_callV, ↓ap_callS, ↓ap_callI, am_in, List.map_cons, List.map_nil, List.getElem?_cons_zero, List.getElem?_cons_succ, List.set_cons_zero, List.set_cons_succ, List.take_succ_cons, List.take_zero, List.drop_succ_cons, List.drop_zero, List.reverse_cons, List.reverse_nil, List.nil_append, List.cons_append, List.append_nil, List.length_cons, List.length_nil, List.replicate_succ, List.replicate_zero, Option.toList_some, Option.toList_none, true_and, and_true, Option.some.injEq, exists_eq_left', am_wI_mk, am_wA_mk, am_wR_mk, Nat.reduceAdd, Nat.reduceSub, Nat.reduceLeDiff, Nat.zero_add, Nat.le_refl, not_true_eq_false, not_false_eq_true, forall_const, false_implies, true_implies, implies_true, and_self, Prod.mk.injEq, eq_self, true_or, or_true, false_and, and_false, or_false, false_or, Nat.reduceEqDiff, s0, e0]
    try simp (disch := omega) only [nm1, nm1', nsub1, np1, npd, nadd, n0m1, m1lt, nlt0, nge0, ngt0, nle0, nlt, nle, neq, neq0, m1n, m4n, vpn, vcl, ne_eq, bI_0, bI_1, bI_01, lit01, lit00, oI_s, oI_n, true_and, and_true, not_true_eq_false, not_false_eq_true, true_implies, false_implies, and_self, implies_true, forall_const, Bool.not_eq_false, Bool.not_eq_true, iu_s, iu_k1, iu_j1, ia_s1, ia_k1, lt2, lt3, lt5, lt6, lt7, lt8, lt9, lt10, lt11, lt12, lt13, lt15, lt16, lt17, lt20, lt26, lt30, lt32, lt36, lt50, lt60, lt64, lt100, lt300, lt400, lt500, lt1000, lt65536, lt100001, lt10000000, lt48, lt57, lt71, lt80, lt97, lt98, lt108, lt110, lt126, lt191, lt200, lt227, lt681, lt65535, lt100000, decide_eq_true_eq, decide_eq_false_iff_not, Nat.le_refl, true_or, or_true, eq_self, lt4]
    have hf3 : Fr H (H + 49) I (am_u I2 H 0 (nI (c1 + 1))) := (hf1.tr (hf2.wide (by omega) (by omega))).u (by omega) (by omega)
    refine hp _ R1 q1 hR1 hH1 hf3 ⟨by rw [e1]; omega, by rw [e1]; try simp (disch := omega) only [nm1, nm1', nsub1, np1, npd, nadd, n0m1, m1lt, nlt0, nge0, ngt0, nle0, nlt, nle, neq, neq0, m1n, m4n, vpn, vcl, ne_eq, bI_0, bI_1, bI_01, lit01, lit00, oI_s, oI_n, true_and, and_true, not_true_eq_false, not_false_eq_true, true_implies, false_implies, and_self, implies_true, forall_const, Bool.not_eq_false, Bool.not_eq_true, iu_s, iu_k1, iu_j1, ia_s1, ia_k1, lt2, lt3, lt5, lt6, lt7, lt8, lt9, lt10, lt11, lt12, lt13, lt15, lt16, lt17, lt20, lt26, lt30, lt32, lt36, lt50, lt60, lt64, lt100, lt300, lt400, lt500, lt1000, lt65536, lt100001, lt10000000, lt48, lt57, lt71, lt80, lt97, lt98, lt108, lt110, lt126, lt191, lt200, lt227, lt681, lt65535, lt100000, decide_eq_true_eq, decide_eq_false_iff_not, Nat.le_refl, true_or, or_true, eq_self, lt4], fun j hj => ?_⟩
    rw [e1] at hj
    have fu : Fr H H I2 (am_u I2 H 0 (nI (c1 + 1))) := Fr.rfl.u (by omega) (by omega)
    by_cases hjc : j = c1
    · subst hjc
      rw [e3]
      exact ⟨hI2.fr fu (by omega), hB⟩
    · rw [e2 j (by omega)]
      have hjj := hHI1.2.2 j (by omega)
      have hqj := hq1 j (by omega)
      have hd := hqc.2.2.2.2 j (by omega) hjc
      exact ⟨(hjj.1.fr hf2 (by omega)).fr fu (by omega), hjj.2⟩
  have hc4 := hHI.1
  refine ⟨Nat.le_of_ble_eq_true rfl, am_fold ?_⟩; rw [h_X0_keep_0]
  simp only [↓ap_cc, ↓ap_const, ↓ap_iload, ↓ap_aload, ↓ap_istore, ↓ap_astore, ↓ap_iinc, ↓ap_bin, ↓ap_idiv, ↓ap_irem, ↓ap_callSA, ↓ap_iretA, ↓ap_zretA, ↓ap_i2c, ↓ap_dup, ↓ap_dup2, ↓ap_nn, ↓ap_ic, ↓ap_if, ↓ap_sw, ↓ap_head, ↓ap_getI, ↓ap_getR, ↓ap_putI, ↓ap_putN, ↓ap_putR, ↓ap_iald, ↓ap_cald, ↓ap_iast, ↓ap_cast, ↓ap_aald, ↓ap_aast, ↓ap_alen, ↓ap_stat, ↓ap_pop, ↓ap_mm, ↓ap_copy, ↓ap_ret, ↓ap_iret, ↓ap_zret, ↓ap_aret, ↓ap_retA, ↓ap_new, ↓ap_newa, ↓ap_callV, ↓ap_callS, ↓ap_callI, am_in, List.map_cons, List.map_nil, List.getElem?_cons_zero, List.getElem?_cons_succ, List.set_cons_zero, List.set_cons_succ, List.take_succ_cons, List.take_zero, List.drop_succ_cons, List.drop_zero, List.reverse_cons, List.reverse_nil, List.nil_append, List.cons_append, List.append_nil, List.length_cons, List.length_nil, List.replicate_succ, List.replicate_zero, Option.toList_some, Option.toList_none, true_and, and_true, Option.some.injEq, exists_eq_left', am_wI_mk, am_wA_mk, am_wR_mk, Nat.reduceAdd, Nat.reduceSub, Nat.reduceLeDiff, Nat.zero_add, Nat.le_refl, not_true_eq_false, not_false_eq_true, forall_const, false_implies, true_implies, implies_true, and_self, Prod.mk.injEq, eq_self, true_or, or_true, false_and, and_false, or_false, false_or, Nat.reduceEqDiff, ↓a_X0_keep_0, s0, s1, r1, hHI.2.1]
  try simp (disch := omega) only [nm1, nm1', nsub1, np1, npd, nadd, n0m1, m1lt, nlt0, nge0, ngt0, nle0, nlt, nle, neq, neq0, m1n, m4n, vpn, vcl, ne_eq, bI_0, bI_1, bI_01, lit01, lit00, oI_s, oI_n, true_and, and_true, not_true_eq_false, not_false_eq_true, true_implies, false_implies, and_self, implies_true, forall_const, Bool.not_eq_false, Bool.not_eq_true, iu_s, iu_k1, iu_j1, ia_s1, ia_k1, lt2, lt3, lt5, lt6, lt7, lt8, lt9, lt10, lt11, lt12, lt13, lt15, lt16, lt17, lt20, lt26, lt30, lt32, lt36, lt50, lt60, lt64, lt100, lt300, lt400, lt500, lt1000, lt65536, lt100001, lt10000000, lt48, lt57, lt71, lt80, lt97, lt98, lt108, lt110, lt126, lt191, lt200, lt227, lt681, lt65535, lt100000, decide_eq_true_eq, decide_eq_false_iff_not, Nat.le_refl, true_or, or_true, eq_self, lt4]
  refine ⟨fun hne => ?_, fun he => ?_⟩
  · refine c12 I R q c h (by omega) (fun _ _ => rfl) hH Fr.rfl hHI ?_ (fun j hj => ?_) ?_ _
    · unfold pushC; rw [if_neg hne]
    · unfold pushH; rw [if_neg hne, if_neg (by omega)]
    · unfold pushH; rw [if_neg hne, if_pos rfl]
  · have he : c = 4 := by omega
    subst he
    refine f_dropOldest hH (by omega) hHI.2.1 (by omega) (fun R1 hR1 hj1 => ?_)
    simp only [↓ap_cc, ↓ap_const, ↓ap_iload, ↓ap_aload, ↓ap_istore, ↓ap_astore, ↓ap_iinc, ↓ap_bin, ↓ap_idiv, ↓ap_irem, ↓ap_callSA, ↓ap_iretA, ↓ap_zretA, ↓ap_i2c, ↓ap_dup, ↓ap_dup2, ↓ap_nn, ↓ap_ic, ↓ap_if, ↓ap_sw, ↓ap_head, ↓ap_getI, ↓ap_getR, ↓ap_putI, ↓ap_putN, ↓ap_putR, ↓ap_iald, ↓ap_cald, ↓ap_iast, ↓ap_cast, ↓ap_aald, ↓ap_aast, ↓ap_alen, ↓ap_stat, ↓ap_pop, ↓ap_mm, ↓ap_copy, ↓ap_ret, ↓ap_iret, ↓ap_zret, ↓ap_aret, ↓ap_retA, ↓ap_new, ↓ap_newa, ↓ap_callV, ↓ap_callS, ↓ap_callI, am_in, List.map_cons, List.map_nil, List.getElem?_cons_zero, List.getElem?_cons_succ, List.set_cons_zero, List.set_cons_succ, List.take_succ_cons, List.take_zero, List.drop_succ_cons, List.drop_zero, List.reverse_cons, List.reverse_nil, List.nil_append, List.cons_append, List.append_nil, List.length_cons, List.length_nil, List.replicate_succ, List.replicate_zero, Option.toList_some, Option.toList_none, true_and, and_true, Option.some.injEq, exists_eq_left', am_wI_mk, am_wA_mk, am_wR_mk, Nat.reduceAdd, Nat.reduceSub, Nat.reduceLeDiff, Nat.zero_add, Nat.le_refl, not_true_eq_false, not_false_eq_true, forall_const, false_implies, true_implies, implies_true, and_self, Prod.mk.injEq, eq_self, true_or, or_true, false_and, and_false, or_false, false_or, Nat.reduceEqDiff, ↓a_X0_keep_0, s0]
    have fu : Fr H H I (am_u I H 0 (nI (4 - 1))) := Fr.rfl.u (by omega) (by omega)
    refine c12 _ R1 _ 3 (fun j => h (j + 1)) (by omega) hR1 (hH.sw hR1 hj1) (fu.wide (by omega) (by omega)) ⟨by omega, by try simp (disch := omega) only [nm1, nm1', nsub1, np1, npd, nadd, n0m1, m1lt, nlt0, nge0, ngt0, nle0, nlt, nle, neq, neq0, m1n, m4n, vpn, vcl, ne_eq, bI_0, bI_1, bI_01, lit01, lit00, oI_s, oI_n, true_and, and_true, not_true_eq_false, not_false_eq_true, true_implies, false_implies, and_self, implies_true, forall_const, Bool.not_eq_false, Bool.not_eq_true, iu_s, iu_k1, iu_j1, ia_s1, ia_k1, lt2, lt3, lt5, lt6, lt7, lt8, lt9, lt10, lt11, lt12, lt13, lt15, lt16, lt17, lt20, lt26, lt30, lt32, lt36, lt50, lt60, lt64, lt100, lt300, lt400, lt500, lt1000, lt65536, lt100001, lt10000000, lt48, lt57, lt71, lt80, lt97, lt98, lt108, lt110, lt126, lt191, lt200, lt227, lt681, lt65535, lt100000, decide_eq_true_eq, decide_eq_false_iff_not, Nat.le_refl, true_or, or_true, eq_self, lt4], fun j hj => ?_⟩ rfl (fun j hj => ?_) rfl _
    · show LogI _ (q (if j = 3 then 0 else j + 1)) (h (j + 1)) ∧ LgB (h (j + 1))
      rw [if_neg (by omega)]
      have hjj := hHI.2.2 (j + 1) (by omega)
      have hqj := hq (j + 1) (by omega)
      exact ⟨hjj.1.fr fu (by omega), hjj.2⟩
    · unfold pushH; rw [if_pos rfl, if_neg (by omega)]
