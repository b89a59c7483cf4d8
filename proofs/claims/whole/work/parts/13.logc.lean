variable {S : List (Nat × Nat)} {R : Nat → Nat → Option Nat} {I : Nat → Nat → Int32} {L : Nat} {a : Lg} {post : am_R}
def aT (a : Lg) (p nm τ : Nat) : Lg := (gt a + 1, gn a, gk a, fun c j => if j = gt a then (if c = 0 then p else if c = 1 then nm else τ) else gT a c j, gL a, gF a, gs a)
theorem aT_t (a : Lg) (p nm τ : Nat) : gt (aT a p nm τ ) = (gt a + 1) := rfl
theorem aT_n (a : Lg) (p nm τ : Nat) : gn (aT a p nm τ ) = (gn a) := rfl
theorem aT_k (a : Lg) (p nm τ : Nat) : gk (aT a p nm τ ) = (gk a) := rfl
theorem aT_T (a : Lg) (p nm τ : Nat) : gT (aT a p nm τ ) = (fun c j => if j = gt a then (if c = 0 then p else if c = 1 then nm else τ) else gT a c j) := rfl
theorem aT_L (a : Lg) (p nm τ : Nat) : gL (aT a p nm τ ) = (gL a) := rfl
theorem aT_F (a : Lg) (p nm τ : Nat) : gF (aT a p nm τ ) = (gF a) := rfl
theorem aT_s (a : Lg) (p nm τ : Nat) : gs (aT a p nm τ ) = (gs a) := rfl
def aL (a : Lg) (τ p nms wds : Nat) : Lg := (gt a, gn a + 1, gk a, gT a, fun c j => if j = gn a then (if c = 0 then τ else if c = 1 then p else if c = 2 then nms else wds) else gL a c j, gF a, gs a)
theorem aL_t (a : Lg) (τ p nms wds : Nat) : gt (aL a τ p nms wds ) = (gt a) := rfl
theorem aL_n (a : Lg) (τ p nms wds : Nat) : gn (aL a τ p nms wds ) = (gn a + 1) := rfl
theorem aL_k (a : Lg) (τ p nms wds : Nat) : gk (aL a τ p nms wds ) = (gk a) := rfl
theorem aL_T (a : Lg) (τ p nms wds : Nat) : gT (aL a τ p nms wds ) = (gT a) := rfl
theorem aL_L (a : Lg) (τ p nms wds : Nat) : gL (aL a τ p nms wds ) = (fun c j => if j = gn a then (if c = 0 then τ else if c = 1 then p else if c = 2 then nms else wds) else gL a c j) := rfl
theorem aL_F (a : Lg) (τ p nms wds : Nat) : gF (aL a τ p nms wds ) = (gF a) := rfl
theorem aL_s (a : Lg) (τ p nms wds : Nat) : gs (aL a τ p nms wds ) = (gs a) := rfl
def aF (a : Lg) (k l e : Nat) : Lg := (gt a, gn a, gk a + 1, gT a, gL a, fun c j => if j = gk a then (if c = 0 then k else if c = 1 then l else e) else gF a c j, gs a)
theorem aF_t (a : Lg) (k l e : Nat) : gt (aF a k l e ) = (gt a) := rfl
theorem aF_n (a : Lg) (k l e : Nat) : gn (aF a k l e ) = (gn a) := rfl
theorem aF_k (a : Lg) (k l e : Nat) : gk (aF a k l e ) = (gk a + 1) := rfl
theorem aF_T (a : Lg) (k l e : Nat) : gT (aF a k l e ) = (gT a) := rfl
theorem aF_L (a : Lg) (k l e : Nat) : gL (aF a k l e ) = (gL a) := rfl
theorem aF_F (a : Lg) (k l e : Nat) : gF (aF a k l e ) = (fun c j => if j = gk a then (if c = 0 then k else if c = 1 then l else e) else gF a c j) := rfl
theorem aF_s (a : Lg) (k l e : Nat) : gs (aF a k l e ) = (gs a) := rfl
def aS (a : Lg) (w v : Nat) : Lg := (gt a, gn a, gk a, gT a, gL a, gF a, fun j => if j = w then v else gs a j)
theorem aS_t (a : Lg) (w v : Nat) : gt (aS a w v ) = (gt a) := rfl
theorem aS_n (a : Lg) (w v : Nat) : gn (aS a w v ) = (gn a) := rfl
theorem aS_k (a : Lg) (w v : Nat) : gk (aS a w v ) = (gk a) := rfl
theorem aS_T (a : Lg) (w v : Nat) : gT (aS a w v ) = (gT a) := rfl
theorem aS_L (a : Lg) (w v : Nat) : gL (aS a w v ) = (gL a) := rfl
theorem aS_F (a : Lg) (w v : Nat) : gF (aS a w v ) = (gF a) := rfl
theorem aS_s (a : Lg) (w v : Nat) : gs (aS a w v ) = (fun j => if j = w then v else gs a j) := rfl
def rmF (a : Lg) (x : Nat) : Lg := (gt a, gn a, gk a - 1, gT a, gL a, fun c j => if j < x then gF a c j else gF a c (j + 1), gs a)
theorem rmF_t (a : Lg) (x : Nat) : gt (rmF a x ) = (gt a) := rfl
theorem rmF_n (a : Lg) (x : Nat) : gn (rmF a x ) = (gn a) := rfl
theorem rmF_k (a : Lg) (x : Nat) : gk (rmF a x ) = (gk a - 1) := rfl
theorem rmF_T (a : Lg) (x : Nat) : gT (rmF a x ) = (gT a) := rfl
theorem rmF_L (a : Lg) (x : Nat) : gL (rmF a x ) = (gL a) := rfl
theorem rmF_F (a : Lg) (x : Nat) : gF (rmF a x ) = (fun c j => if j < x then gF a c j else gF a c (j + 1)) := rfl
theorem rmF_s (a : Lg) (x : Nat) : gs (rmF a x ) = (gs a) := rfl
theorem aF_e (z : Int32) (a : Lg) (k l e j : Nat) : eI z (aF a k l e) j = if j = gk a then (if k = 0 then z else nI e) else eI z a j := by
  unfold eI; simp only [aF_F]; by_cases h : j = gk a <;> simp [h]
theorem rmF_e (z : Int32) (a : Lg) (x j : Nat) : eI z (rmF a x) j = if j < x then eI z a j else eI z a (j + 1) := by
  unfold eI; simp only [rmF_F]; by_cases h : j < x <;> simp [h]
theorem f_addTake {p nm τ : Nat} (hS : LogS S R L) (hI : LogI I L a) (hB : LgB a) (ht : gt a < 20) (hp : ∀ I', LogI I' L (aT a p nm τ) → Fr L (L + 11) I I' → post none (S, I', R)) : sp_X1_addTake [.inr L, .inl (nI p), .inl (nI nm), .inl (nI τ)] (S, I, R) post := by
  obtain ⟨⟨s0, s1, s2, s3, -⟩, r1, r2, r3, -⟩ := id hS
  have h0 := hI.t
  refine ⟨Nat.le_of_ble_eq_true rfl, am_fold ?_⟩; rw [h_X1_addTake_0]
  simp only [tb_const, tb_iload, tb_aload, tb_istore, tb_astore, tb_iinc, tb_bin, tb_idiv, tb_i2c, tb_dup, tb_dup2, tb_nn, tb_ic, tb_if, tb_sw, tb_head, tb_getI, tb_getR, tb_putI, tb_putN, tb_putR, tb_iald, tb_cald, tb_iast, tb_cast, tb_aald, tb_aast, tb_alen, tb_stat, tb_pop, tb_mm, tb_copy, tb_ret, tb_iret, tb_zret, tb_aret, tb_retA, tb_new, tb_newa, tb_callV, tb_callS, tb_callI, am_in, List.map_cons, List.map_nil, List.getElem?_cons_zero, List.getElem?_cons_succ, List.set_cons_zero, List.set_cons_succ, List.take_succ_cons, List.take_zero, List.drop_succ_cons, List.drop_zero, List.reverse_cons, List.reverse_nil, List.nil_append, List.cons_append, List.append_nil, List.length_cons, List.length_nil, List.replicate_succ, List.replicate_zero, Option.toList_some, Option.toList_none, true_and, and_true, Option.some.injEq, exists_eq_left', am_wI_mk, am_wA_mk, am_wR_mk, Nat.reduceAdd, Nat.reduceSub, Nat.reduceLeDiff, Nat.zero_add, Nat.le_refl, not_true_eq_false, not_false_eq_true, forall_const, false_implies, true_implies, implies_true, and_self, Prod.mk.injEq, eq_self, t_X1_addTake_49, t_X1_addTake_0, s0, s1, s2, s3, r1, r2, r3, arr1 s1, arr1 s2, arr1 s3]
  have bt := hB.t
  simp (disch := omega) only [nm1, nm1', nsub1, np1, npd, nadd, n0m1, m1lt, nlt0, nge0, ngt0, nle0, nlt, nle, neq, neq0, m1n, m4n, vpn, vcl, ne_eq, bI_0, bI_1, bI_01, lit01, lit00, oI_s, oI_n, true_and, and_true, not_true_eq_false, not_false_eq_true, true_implies, false_implies, and_self, implies_true, forall_const, Bool.not_eq_false, Bool.not_eq_true, iu_s, iu_k1, iu_j1, ia_s1, ia_k1, lt2, lt3, lt4, lt5, lt6, lt7, lt8, lt9, lt10, lt11, lt12, lt15, lt16, lt17, lt20, lt30, lt32, lt48, lt57, lt71, lt80, lt97, lt98, lt108, lt110, lt126, lt191, lt200, lt227, lt681, lt65535, lt100000, decide_eq_true_eq, decide_eq_false_iff_not, h0]
  refine ⟨fun h => by omega, fun _ => hp _ ?_ ?_⟩
  · exact (by (refine LogI.mk ?_ ?_ ?_ ?_ ?_ ?_ ?_ ?_ ?_ ?_ ?_ ?_ ?_ ?_ <;> (try intro j hj) <;> (try simp only [aT_t, aT_n, aT_k, aT_T, aT_L, aT_F, aT_s] at hj) <;> (try simp (disch := omega) only [iu_i, iu_k1, ia_s1, ia_k1, aT_t, aT_n, aT_k, aT_T, aT_L, aT_F, aT_s, np1, nm1, npd, if_true, if_false, Nat.reduceEqDiff, eq_self, reduceCtorEq, Nat.zero_ne_one]) <;> (repeat' split) <;> (try rfl) <;> (try omega) <;> first | exact hI.t | exact hI.n | exact hI.k | exact hI.T0 (by omega) | exact hI.T1 (by omega) | exact hI.T2 (by omega) | exact hI.L0 (by omega) | exact hI.L1 (by omega) | exact hI.L2 (by omega) | exact hI.L3 (by omega) | exact hI.F0 (by omega) | exact hI.F1 (by omega) | exact hI.F2 (by omega) | exact hI.s (j := j) (by omega) | (trace_state; fail)))
  · exact ((((Fr.rfl.u (by omega) (by omega)).u (by omega) (by omega)).u (by omega) (by omega)).u (by omega) (by omega))
theorem f_fixLike {k l : Nat} {e : Int32} (hS : LogS S R L) (hI : LogI I L a) (hB : LgB a) (hk : k < 2147483648) (hl : l < 2147483648) (hp : post (some (.inl (oI (-1) (ff (fun x => decide (gF a 0 x = k ∧ gF a 1 x = l ∧ eI (-1) a x = e)) 0 (gk a))))) (S, I, R)) : sp_X1_fixLike [.inr L, .inl (nI k), .inl (nI l), .inl e] (S, I, R) post := by
  obtain ⟨⟨s0, s1, s2, s3, s4, s5, s6, s7, s8, s9, s10, s11⟩, r1, r2, r3, r5, r6, r7, r8, r10, r11, r12, r13⟩ := id hS
  have h0 := hI.k
  have bk := hB.k
  have bn := hB.n
  have loop : ∀ d i, i + d = gk a → post (some (.inl (oI (-1) (ff (fun x => decide (gF a 0 x = k ∧ gF a 1 x = l ∧ eI (-1) a x = e)) i d)))) (S, I, R) → am_OK h_X1_fixLike post 3 [some (.inr L), some (.inl (nI k)), some (.inl (nI l)), some (.inl e), some (.inl (nI i))] (S, I, R) := by
    intro d
    induction d with
    | zero =>
      intro i hi hq
      apply am_fold; rw [h_X1_fixLike_3]
      simp only [tb_const, tb_iload, tb_aload, tb_istore, tb_astore, tb_iinc, tb_bin, tb_idiv, tb_i2c, tb_dup, tb_dup2, tb_nn, tb_ic, tb_if, tb_sw, tb_head, tb_getI, tb_getR, tb_putI, tb_putN, tb_putR, tb_iald, tb_cald, tb_iast, tb_cast, tb_aald, tb_aast, tb_alen, tb_stat, tb_pop, tb_mm, tb_copy, tb_ret, tb_iret, tb_zret, tb_aret, tb_retA, tb_new, tb_newa, tb_callV, tb_callS, tb_callI, am_in, List.map_cons, List.map_nil, List.getElem?_cons_zero, List.getElem?_cons_succ, List.set_cons_zero, List.set_cons_succ, List.take_succ_cons, List.take_zero, List.drop_succ_cons, List.drop_zero, List.reverse_cons, List.reverse_nil, List.nil_append, List.cons_append, List.append_nil, List.length_cons, List.length_nil, List.replicate_succ, List.replicate_zero, Option.toList_some, Option.toList_none, true_and, and_true, Option.some.injEq, exists_eq_left', am_wI_mk, am_wA_mk, am_wR_mk, Nat.reduceAdd, Nat.reduceSub, Nat.reduceLeDiff, Nat.zero_add, Nat.le_refl, not_true_eq_false, not_false_eq_true, forall_const, false_implies, true_implies, implies_true, and_self, Prod.mk.injEq, eq_self, t_X1_fixLike_54, t_X1_fixLike_48, t_X1_fixLike_3, t_X1_fixLike_0, s0, h0]
      simp (disch := omega) only [nm1, nm1', nsub1, np1, npd, nadd, n0m1, m1lt, nlt0, nge0, ngt0, nle0, nlt, nle, neq, neq0, m1n, m4n, vpn, vcl, ne_eq, bI_0, bI_1, bI_01, lit01, lit00, oI_s, oI_n, true_and, and_true, not_true_eq_false, not_false_eq_true, true_implies, false_implies, and_self, implies_true, forall_const, Bool.not_eq_false, Bool.not_eq_true, iu_s, iu_k1, iu_j1, ia_s1, ia_k1, lt2, lt3, lt4, lt5, lt6, lt7, lt8, lt9, lt10, lt11, lt12, lt15, lt16, lt17, lt20, lt30, lt32, lt48, lt57, lt71, lt80, lt97, lt98, lt108, lt110, lt126, lt191, lt200, lt227, lt681, lt65535, lt100000, decide_eq_true_eq, decide_eq_false_iff_not]
      exact ⟨fun _ => hq, fun h => by omega⟩
    | succ d ih =>
      intro i hi hq
      have b := hB.Fn (j := i) (by omega)
      apply am_fold; rw [h_X1_fixLike_3]
      simp only [tb_const, tb_iload, tb_aload, tb_istore, tb_astore, tb_iinc, tb_bin, tb_idiv, tb_i2c, tb_dup, tb_dup2, tb_nn, tb_ic, tb_if, tb_sw, tb_head, tb_getI, tb_getR, tb_putI, tb_putN, tb_putR, tb_iald, tb_cald, tb_iast, tb_cast, tb_aald, tb_aast, tb_alen, tb_stat, tb_pop, tb_mm, tb_copy, tb_ret, tb_iret, tb_zret, tb_aret, tb_retA, tb_new, tb_newa, tb_callV, tb_callS, tb_callI, am_in, List.map_cons, List.map_nil, List.getElem?_cons_zero, List.getElem?_cons_succ, List.set_cons_zero, List.set_cons_succ, List.take_succ_cons, List.take_zero, List.drop_succ_cons, List.drop_zero, List.reverse_cons, List.reverse_nil, List.nil_append, List.cons_append, List.append_nil, List.length_cons, List.length_nil, List.replicate_succ, List.replicate_zero, Option.toList_some, Option.toList_none, true_and, and_true, Option.some.injEq, exists_eq_left', am_wI_mk, am_wA_mk, am_wR_mk, Nat.reduceAdd, Nat.reduceSub, Nat.reduceLeDiff, Nat.zero_add, Nat.le_refl, not_true_eq_false, not_false_eq_true, forall_const, false_implies, true_implies, implies_true, and_self, Prod.mk.injEq, eq_self, t_X1_fixLike_54, t_X1_fixLike_48, t_X1_fixLike_3, t_X1_fixLike_0, s0, h0, r10, r11, r12, arr1 s8, arr1 s9, arr1 s10]
      simp (disch := omega) only [nm1, nm1', nsub1, np1, npd, nadd, n0m1, m1lt, nlt0, nge0, ngt0, nle0, nlt, nle, neq, neq0, m1n, m4n, vpn, vcl, ne_eq, bI_0, bI_1, bI_01, lit01, lit00, oI_s, oI_n, true_and, and_true, not_true_eq_false, not_false_eq_true, true_implies, false_implies, and_self, implies_true, forall_const, Bool.not_eq_false, Bool.not_eq_true, iu_s, iu_k1, iu_j1, ia_s1, ia_k1, lt2, lt3, lt4, lt5, lt6, lt7, lt8, lt9, lt10, lt11, lt12, lt15, lt16, lt17, lt20, lt30, lt32, lt48, lt57, lt71, lt80, lt97, lt98, lt108, lt110, lt126, lt191, lt200, lt227, lt681, lt65535, lt100000, decide_eq_true_eq, decide_eq_false_iff_not, hI.F0, hI.F1, hI.F2]
      unfold ff at hq
      have nx : (¬ (gF a 0 i = k ∧ gF a 1 i = l ∧ eI (-1) a i = e)) → am_OK h_X1_fixLike post 3 [some (.inr L), some (.inl (nI k)), some (.inl (nI l)), some (.inl e), some (.inl (nI (i + 1)))] (S, I, R) := by
        intro hc
        rw [decide_eq_false hc] at hq
        exact ih (i + 1) (by omega) hq
      refine ⟨fun h => by omega, fun _ => ⟨fun h1 => nx (fun q => h1 q.1), fun h1 => ⟨fun h2 => nx (fun q => h2 q.2.1), fun h2 => ⟨fun h3 => nx (fun q => h3 q.2.2), fun h3 => ?_⟩⟩⟩⟩
      have hc : gF a 0 i = k ∧ gF a 1 i = l ∧ eI (-1) a i = e := by
        refine ⟨?_, ?_, ?_⟩
        · exact Decidable.byContradiction h1
        · exact Decidable.byContradiction h2
        · exact Classical.byContradiction h3
      rw [decide_eq_true hc] at hq
      exact hq
  refine ⟨Nat.le_of_ble_eq_true rfl, am_fold ?_⟩; rw [h_X1_fixLike_0]
  simp only [tb_const, tb_iload, tb_aload, tb_istore, tb_astore, tb_iinc, tb_bin, tb_idiv, tb_i2c, tb_dup, tb_dup2, tb_nn, tb_ic, tb_if, tb_sw, tb_head, tb_getI, tb_getR, tb_putI, tb_putN, tb_putR, tb_iald, tb_cald, tb_iast, tb_cast, tb_aald, tb_aast, tb_alen, tb_stat, tb_pop, tb_mm, tb_copy, tb_ret, tb_iret, tb_zret, tb_aret, tb_retA, tb_new, tb_newa, tb_callV, tb_callS, tb_callI, am_in, List.map_cons, List.map_nil, List.getElem?_cons_zero, List.getElem?_cons_succ, List.set_cons_zero, List.set_cons_succ, List.take_succ_cons, List.take_zero, List.drop_succ_cons, List.drop_zero, List.reverse_cons, List.reverse_nil, List.nil_append, List.cons_append, List.append_nil, List.length_cons, List.length_nil, List.replicate_succ, List.replicate_zero, Option.toList_some, Option.toList_none, true_and, and_true, Option.some.injEq, exists_eq_left', am_wI_mk, am_wA_mk, am_wR_mk, Nat.reduceAdd, Nat.reduceSub, Nat.reduceLeDiff, Nat.zero_add, Nat.le_refl, not_true_eq_false, not_false_eq_true, forall_const, false_implies, true_implies, implies_true, and_self, Prod.mk.injEq, eq_self, t_X1_fixLike_54, t_X1_fixLike_48, t_X1_fixLike_3, t_X1_fixLike_0]
  exact loop (gk a) 0 (by omega) hp
/-- the last correction of the kinds 0 and 1, of the first m, that speaks of line l -/
def gC (a : Lg) (l : Nat) : Nat → Option Nat
  | 0 => none
  | m + 1 => if gF a 1 m = l ∧ gF a 0 m ≠ 2 then some m else gC a l m
theorem f_countingFix {l : Nat} (hS : LogS S R L) (hI : LogI I L a) (hB : LgB a) (hl : l < 2147483648) (hp : post (some (.inl (oI (-1) (gC a l (gk a))))) (S, I, R)) : sp_X1_countingFix [.inr L, .inl (nI l)] (S, I, R) post := by
  obtain ⟨⟨s0, s1, s2, s3, s4, s5, s6, s7, s8, s9, s10, s11⟩, r1, r2, r3, r5, r6, r7, r8, r10, r11, r12, r13⟩ := id hS
  have h0 := hI.k
  have bk := hB.k
  have bn := hB.n
  have loop : ∀ m, m ≤ gk a → post (some (.inl (oI (-1) (gC a l m)))) (S, I, R) → am_OK h_X1_countingFix post 7 [some (.inr L), some (.inl (nI l)), some (.inl (nI m - 1))] (S, I, R) := by
    intro m
    induction m with
    | zero =>
      intro _ hq
      apply am_fold; rw [h_X1_countingFix_7]
      simp only [tb_const, tb_iload, tb_aload, tb_istore, tb_astore, tb_iinc, tb_bin, tb_idiv, tb_i2c, tb_dup, tb_dup2, tb_nn, tb_ic, tb_if, tb_sw, tb_head, tb_getI, tb_getR, tb_putI, tb_putN, tb_putR, tb_iald, tb_cald, tb_iast, tb_cast, tb_aald, tb_aast, tb_alen, tb_stat, tb_pop, tb_mm, tb_copy, tb_ret, tb_iret, tb_zret, tb_aret, tb_retA, tb_new, tb_newa, tb_callV, tb_callS, tb_callI, am_in, List.map_cons, List.map_nil, List.getElem?_cons_zero, List.getElem?_cons_succ, List.set_cons_zero, List.set_cons_succ, List.take_succ_cons, List.take_zero, List.drop_succ_cons, List.drop_zero, List.reverse_cons, List.reverse_nil, List.nil_append, List.cons_append, List.append_nil, List.length_cons, List.length_nil, List.replicate_succ, List.replicate_zero, Option.toList_some, Option.toList_none, true_and, and_true, Option.some.injEq, exists_eq_left', am_wI_mk, am_wA_mk, am_wR_mk, Nat.reduceAdd, Nat.reduceSub, Nat.reduceLeDiff, Nat.zero_add, Nat.le_refl, not_true_eq_false, not_false_eq_true, forall_const, false_implies, true_implies, implies_true, and_self, Prod.mk.injEq, eq_self, t_X1_countingFix_39, t_X1_countingFix_33, t_X1_countingFix_7, t_X1_countingFix_0, n0m1, m1lt]
      exact hq
    | succ m ih =>
      intro hm hq
      have b := hB.Fn (j := m) (by omega)
      have f0 := hI.F0 (j := m) (by omega)
      have f1 := hI.F1 (j := m) (by omega)
      apply am_fold; rw [h_X1_countingFix_7]
      simp only [tb_const, tb_iload, tb_aload, tb_istore, tb_astore, tb_iinc, tb_bin, tb_idiv, tb_i2c, tb_dup, tb_dup2, tb_nn, tb_ic, tb_if, tb_sw, tb_head, tb_getI, tb_getR, tb_putI, tb_putN, tb_putR, tb_iald, tb_cald, tb_iast, tb_cast, tb_aald, tb_aast, tb_alen, tb_stat, tb_pop, tb_mm, tb_copy, tb_ret, tb_iret, tb_zret, tb_aret, tb_retA, tb_new, tb_newa, tb_callV, tb_callS, tb_callI, am_in, List.map_cons, List.map_nil, List.getElem?_cons_zero, List.getElem?_cons_succ, List.set_cons_zero, List.set_cons_succ, List.take_succ_cons, List.take_zero, List.drop_succ_cons, List.drop_zero, List.reverse_cons, List.reverse_nil, List.nil_append, List.cons_append, List.append_nil, List.length_cons, List.length_nil, List.replicate_succ, List.replicate_zero, Option.toList_some, Option.toList_none, true_and, and_true, Option.some.injEq, exists_eq_left', am_wI_mk, am_wA_mk, am_wR_mk, Nat.reduceAdd, Nat.reduceSub, Nat.reduceLeDiff, Nat.zero_add, Nat.le_refl, not_true_eq_false, not_false_eq_true, forall_const, false_implies, true_implies, implies_true, and_self, Prod.mk.injEq, eq_self, t_X1_countingFix_39, t_X1_countingFix_33, t_X1_countingFix_7, t_X1_countingFix_0, nm1, nsub1, s0, r10, r11, arr1 s8, arr1 s9]
      simp (disch := omega) only [nm1, nm1', nsub1, np1, npd, nadd, n0m1, m1lt, nlt0, nge0, ngt0, nle0, nlt, nle, neq, neq0, m1n, m4n, vpn, vcl, ne_eq, bI_0, bI_1, bI_01, lit01, lit00, oI_s, oI_n, true_and, and_true, not_true_eq_false, not_false_eq_true, true_implies, false_implies, and_self, implies_true, forall_const, Bool.not_eq_false, Bool.not_eq_true, iu_s, iu_k1, iu_j1, ia_s1, ia_k1, lt2, lt3, lt4, lt5, lt6, lt7, lt8, lt9, lt10, lt11, lt12, lt15, lt16, lt17, lt20, lt30, lt32, lt48, lt57, lt71, lt80, lt97, lt98, lt108, lt110, lt126, lt191, lt200, lt227, lt681, lt65535, lt100000, decide_eq_true_eq, decide_eq_false_iff_not, f0, f1]
      unfold gC at hq
      refine ⟨fun h1 => ?_, fun h1 => ⟨fun h2 => ?_, fun h2 => ?_⟩⟩
      · rw [if_neg (fun q => h1 q.1)] at hq; exact ih (by omega) hq
      · rw [if_neg (fun q => q.2 h2)] at hq; exact ih (by omega) hq
      · rw [if_pos ⟨by omega, h2⟩] at hq; exact hq
  refine ⟨Nat.le_of_ble_eq_true rfl, am_fold ?_⟩; rw [h_X1_countingFix_0]
  simp only [tb_const, tb_iload, tb_aload, tb_istore, tb_astore, tb_iinc, tb_bin, tb_idiv, tb_i2c, tb_dup, tb_dup2, tb_nn, tb_ic, tb_if, tb_sw, tb_head, tb_getI, tb_getR, tb_putI, tb_putN, tb_putR, tb_iald, tb_cald, tb_iast, tb_cast, tb_aald, tb_aast, tb_alen, tb_stat, tb_pop, tb_mm, tb_copy, tb_ret, tb_iret, tb_zret, tb_aret, tb_retA, tb_new, tb_newa, tb_callV, tb_callS, tb_callI, am_in, List.map_cons, List.map_nil, List.getElem?_cons_zero, List.getElem?_cons_succ, List.set_cons_zero, List.set_cons_succ, List.take_succ_cons, List.take_zero, List.drop_succ_cons, List.drop_zero, List.reverse_cons, List.reverse_nil, List.nil_append, List.cons_append, List.append_nil, List.length_cons, List.length_nil, List.replicate_succ, List.replicate_zero, Option.toList_some, Option.toList_none, true_and, and_true, Option.some.injEq, exists_eq_left', am_wI_mk, am_wA_mk, am_wR_mk, Nat.reduceAdd, Nat.reduceSub, Nat.reduceLeDiff, Nat.zero_add, Nat.le_refl, not_true_eq_false, not_false_eq_true, forall_const, false_implies, true_implies, implies_true, and_self, Prod.mk.injEq, eq_self, t_X1_countingFix_39, t_X1_countingFix_33, t_X1_countingFix_7, t_X1_countingFix_0, s0, h0]
  exact loop (gk a) (by omega) hp
theorem f_addLine {τ p nms wds : Nat} (hS : LogS S R L) (hI : LogI I L a) (hB : LgB a) (ht : gn a < 30) (hp : ∀ I', LogI I' L (aL a τ p nms wds) → Fr L (L + 11) I I' → post none (S, I', R)) : sp_X1_addLine [.inr L, .inl (nI τ), .inl (nI p), .inl (nI nms), .inl (nI wds)] (S, I, R) post := by
  obtain ⟨⟨s0, s1, s2, s3, s4, s5, s6, s7, s8, s9, s10, s11⟩, r1, r2, r3, r5, r6, r7, r8, r10, r11, r12, r13⟩ := id hS
  refine ⟨Nat.le_of_ble_eq_true rfl, am_fold ?_⟩; rw [h_X1_addLine_0]
  simp only [tb_const, tb_iload, tb_aload, tb_istore, tb_astore, tb_iinc, tb_bin, tb_idiv, tb_i2c, tb_dup, tb_dup2, tb_nn, tb_ic, tb_if, tb_sw, tb_head, tb_getI, tb_getR, tb_putI, tb_putN, tb_putR, tb_iald, tb_cald, tb_iast, tb_cast, tb_aald, tb_aast, tb_alen, tb_stat, tb_pop, tb_mm, tb_copy, tb_ret, tb_iret, tb_zret, tb_aret, tb_retA, tb_new, tb_newa, tb_callV, tb_callS, tb_callI, am_in, List.map_cons, List.map_nil, List.getElem?_cons_zero, List.getElem?_cons_succ, List.set_cons_zero, List.set_cons_succ, List.take_succ_cons, List.take_zero, List.drop_succ_cons, List.drop_zero, List.reverse_cons, List.reverse_nil, List.nil_append, List.cons_append, List.append_nil, List.length_cons, List.length_nil, List.replicate_succ, List.replicate_zero, Option.toList_some, Option.toList_none, true_and, and_true, Option.some.injEq, exists_eq_left', am_wI_mk, am_wA_mk, am_wR_mk, Nat.reduceAdd, Nat.reduceSub, Nat.reduceLeDiff, Nat.zero_add, Nat.le_refl, not_true_eq_false, not_false_eq_true, forall_const, false_implies, true_implies, implies_true, and_self, Prod.mk.injEq, eq_self, t_X1_addLine_60, t_X1_addLine_0, s0, s4, s5, s6, s7, r5, r6, r7, r8]
  simp (disch := omega) only [nm1, nm1', nsub1, np1, npd, nadd, n0m1, m1lt, nlt0, nge0, ngt0, nle0, nlt, nle, neq, neq0, m1n, m4n, vpn, vcl, ne_eq, bI_0, bI_1, bI_01, lit01, lit00, oI_s, oI_n, true_and, and_true, not_true_eq_false, not_false_eq_true, true_implies, false_implies, and_self, implies_true, forall_const, Bool.not_eq_false, Bool.not_eq_true, iu_s, iu_k1, iu_j1, ia_s1, ia_k1, lt2, lt3, lt4, lt5, lt6, lt7, lt8, lt9, lt10, lt11, lt12, lt15, lt16, lt17, lt20, lt30, lt32, lt48, lt57, lt71, lt80, lt97, lt98, lt108, lt110, lt126, lt191, lt200, lt227, lt681, lt65535, lt100000, decide_eq_true_eq, decide_eq_false_iff_not, hI.n]
  refine ⟨fun h => by omega, fun _ => hp _ ?_ ?_⟩
  · exact (by (refine LogI.mk ?_ ?_ ?_ ?_ ?_ ?_ ?_ ?_ ?_ ?_ ?_ ?_ ?_ ?_ <;> (try intro j hj) <;> (try simp only [aL_t, aL_n, aL_k, aL_T, aL_L, aL_F, aL_s] at hj) <;> (try simp (disch := omega) only [iu_i, iu_k1, ia_s1, ia_k1, aL_t, aL_n, aL_k, aL_T, aL_L, aL_F, aL_s, np1, nm1, npd, if_true, if_false, Nat.reduceEqDiff, eq_self, reduceCtorEq, Nat.zero_ne_one]) <;> (repeat' split) <;> (try rfl) <;> (try omega) <;> first | exact hI.t | exact hI.n | exact hI.k | exact hI.T0 (by omega) | exact hI.T1 (by omega) | exact hI.T2 (by omega) | exact hI.L0 (by omega) | exact hI.L1 (by omega) | exact hI.L2 (by omega) | exact hI.L3 (by omega) | exact hI.F0 (by omega) | exact hI.F1 (by omega) | exact hI.F2 (by omega) | exact hI.s (j := j) (by omega) | (trace_state; fail)))
  · exact (((((Fr.rfl.u (by omega) (by omega)).u (by omega) (by omega)).u (by omega) (by omega)).u (by omega) (by omega)).u (by omega) (by omega))
theorem f_addFix {k l e : Nat} {x : Int32} (hS : LogS S R L) (hI : LogI I L a) (hB : LgB a) (ht : gk a < 12) (hx : x = if k = 0 then -1 else nI e) (hp : ∀ I', LogI I' L (aF a k l e) → Fr L (L + 11) I I' → post none (S, I', R)) : sp_X1_addFix [.inr L, .inl (nI k), .inl (nI l), .inl x] (S, I, R) post := by
  obtain ⟨⟨s0, s1, s2, s3, s4, s5, s6, s7, s8, s9, s10, s11⟩, r1, r2, r3, r5, r6, r7, r8, r10, r11, r12, r13⟩ := id hS
  refine ⟨Nat.le_of_ble_eq_true rfl, am_fold ?_⟩; rw [h_X1_addFix_0]
  simp only [tb_const, tb_iload, tb_aload, tb_istore, tb_astore, tb_iinc, tb_bin, tb_idiv, tb_i2c, tb_dup, tb_dup2, tb_nn, tb_ic, tb_if, tb_sw, tb_head, tb_getI, tb_getR, tb_putI, tb_putN, tb_putR, tb_iald, tb_cald, tb_iast, tb_cast, tb_aald, tb_aast, tb_alen, tb_stat, tb_pop, tb_mm, tb_copy, tb_ret, tb_iret, tb_zret, tb_aret, tb_retA, tb_new, tb_newa, tb_callV, tb_callS, tb_callI, am_in, List.map_cons, List.map_nil, List.getElem?_cons_zero, List.getElem?_cons_succ, List.set_cons_zero, List.set_cons_succ, List.take_succ_cons, List.take_zero, List.drop_succ_cons, List.drop_zero, List.reverse_cons, List.reverse_nil, List.nil_append, List.cons_append, List.append_nil, List.length_cons, List.length_nil, List.replicate_succ, List.replicate_zero, Option.toList_some, Option.toList_none, true_and, and_true, Option.some.injEq, exists_eq_left', am_wI_mk, am_wA_mk, am_wR_mk, Nat.reduceAdd, Nat.reduceSub, Nat.reduceLeDiff, Nat.zero_add, Nat.le_refl, not_true_eq_false, not_false_eq_true, forall_const, false_implies, true_implies, implies_true, and_self, Prod.mk.injEq, eq_self, t_X1_addFix_49, t_X1_addFix_0, s0, s8, s9, s10, r10, r11, r12]
  simp (disch := omega) only [nm1, nm1', nsub1, np1, npd, nadd, n0m1, m1lt, nlt0, nge0, ngt0, nle0, nlt, nle, neq, neq0, m1n, m4n, vpn, vcl, ne_eq, bI_0, bI_1, bI_01, lit01, lit00, oI_s, oI_n, true_and, and_true, not_true_eq_false, not_false_eq_true, true_implies, false_implies, and_self, implies_true, forall_const, Bool.not_eq_false, Bool.not_eq_true, iu_s, iu_k1, iu_j1, ia_s1, ia_k1, lt2, lt3, lt4, lt5, lt6, lt7, lt8, lt9, lt10, lt11, lt12, lt15, lt16, lt17, lt20, lt30, lt32, lt48, lt57, lt71, lt80, lt97, lt98, lt108, lt110, lt126, lt191, lt200, lt227, lt681, lt65535, lt100000, decide_eq_true_eq, decide_eq_false_iff_not, hI.k]
  refine ⟨fun h => by omega, fun _ => hp _ ?_ ?_⟩
  · rw [hx]; exact (by (refine LogI.mk ?_ ?_ ?_ ?_ ?_ ?_ ?_ ?_ ?_ ?_ ?_ ?_ ?_ ?_ <;> (try intro j hj) <;> (try simp only [aF_t, aF_n, aF_k, aF_T, aF_L, aF_F, aF_s] at hj) <;> (try simp (disch := omega) only [iu_i, iu_k1, ia_s1, ia_k1, aF_t, aF_n, aF_k, aF_T, aF_L, aF_F, aF_s, aF_e, np1, nm1, npd, if_true, if_false, Nat.reduceEqDiff, eq_self, reduceCtorEq, Nat.zero_ne_one]) <;> (repeat' split) <;> (try rfl) <;> (try omega) <;> first | exact hI.t | exact hI.n | exact hI.k | exact hI.T0 (by omega) | exact hI.T1 (by omega) | exact hI.T2 (by omega) | exact hI.L0 (by omega) | exact hI.L1 (by omega) | exact hI.L2 (by omega) | exact hI.L3 (by omega) | exact hI.F0 (by omega) | exact hI.F1 (by omega) | exact hI.F2 (by omega) | exact hI.s (j := j) (by omega) | (trace_state; fail)))
  · exact ((((Fr.rfl.u (by omega) (by omega)).u (by omega) (by omega)).u (by omega) (by omega)).u (by omega) (by omega))
theorem f_numberWithout {x l : Nat} {y : Int32} {M : am_M} (hx : x < 2147483648) (hl : y = -1 ∨ y = nI l) (hl2 : l < 2147483648) (hp : post (some (.inl (if y = -1 then -1 else nI (if x < l then l - 1 else l)))) M) : sp_X1_numberWithout [.inl (nI x), .inl y] M post := by
  refine ⟨Nat.le_of_ble_eq_true rfl, am_fold ?_⟩; rw [h_X1_numberWithout_0]
  simp only [tb_const, tb_iload, tb_aload, tb_istore, tb_astore, tb_iinc, tb_bin, tb_idiv, tb_i2c, tb_dup, tb_dup2, tb_nn, tb_ic, tb_if, tb_sw, tb_head, tb_getI, tb_getR, tb_putI, tb_putN, tb_putR, tb_iald, tb_cald, tb_iast, tb_cast, tb_aald, tb_aast, tb_alen, tb_stat, tb_pop, tb_mm, tb_copy, tb_ret, tb_iret, tb_zret, tb_aret, tb_retA, tb_new, tb_newa, tb_callV, tb_callS, tb_callI, am_in, List.map_cons, List.map_nil, List.getElem?_cons_zero, List.getElem?_cons_succ, List.set_cons_zero, List.set_cons_succ, List.take_succ_cons, List.take_zero, List.drop_succ_cons, List.drop_zero, List.reverse_cons, List.reverse_nil, List.nil_append, List.cons_append, List.append_nil, List.length_cons, List.length_nil, List.replicate_succ, List.replicate_zero, Option.toList_some, Option.toList_none, true_and, and_true, Option.some.injEq, exists_eq_left', am_wI_mk, am_wA_mk, am_wR_mk, Nat.reduceAdd, Nat.reduceSub, Nat.reduceLeDiff, Nat.zero_add, Nat.le_refl, not_true_eq_false, not_false_eq_true, forall_const, false_implies, true_implies, implies_true, and_self, Prod.mk.injEq, eq_self, t_X1_numberWithout_12, t_X1_numberWithout_11, t_X1_numberWithout_0]
  rcases hl with rfl | rfl
  · rw [if_pos rfl] at hp
    exact ⟨fun _ => hp, fun h => absurd (Int32.le_of_lt (Int32.lt_of_lt_of_le (by decide : (-1 : Int32) < 0) (nI_pos' hx))) h⟩
  · rw [if_neg (fun h => (m1n hl2).mp h)] at hp
    simp (disch := omega) only [nm1, nm1', nsub1, np1, npd, nadd, n0m1, m1lt, nlt0, nge0, ngt0, nle0, nlt, nle, neq, neq0, m1n, m4n, vpn, vcl, ne_eq, bI_0, bI_1, bI_01, lit01, lit00, oI_s, oI_n, true_and, and_true, not_true_eq_false, not_false_eq_true, true_implies, false_implies, and_self, implies_true, forall_const, Bool.not_eq_false, Bool.not_eq_true, iu_s, iu_k1, iu_j1, ia_s1, ia_k1, lt2, lt3, lt4, lt5, lt6, lt7, lt8, lt9, lt10, lt11, lt12, lt15, lt16, lt17, lt20, lt30, lt32, lt48, lt57, lt71, lt80, lt97, lt98, lt108, lt110, lt126, lt191, lt200, lt227, lt681, lt65535, lt100000, decide_eq_true_eq, decide_eq_false_iff_not]
    refine ⟨fun h => ?_, fun h => ?_⟩
    · rw [if_neg (by omega)] at hp; exact hp
    · rw [if_pos (by omega)] at hp
      obtain ⟨k, rfl⟩ : ∃ k, l = k + 1 := ⟨l - 1, by omega⟩
      rw [nm1]; exact hp
theorem f_removeFix {x : Nat} (hS : LogS S R L) (hI : LogI I L a) (hB : LgB a) (hx : x < gk a) (hp : ∀ I', LogI I' L (rmF a x) → Fr L (L + 11) I I' → post none (S, I', R)) : sp_X1_removeFix [.inr L, .inl (nI x)] (S, I, R) post := by
  obtain ⟨⟨s0, s1, s2, s3, s4, s5, s6, s7, s8, s9, s10, s11⟩, r1, r2, r3, r5, r6, r7, r8, r10, r11, r12, r13⟩ := id hS
  have bk := hB.k
  have loop : ∀ i, i ≤ gk a → ∀ I', x < i → Fr (L + 8) (L + 10) I I' → (∀ d, 8 ≤ d → d ≤ 10 → ∀ j, I' (L + d) j = if x ≤ j ∧ j + 1 < i then I (L + d) (j + 1) else I (L + d) j) → am_OK h_X1_removeFix post 4 [some (.inr L), some (.inl (nI x)), some (.inl (nI i))] (S, I', R) := by
    refine dn (gk a) ?_ ?_
    · intro I' _ hf hd
      have e : ∀ j, I' L j = I L j := fun j => by rw [hf L (by omega)]
      have c8 := hd 8 (by omega) (by omega)
      have c9 := hd 9 (by omega) (by omega)
      have c10 := hd 10 (by omega) (by omega)
      have hf' : ∀ k j, k < L + 8 ∨ L + 10 < k → I' k j = I k j := fun k j hk => by rw [hf k hk]
      apply am_fold; rw [h_X1_removeFix_4]
      simp only [tb_const, tb_iload, tb_aload, tb_istore, tb_astore, tb_iinc, tb_bin, tb_idiv, tb_i2c, tb_dup, tb_dup2, tb_nn, tb_ic, tb_if, tb_sw, tb_head, tb_getI, tb_getR, tb_putI, tb_putN, tb_putR, tb_iald, tb_cald, tb_iast, tb_cast, tb_aald, tb_aast, tb_alen, tb_stat, tb_pop, tb_mm, tb_copy, tb_ret, tb_iret, tb_zret, tb_aret, tb_retA, tb_new, tb_newa, tb_callV, tb_callS, tb_callI, am_in, List.map_cons, List.map_nil, List.getElem?_cons_zero, List.getElem?_cons_succ, List.set_cons_zero, List.set_cons_succ, List.take_succ_cons, List.take_zero, List.drop_succ_cons, List.drop_zero, List.reverse_cons, List.reverse_nil, List.nil_append, List.cons_append, List.append_nil, List.length_cons, List.length_nil, List.replicate_succ, List.replicate_zero, Option.toList_some, Option.toList_none, true_and, and_true, Option.some.injEq, exists_eq_left', am_wI_mk, am_wA_mk, am_wR_mk, Nat.reduceAdd, Nat.reduceSub, Nat.reduceLeDiff, Nat.zero_add, Nat.le_refl, not_true_eq_false, not_false_eq_true, forall_const, false_implies, true_implies, implies_true, and_self, Prod.mk.injEq, eq_self, t_X1_removeFix_60, t_X1_removeFix_4, t_X1_removeFix_0, s0]
      simp (disch := omega) only [nm1, nm1', nsub1, np1, npd, nadd, n0m1, m1lt, nlt0, nge0, ngt0, nle0, nlt, nle, neq, neq0, m1n, m4n, vpn, vcl, ne_eq, bI_0, bI_1, bI_01, lit01, lit00, oI_s, oI_n, true_and, and_true, not_true_eq_false, not_false_eq_true, true_implies, false_implies, and_self, implies_true, forall_const, Bool.not_eq_false, Bool.not_eq_true, iu_s, iu_k1, iu_j1, ia_s1, ia_k1, lt2, lt3, lt4, lt5, lt6, lt7, lt8, lt9, lt10, lt11, lt12, lt15, lt16, lt17, lt20, lt30, lt32, lt48, lt57, lt71, lt80, lt97, lt98, lt108, lt110, lt126, lt191, lt200, lt227, lt681, lt65535, lt100000, decide_eq_true_eq, decide_eq_false_iff_not, e, hI.k]
      refine ⟨fun _ => hp _ ?_ ?_, fun h => by omega⟩
      · exact (by (refine LogI.mk ?_ ?_ ?_ ?_ ?_ ?_ ?_ ?_ ?_ ?_ ?_ ?_ ?_ ?_ <;> (try intro j hj) <;> (try simp only [rmF_t, rmF_n, rmF_k, rmF_T, rmF_L, rmF_F, rmF_s] at hj) <;> (try simp (disch := omega) only [iu_i, iu_k1, ia_s1, ia_k1, rmF_t, rmF_n, rmF_k, rmF_T, rmF_L, rmF_F, rmF_s, hf', c8, c9, c10, rmF_e, np1, nm1, npd, if_true, if_false, Nat.reduceEqDiff, eq_self, reduceCtorEq, Nat.zero_ne_one]) <;> (repeat' split) <;> (try rfl) <;> (try omega) <;> first | exact hI.t | exact hI.n | exact hI.k | exact hI.T0 (by omega) | exact hI.T1 (by omega) | exact hI.T2 (by omega) | exact hI.L0 (by omega) | exact hI.L1 (by omega) | exact hI.L2 (by omega) | exact hI.L3 (by omega) | exact hI.F0 (by omega) | exact hI.F1 (by omega) | exact hI.F2 (by omega) | exact hI.s (j := j) (by omega) | (trace_state; fail)))
      · exact (hf.wide (by omega) (by omega)).u (by omega) (by omega)
    · intro i hi ih I' hxi hf hd
      have e : ∀ j, I' L j = I L j := fun j => by rw [hf L (by omega)]
      obtain ⟨i', rfl⟩ : ∃ i', i = i' + 1 := ⟨i - 1, by omega⟩
      have q : ∀ d, 8 ≤ d → d ≤ 10 → I' (L + d) (i' + 1) = I (L + d) (i' + 1) := fun d h8 h10 => by rw [hd d h8 h10, if_neg (by omega)]
      apply am_fold; rw [h_X1_removeFix_4]
      simp only [tb_const, tb_iload, tb_aload, tb_istore, tb_astore, tb_iinc, tb_bin, tb_idiv, tb_i2c, tb_dup, tb_dup2, tb_nn, tb_ic, tb_if, tb_sw, tb_head, tb_getI, tb_getR, tb_putI, tb_putN, tb_putR, tb_iald, tb_cald, tb_iast, tb_cast, tb_aald, tb_aast, tb_alen, tb_stat, tb_pop, tb_mm, tb_copy, tb_ret, tb_iret, tb_zret, tb_aret, tb_retA, tb_new, tb_newa, tb_callV, tb_callS, tb_callI, am_in, List.map_cons, List.map_nil, List.getElem?_cons_zero, List.getElem?_cons_succ, List.set_cons_zero, List.set_cons_succ, List.take_succ_cons, List.take_zero, List.drop_succ_cons, List.drop_zero, List.reverse_cons, List.reverse_nil, List.nil_append, List.cons_append, List.append_nil, List.length_cons, List.length_nil, List.replicate_succ, List.replicate_zero, Option.toList_some, Option.toList_none, true_and, and_true, Option.some.injEq, exists_eq_left', am_wI_mk, am_wA_mk, am_wR_mk, Nat.reduceAdd, Nat.reduceSub, Nat.reduceLeDiff, Nat.zero_add, Nat.le_refl, not_true_eq_false, not_false_eq_true, forall_const, false_implies, true_implies, implies_true, and_self, Prod.mk.injEq, eq_self, t_X1_removeFix_60, t_X1_removeFix_4, t_X1_removeFix_0, s0, s8, s9, s10, r10, r11, r12, arr1 s8, arr1 s9, arr1 s10]
      simp (disch := omega) only [nm1, nm1', nsub1, np1, npd, nadd, n0m1, m1lt, nlt0, nge0, ngt0, nle0, nlt, nle, neq, neq0, m1n, m4n, vpn, vcl, ne_eq, bI_0, bI_1, bI_01, lit01, lit00, oI_s, oI_n, true_and, and_true, not_true_eq_false, not_false_eq_true, true_implies, false_implies, and_self, implies_true, forall_const, Bool.not_eq_false, Bool.not_eq_true, iu_s, iu_k1, iu_j1, ia_s1, ia_k1, lt2, lt3, lt4, lt5, lt6, lt7, lt8, lt9, lt10, lt11, lt12, lt15, lt16, lt17, lt20, lt30, lt32, lt48, lt57, lt71, lt80, lt97, lt98, lt108, lt110, lt126, lt191, lt200, lt227, lt681, lt65535, lt100000, decide_eq_true_eq, decide_eq_false_iff_not, e, hI.k]
      refine ⟨fun h => by omega, fun _ => ih _ (by omega) (((hf.u (by omega) (by omega)).u (by omega) (by omega)).u (by omega) (by omega)) (fun d h8 h10 j => ?_)⟩
      rcases (by omega : d = 8 ∨ d = 9 ∨ d = 10) with rfl | rfl | rfl
      all_goals
        simp (disch := omega) only [iu_i, iu_k1, q]
        by_cases hj : j = i'
        · subst hj; rw [if_pos rfl, if_pos (by omega)]
        · rw [if_neg hj, hd _ (by omega) (by omega)]
          by_cases hc : x ≤ j ∧ j + 1 < i' + 1
          · rw [if_pos hc, if_pos (by omega)]
          · rw [if_neg hc, if_neg (by omega)]
  refine ⟨Nat.le_of_ble_eq_true rfl, am_fold ?_⟩; rw [h_X1_removeFix_0]
  simp only [tb_const, tb_iload, tb_aload, tb_istore, tb_astore, tb_iinc, tb_bin, tb_idiv, tb_i2c, tb_dup, tb_dup2, tb_nn, tb_ic, tb_if, tb_sw, tb_head, tb_getI, tb_getR, tb_putI, tb_putN, tb_putR, tb_iald, tb_cald, tb_iast, tb_cast, tb_aald, tb_aast, tb_alen, tb_stat, tb_pop, tb_mm, tb_copy, tb_ret, tb_iret, tb_zret, tb_aret, tb_retA, tb_new, tb_newa, tb_callV, tb_callS, tb_callI, am_in, List.map_cons, List.map_nil, List.getElem?_cons_zero, List.getElem?_cons_succ, List.set_cons_zero, List.set_cons_succ, List.take_succ_cons, List.take_zero, List.drop_succ_cons, List.drop_zero, List.reverse_cons, List.reverse_nil, List.nil_append, List.cons_append, List.append_nil, List.length_cons, List.length_nil, List.replicate_succ, List.replicate_zero, Option.toList_some, Option.toList_none, true_and, and_true, Option.some.injEq, exists_eq_left', am_wI_mk, am_wA_mk, am_wR_mk, Nat.reduceAdd, Nat.reduceSub, Nat.reduceLeDiff, Nat.zero_add, Nat.le_refl, not_true_eq_false, not_false_eq_true, forall_const, false_implies, true_implies, implies_true, and_self, Prod.mk.injEq, eq_self, t_X1_removeFix_60, t_X1_removeFix_4, t_X1_removeFix_0]
  simp (disch := omega) only [nm1, nm1', nsub1, np1, npd, nadd, n0m1, m1lt, nlt0, nge0, ngt0, nle0, nlt, nle, neq, neq0, m1n, m4n, vpn, vcl, ne_eq, bI_0, bI_1, bI_01, lit01, lit00, oI_s, oI_n, true_and, and_true, not_true_eq_false, not_false_eq_true, true_implies, false_implies, and_self, implies_true, forall_const, Bool.not_eq_false, Bool.not_eq_true, iu_s, iu_k1, iu_j1, ia_s1, ia_k1, lt2, lt3, lt4, lt5, lt6, lt7, lt8, lt9, lt10, lt11, lt12, lt15, lt16, lt17, lt20, lt30, lt32, lt48, lt57, lt71, lt80, lt97, lt98, lt108, lt110, lt126, lt191, lt200, lt227, lt681, lt65535, lt100000, decide_eq_true_eq, decide_eq_false_iff_not]
  refine loop (x + 1) (by omega) I (by omega) Fr.rfl (fun d _ _ j => ?_)
  rw [if_neg (by omega)]
