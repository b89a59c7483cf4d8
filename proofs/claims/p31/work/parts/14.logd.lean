variable {S : List (Nat × Nat)} {R : Nat → Nat → Option Nat} {I : Nat → Nat → Int32} {L : Nat} {a : Lg} {post : am_R}
def renF (a : Lg) (x i : Nat) : Lg := (gt a, gn a, gk a, gT a, gL a, fun c j => if j < i then (if c = 0 then gF a c j else if x < gF a c j then gF a c j - 1 else gF a c j) else gF a c j, gs a)
theorem renF_t (a : Lg) (x i : Nat) : gt (renF a x i ) = (gt a) := rfl
theorem renF_n (a : Lg) (x i : Nat) : gn (renF a x i ) = (gn a) := rfl
theorem renF_k (a : Lg) (x i : Nat) : gk (renF a x i ) = (gk a) := rfl
theorem renF_T (a : Lg) (x i : Nat) : gT (renF a x i ) = (gT a) := rfl
theorem renF_L (a : Lg) (x i : Nat) : gL (renF a x i ) = (gL a) := rfl
theorem renF_F (a : Lg) (x i : Nat) : gF (renF a x i ) = (fun c j => if j < i then (if c = 0 then gF a c j else if x < gF a c j then gF a c j - 1 else gF a c j) else gF a c j) := rfl
theorem renF_s (a : Lg) (x i : Nat) : gs (renF a x i ) = (gs a) := rfl
def shL (a : Lg) (x i : Nat) : Lg := (gt a, gn a, gk a, gT a, fun c j => if x ≤ j ∧ j + 1 < i then gL a c (j + 1) else gL a c j, gF a, gs a)
theorem shL_t (a : Lg) (x i : Nat) : gt (shL a x i ) = (gt a) := rfl
theorem shL_n (a : Lg) (x i : Nat) : gn (shL a x i ) = (gn a) := rfl
theorem shL_k (a : Lg) (x i : Nat) : gk (shL a x i ) = (gk a) := rfl
theorem shL_T (a : Lg) (x i : Nat) : gT (shL a x i ) = (gT a) := rfl
theorem shL_L (a : Lg) (x i : Nat) : gL (shL a x i ) = (fun c j => if x ≤ j ∧ j + 1 < i then gL a c (j + 1) else gL a c j) := rfl
theorem shL_F (a : Lg) (x i : Nat) : gF (shL a x i ) = (gF a) := rfl
theorem shL_s (a : Lg) (x i : Nat) : gs (shL a x i ) = (gs a) := rfl
def lsN (a : Lg) (n : Nat) : Lg := (gt a, n, gk a, gT a, gL a, gF a, gs a)
theorem lsN_t (a : Lg) (n : Nat) : gt (lsN a n ) = (gt a) := rfl
theorem lsN_n (a : Lg) (n : Nat) : gn (lsN a n ) = (n) := rfl
theorem lsN_k (a : Lg) (n : Nat) : gk (lsN a n ) = (gk a) := rfl
theorem lsN_T (a : Lg) (n : Nat) : gT (lsN a n ) = (gT a) := rfl
theorem lsN_L (a : Lg) (n : Nat) : gL (lsN a n ) = (gL a) := rfl
theorem lsN_F (a : Lg) (n : Nat) : gF (lsN a n ) = (gF a) := rfl
theorem lsN_s (a : Lg) (n : Nat) : gs (lsN a n ) = (gs a) := rfl
theorem f_fixedLines (hS : LogS S R L) (hI : LogI I L a) (hB : LgB a) (hp : post (some (.inl (nI (cnt (fun l => decide (gC a l (gk a) ≠ none)) (gn a))))) (S, I, R)) : sp_X1_fixedLines [.inr L] (S, I, R) post := by
  obtain ⟨⟨s0, -⟩, -⟩ := id hS
  have bn := hB.n
  have bk := hB.k
  have gC_lt : ∀ l m x, gC a l m = some x → x < m := by
    intro l m
    induction m with
    | zero => intro x h; simp [gC] at h
    | succ m ih =>
      intro x h; unfold gC at h; split at h
      · cases h; omega
      · have := ih x h; omega
  have loop : ∀ i, i ≤ gn a → am_OK h_X1_fixedLines post 4 [some (.inr L), some (.inl (nI (cnt (fun l => decide (gC a l (gk a) ≠ none)) i))), some (.inl (nI i))] (S, I, R) := by
    refine dn (gn a) ?_ ?_
    · apply am_fold; rw [h_X1_fixedLines_4]
      simp only [↓ap_cc, ↓ap_const, ↓ap_iload, ↓ap_aload, ↓ap_istore, ↓ap_astore, ↓ap_iinc, ↓ap_bin, ↓ap_idiv, ↓ap_irem, ↓ap_callSA, ↓ap_iretA, ↓ap_zretA, ↓ap_i2c, ↓ap_dup, ↓ap_dup2, ↓ap_nn, ↓ap_ic, ↓ap_if, ↓ap_sw, ↓ap_head, ↓ap_getI, ↓ap_getR, ↓ap_putI, ↓ap_putN, ↓ap_putR, ↓ap_iald, ↓ap_cald, ↓ap_iast, ↓ap_cast, ↓ap_aald, ↓ap_aast, ↓ap_alen, ↓ap_stat, ↓ap_pop, ↓ap_mm, ↓ap_copy, ↓ap_ret, ↓ap_iret, ↓ap_zret, ↓ap_aret, ↓ap_retA, ↓ap_new, ↓ap_newa, ↓ap_callV, ↓ap_callS, ↓ap_callI, am_in, List.map_cons, List.map_nil, List.getElem?_cons_zero, List.getElem?_cons_succ, List.set_cons_zero, List.set_cons_succ, List.take_succ_cons, List.take_zero, List.drop_succ_cons, List.drop_zero, List.reverse_cons, List.reverse_nil, List.nil_append, List.cons_append, List.append_nil, List.length_cons, List.length_nil, List.replicate_succ, List.replicate_zero, Option.toList_some, Option.toList_none, true_and, and_true, Option.some.injEq, exists_eq_left', am_wI_mk, am_wA_mk, am_wR_mk, Nat.reduceAdd, Nat.reduceSub, Nat.reduceLeDiff, Nat.zero_add, Nat.le_refl, not_true_eq_false, not_false_eq_true, forall_const, false_implies, true_implies, implies_true, and_self, Prod.mk.injEq, eq_self, true_or, or_true, false_and, and_false, or_false, false_or, Nat.reduceEqDiff, ↓a_X1_fixedLines_30, ↓a_X1_fixedLines_24, ↓a_X1_fixedLines_4, ↓a_X1_fixedLines_0, s0]
      try simp (disch := omega) only [nm1, nm1', nsub1, np1, npd, nadd, n0m1, m1lt, nlt0, nge0, ngt0, nle0, nlt, nle, neq, neq0, m1n, m4n, vpn, vcl, ne_eq, bI_0, bI_1, bI_01, lit01, lit00, oI_s, oI_n, true_and, and_true, not_true_eq_false, not_false_eq_true, true_implies, false_implies, and_self, implies_true, forall_const, Bool.not_eq_false, Bool.not_eq_true, iu_s, iu_k1, iu_j1, ia_s1, ia_k1, lt2, lt3, lt5, lt6, lt7, lt8, lt9, lt10, lt11, lt12, lt13, lt15, lt16, lt17, lt20, lt26, lt30, lt32, lt36, lt50, lt60, lt64, lt100, lt300, lt400, lt500, lt1000, lt65536, lt100001, lt10000000, lt48, lt57, lt71, lt80, lt97, lt98, lt108, lt110, lt126, lt191, lt200, lt227, lt681, lt832, lt7919, lt1000000, lt18, lt45, lt65535, lt100000, decide_eq_true_eq, decide_eq_false_iff_not, Nat.le_refl, true_or, or_true, eq_self, hI.n]
      exact hp
    · intro i hi ih
      apply am_fold; rw [h_X1_fixedLines_4]
      simp only [↓ap_cc, ↓ap_const, ↓ap_iload, ↓ap_aload, ↓ap_istore, ↓ap_astore, ↓ap_iinc, ↓ap_bin, ↓ap_idiv, ↓ap_irem, ↓ap_callSA, ↓ap_iretA, ↓ap_zretA, ↓ap_i2c, ↓ap_dup, ↓ap_dup2, ↓ap_nn, ↓ap_ic, ↓ap_if, ↓ap_sw, ↓ap_head, ↓ap_getI, ↓ap_getR, ↓ap_putI, ↓ap_putN, ↓ap_putR, ↓ap_iald, ↓ap_cald, ↓ap_iast, ↓ap_cast, ↓ap_aald, ↓ap_aast, ↓ap_alen, ↓ap_stat, ↓ap_pop, ↓ap_mm, ↓ap_copy, ↓ap_ret, ↓ap_iret, ↓ap_zret, ↓ap_aret, ↓ap_retA, ↓ap_new, ↓ap_newa, ↓ap_callV, ↓ap_callS, ↓ap_callI, am_in, List.map_cons, List.map_nil, List.getElem?_cons_zero, List.getElem?_cons_succ, List.set_cons_zero, List.set_cons_succ, List.take_succ_cons, List.take_zero, List.drop_succ_cons, List.drop_zero, List.reverse_cons, List.reverse_nil, List.nil_append, List.cons_append, List.append_nil, List.length_cons, List.length_nil, List.replicate_succ, List.replicate_zero, Option.toList_some, Option.toList_none, true_and, and_true, Option.some.injEq, exists_eq_left', am_wI_mk, am_wA_mk, am_wR_mk, Nat.reduceAdd, Nat.reduceSub, Nat.reduceLeDiff, Nat.zero_add, Nat.le_refl, not_true_eq_false, not_false_eq_true, forall_const, false_implies, true_implies, implies_true, and_self, Prod.mk.injEq, eq_self, true_or, or_true, false_and, and_false, or_false, false_or, Nat.reduceEqDiff, ↓a_X1_fixedLines_30, ↓a_X1_fixedLines_24, ↓a_X1_fixedLines_4, ↓a_X1_fixedLines_0, s0]
      try simp (disch := omega) only [nm1, nm1', nsub1, np1, npd, nadd, n0m1, m1lt, nlt0, nge0, ngt0, nle0, nlt, nle, neq, neq0, m1n, m4n, vpn, vcl, ne_eq, bI_0, bI_1, bI_01, lit01, lit00, oI_s, oI_n, true_and, and_true, not_true_eq_false, not_false_eq_true, true_implies, false_implies, and_self, implies_true, forall_const, Bool.not_eq_false, Bool.not_eq_true, iu_s, iu_k1, iu_j1, ia_s1, ia_k1, lt2, lt3, lt5, lt6, lt7, lt8, lt9, lt10, lt11, lt12, lt13, lt15, lt16, lt17, lt20, lt26, lt30, lt32, lt36, lt50, lt60, lt64, lt100, lt300, lt400, lt500, lt1000, lt65536, lt100001, lt10000000, lt48, lt57, lt71, lt80, lt97, lt98, lt108, lt110, lt126, lt191, lt200, lt227, lt681, lt832, lt7919, lt1000000, lt18, lt45, lt65535, lt100000, decide_eq_true_eq, decide_eq_false_iff_not, Nat.le_refl, true_or, or_true, eq_self, hI.n]
      refine ⟨fun h => by omega, fun _ => f_countingFix hS hI hB (by omega) ?_⟩
      simp only [↓ap_cc, ↓ap_const, ↓ap_iload, ↓ap_aload, ↓ap_istore, ↓ap_astore, ↓ap_iinc, ↓ap_bin, ↓ap_idiv, ↓ap_irem, ↓ap_callSA, ↓ap_iretA, ↓ap_zretA, ↓ap_i2c, ↓ap_dup, ↓ap_dup2, ↓ap_nn, ↓ap_ic, ↓ap_if, ↓ap_sw, ↓ap_head, ↓ap_getI, ↓ap_getR, ↓ap_putI, ↓ap_putN, ↓ap_putR, ↓ap_iald, ↓ap_cald, ↓ap_iast, ↓ap_cast, ↓ap_aald, ↓ap_aast, ↓ap_alen, ↓ap_stat, ↓ap_pop, ↓ap_mm, ↓ap_copy, ↓ap_ret, ↓ap_iret, ↓ap_zret, ↓ap_aret, ↓ap_retA, ↓ap_new, ↓ap_newa, ↓ap_callV, ↓ap_callS, ↓ap_callI, am_in, List.map_cons, List.map_nil, List.getElem?_cons_zero, List.getElem?_cons_succ, List.set_cons_zero, List.set_cons_succ, List.take_succ_cons, List.take_zero, List.drop_succ_cons, List.drop_zero, List.reverse_cons, List.reverse_nil, List.nil_append, List.cons_append, List.append_nil, List.length_cons, List.length_nil, List.replicate_succ, List.replicate_zero, Option.toList_some, Option.toList_none, true_and, and_true, Option.some.injEq, exists_eq_left', am_wI_mk, am_wA_mk, am_wR_mk, Nat.reduceAdd, Nat.reduceSub, Nat.reduceLeDiff, Nat.zero_add, Nat.le_refl, not_true_eq_false, not_false_eq_true, forall_const, false_implies, true_implies, implies_true, and_self, Prod.mk.injEq, eq_self, true_or, or_true, false_and, and_false, or_false, false_or, Nat.reduceEqDiff, ↓a_X1_fixedLines_30, ↓a_X1_fixedLines_24, ↓a_X1_fixedLines_4, ↓a_X1_fixedLines_0, s0]
      have c := cnt_le (fun l => decide (gC a l (gk a) ≠ none)) i
      rw [cnt] at ih
      cases hc : gC a i (gk a) with
      | none =>
        simp only [hc] at ih
        refine ⟨fun _ => ?_, fun h => absurd rfl h⟩
        try simp (disch := omega) only [nm1, nm1', nsub1, np1, npd, nadd, n0m1, m1lt, nlt0, nge0, ngt0, nle0, nlt, nle, neq, neq0, m1n, m4n, vpn, vcl, ne_eq, bI_0, bI_1, bI_01, lit01, lit00, oI_s, oI_n, true_and, and_true, not_true_eq_false, not_false_eq_true, true_implies, false_implies, and_self, implies_true, forall_const, Bool.not_eq_false, Bool.not_eq_true, iu_s, iu_k1, iu_j1, ia_s1, ia_k1, lt2, lt3, lt5, lt6, lt7, lt8, lt9, lt10, lt11, lt12, lt13, lt15, lt16, lt17, lt20, lt26, lt30, lt32, lt36, lt50, lt60, lt64, lt100, lt300, lt400, lt500, lt1000, lt65536, lt100001, lt10000000, lt48, lt57, lt71, lt80, lt97, lt98, lt108, lt110, lt126, lt191, lt200, lt227, lt681, lt832, lt7919, lt1000000, lt18, lt45, lt65535, lt100000, decide_eq_true_eq, decide_eq_false_iff_not, Nat.le_refl, true_or, or_true, eq_self]
        exact ih
      | some y =>
        have := gC_lt _ _ _ hc
        simp only [hc] at ih
        rw [oI_s]
        refine ⟨fun h => ((m1n (by omega)).mp h).elim, fun _ => ?_⟩
        try simp (disch := omega) only [nm1, nm1', nsub1, np1, npd, nadd, n0m1, m1lt, nlt0, nge0, ngt0, nle0, nlt, nle, neq, neq0, m1n, m4n, vpn, vcl, ne_eq, bI_0, bI_1, bI_01, lit01, lit00, oI_s, oI_n, true_and, and_true, not_true_eq_false, not_false_eq_true, true_implies, false_implies, and_self, implies_true, forall_const, Bool.not_eq_false, Bool.not_eq_true, iu_s, iu_k1, iu_j1, ia_s1, ia_k1, lt2, lt3, lt5, lt6, lt7, lt8, lt9, lt10, lt11, lt12, lt13, lt15, lt16, lt17, lt20, lt26, lt30, lt32, lt36, lt50, lt60, lt64, lt100, lt300, lt400, lt500, lt1000, lt65536, lt100001, lt10000000, lt48, lt57, lt71, lt80, lt97, lt98, lt108, lt110, lt126, lt191, lt200, lt227, lt681, lt832, lt7919, lt1000000, lt18, lt45, lt65535, lt100000, decide_eq_true_eq, decide_eq_false_iff_not, Nat.le_refl, true_or, or_true, eq_self]
        exact ih
  refine ⟨Nat.le_of_ble_eq_true rfl, am_fold ?_⟩; rw [h_X1_fixedLines_0]
  simp only [↓ap_cc, ↓ap_const, ↓ap_iload, ↓ap_aload, ↓ap_istore, ↓ap_astore, ↓ap_iinc, ↓ap_bin, ↓ap_idiv, ↓ap_irem, ↓ap_callSA, ↓ap_iretA, ↓ap_zretA, ↓ap_i2c, ↓ap_dup, ↓ap_dup2, ↓ap_nn, ↓ap_ic, ↓ap_if, ↓ap_sw, ↓ap_head, ↓ap_getI, ↓ap_getR, ↓ap_putI, ↓ap_putN, ↓ap_putR, ↓ap_iald, ↓ap_cald, ↓ap_iast, ↓ap_cast, ↓ap_aald, ↓ap_aast, ↓ap_alen, ↓ap_stat, ↓ap_pop, ↓ap_mm, ↓ap_copy, ↓ap_ret, ↓ap_iret, ↓ap_zret, ↓ap_aret, ↓ap_retA, ↓ap_new, ↓ap_newa, ↓ap_callV, ↓ap_callS, ↓ap_callI, am_in, List.map_cons, List.map_nil, List.getElem?_cons_zero, List.getElem?_cons_succ, List.set_cons_zero, List.set_cons_succ, List.take_succ_cons, List.take_zero, List.drop_succ_cons, List.drop_zero, List.reverse_cons, List.reverse_nil, List.nil_append, List.cons_append, List.append_nil, List.length_cons, List.length_nil, List.replicate_succ, List.replicate_zero, Option.toList_some, Option.toList_none, true_and, and_true, Option.some.injEq, exists_eq_left', am_wI_mk, am_wA_mk, am_wR_mk, Nat.reduceAdd, Nat.reduceSub, Nat.reduceLeDiff, Nat.zero_add, Nat.le_refl, not_true_eq_false, not_false_eq_true, forall_const, false_implies, true_implies, implies_true, and_self, Prod.mk.injEq, eq_self, true_or, or_true, false_and, and_false, or_false, false_or, Nat.reduceEqDiff, ↓a_X1_fixedLines_30, ↓a_X1_fixedLines_24, ↓a_X1_fixedLines_4, ↓a_X1_fixedLines_0]
  exact loop 0 (by omega)
theorem ff_congr {f g : Nat → Bool} : ∀ {d i : Nat}, (∀ x, i ≤ x → x < i + d → f x = g x) → ff f i d = ff g i d
  | 0, _, _ => rfl
  | d + 1, i, h => by
    unfold ff
    rw [h i (by omega) (by omega), ff_congr (d := d) (i := i + 1) (fun x h1 h2 => h x (by omega) (by omega))]
theorem ff_some {f : Nat → Bool} : ∀ {d i x : Nat}, ff f i d = some x → (i ≤ x ∧ x < i + d ∧ f x = true)
  | 0, _, _, h => by simp [ff] at h
  | d + 1, i, x, h => by
    unfold ff at h
    by_cases hf : f i = true
    · rw [if_pos hf] at h; cases h; exact ⟨Nat.le_refl _, by omega, hf⟩
    · rw [if_neg hf] at h; have := ff_some h; exact ⟨by omega, by omega, this.2.2⟩
theorem ff_none {f : Nat → Bool} : ∀ {d i : Nat}, ff f i d = none ↔ ∀ x, i ≤ x → x < i + d → f x = false
  | 0, i => ⟨fun _ x h1 h2 => by omega, fun _ => rfl⟩
  | d + 1, i => by
    unfold ff
    by_cases hf : f i = true
    · rw [if_pos hf]; exact ⟨fun h => by simp at h, fun h => by rw [h i (Nat.le_refl _) (by omega)] at hf; cases hf⟩
    · rw [if_neg hf, ff_none]
      refine ⟨fun h x h1 h2 => ?_, fun h x h1 h2 => h x (by omega) (by omega)⟩
      by_cases hx : x = i
      · subst hx; exact Bool.not_eq_true _ ▸ hf
      · exact h x (by omega) (by omega)
/-- the first correction of a kind, for a line and an earlier one -/
def gX (a : Lg) (k l e : Nat) : Option Nat := ff (fun x => decide (gF a 0 x = k ∧ gF a 1 x = l ∧ (k = 0 ∨ gF a 2 x = e))) 0 (gk a)
theorem f_fixLike2 {k l e : Nat} {x : Int32} (hS : LogS S R L) (hI : LogI I L a) (hB : LgB a) (hk : k < 2147483648) (hl : l < 2147483648) (he : k ≠ 0 → e < 2147483648) (hx : x = if k = 0 then -1 else nI e) (hp : post (some (.inl (oI (-1) (gX a k l e)))) (S, I, R)) : sp_X1_fixLike [.inr L, .inl (nI k), .inl (nI l), .inl x] (S, I, R) post := by
  refine f_fixLike hS hI hB hk hl ?_
  rw [ff_congr (g := fun x => decide (gF a 0 x = k ∧ gF a 1 x = l ∧ (k = 0 ∨ gF a 2 x = e)))]
  · exact hp
  · intro j _ hj
    rw [decide_eq_decide, hx]
    by_cases h0 : k = 0
    · subst h0
      constructor
      · exact fun h => ⟨h.1, h.2.1, Or.inl rfl⟩
      · exact fun h => ⟨h.1, h.2.1, by unfold eI; rw [if_pos h.1, if_pos rfl]⟩
    · rw [if_neg h0, eI_eq hB (by omega) (he h0)]
      constructor
      · exact fun h => ⟨h.1, h.2.1, Or.inr h.2.2.2⟩
      · exact fun h => ⟨h.1, h.2.1, by rw [h.1]; exact h0, h.2.2.resolve_left h0⟩
/-- whether a correction may be added -/
def gCan (a : Lg) (k l e : Nat) : Bool := decide (k = 0 ∨ gE a e l) && decide (gX a k l e = none)
theorem f_canBeFixed {k l e : Nat} {x : Int32} (hS : LogS S R L) (hI : LogI I L a) (hB : LgB a) (hk : k < 2147483648) (hl : l < gn a) (he : k ≠ 0 → e < gn a) (hx : x = if k = 0 then -1 else nI e) (hp : post (some (.inl (bI (gCan a k l e)))) (S, I, R)) : sp_X1_canBeFixed [.inr L, .inl (nI k), .inl (nI l), .inl x] (S, I, R) post := by
  obtain ⟨⟨s0, -⟩, -⟩ := id hS
  have bn := hB.n
  have bk := hB.k
  have cl : (k = 0 ∨ gE a e l) → (¬ oI (-1) (gX a k l e) = -1 → post (some (.inl 0)) (S, I, R)) ∧ (¬ ¬ oI (-1) (gX a k l e) = -1 → post (some (.inl 1)) (S, I, R)) := by
    intro h
    unfold gCan at hp
    rw [decide_eq_true h] at hp
    cases hc : gX a k l e with
    | none => rw [hc] at hp; exact ⟨fun h => absurd (oI_n _) h, fun _ => hp⟩
    | some y =>
      have := (ff_some hc).2.1
      rw [hc] at hp; rw [oI_s]
      exact ⟨fun _ => hp, fun h => ((m1n (by omega)).mp (Classical.byContradiction h)).elim⟩
  refine ⟨Nat.le_of_ble_eq_true rfl, am_fold ?_⟩; rw [h_X1_canBeFixed_0]
  simp only [↓ap_cc, ↓ap_const, ↓ap_iload, ↓ap_aload, ↓ap_istore, ↓ap_astore, ↓ap_iinc, ↓ap_bin, ↓ap_idiv, ↓ap_irem, ↓ap_callSA, ↓ap_iretA, ↓ap_zretA, ↓ap_i2c, ↓ap_dup, ↓ap_dup2, ↓ap_nn, ↓ap_ic, ↓ap_if, ↓ap_sw, ↓ap_head, ↓ap_getI, ↓ap_getR, ↓ap_putI, ↓ap_putN, ↓ap_putR, ↓ap_iald, ↓ap_cald, ↓ap_iast, ↓ap_cast, ↓ap_aald, ↓ap_aast, ↓ap_alen, ↓ap_stat, ↓ap_pop, ↓ap_mm, ↓ap_copy, ↓ap_ret, ↓ap_iret, ↓ap_zret, ↓ap_aret, ↓ap_retA, ↓ap_new, ↓ap_newa, ↓ap_callV, ↓ap_callS, ↓ap_callI, am_in, List.map_cons, List.map_nil, List.getElem?_cons_zero, List.getElem?_cons_succ, List.set_cons_zero, List.set_cons_succ, List.take_succ_cons, List.take_zero, List.drop_succ_cons, List.drop_zero, List.reverse_cons, List.reverse_nil, List.nil_append, List.cons_append, List.append_nil, List.length_cons, List.length_nil, List.replicate_succ, List.replicate_zero, Option.toList_some, Option.toList_none, true_and, and_true, Option.some.injEq, exists_eq_left', am_wI_mk, am_wA_mk, am_wR_mk, Nat.reduceAdd, Nat.reduceSub, Nat.reduceLeDiff, Nat.zero_add, Nat.le_refl, not_true_eq_false, not_false_eq_true, forall_const, false_implies, true_implies, implies_true, and_self, Prod.mk.injEq, eq_self, true_or, or_true, false_and, and_false, or_false, false_or, Nat.reduceEqDiff, ↓a_X1_canBeFixed_31, ↓a_X1_canBeFixed_30, ↓a_X1_canBeFixed_15, ↓a_X1_canBeFixed_0, s0]
  try simp (disch := omega) only [nm1, nm1', nsub1, np1, npd, nadd, n0m1, m1lt, nlt0, nge0, ngt0, nle0, nlt, nle, neq, neq0, m1n, m4n, vpn, vcl, ne_eq, bI_0, bI_1, bI_01, lit01, lit00, oI_s, oI_n, true_and, and_true, not_true_eq_false, not_false_eq_true, true_implies, false_implies, and_self, implies_true, forall_const, Bool.not_eq_false, Bool.not_eq_true, iu_s, iu_k1, iu_j1, ia_s1, ia_k1, lt2, lt3, lt5, lt6, lt7, lt8, lt9, lt10, lt11, lt12, lt13, lt15, lt16, lt17, lt20, lt26, lt30, lt32, lt36, lt50, lt60, lt64, lt100, lt300, lt400, lt500, lt1000, lt65536, lt100001, lt10000000, lt48, lt57, lt71, lt80, lt97, lt98, lt108, lt110, lt126, lt191, lt200, lt227, lt681, lt832, lt7919, lt1000000, lt18, lt45, lt65535, lt100000, decide_eq_true_eq, decide_eq_false_iff_not, Nat.le_refl, true_or, or_true, eq_self]
  refine ⟨fun h0 => f_fixLike2 hS hI hB hk (by omega) (fun h => absurd h0 h) hx ?_, fun h0 => ?_⟩
  · simp only [↓ap_cc, ↓ap_const, ↓ap_iload, ↓ap_aload, ↓ap_istore, ↓ap_astore, ↓ap_iinc, ↓ap_bin, ↓ap_idiv, ↓ap_irem, ↓ap_callSA, ↓ap_iretA, ↓ap_zretA, ↓ap_i2c, ↓ap_dup, ↓ap_dup2, ↓ap_nn, ↓ap_ic, ↓ap_if, ↓ap_sw, ↓ap_head, ↓ap_getI, ↓ap_getR, ↓ap_putI, ↓ap_putN, ↓ap_putR, ↓ap_iald, ↓ap_cald, ↓ap_iast, ↓ap_cast, ↓ap_aald, ↓ap_aast, ↓ap_alen, ↓ap_stat, ↓ap_pop, ↓ap_mm, ↓ap_copy, ↓ap_ret, ↓ap_iret, ↓ap_zret, ↓ap_aret, ↓ap_retA, ↓ap_new, ↓ap_newa, ↓ap_callV, ↓ap_callS, ↓ap_callI, am_in, List.map_cons, List.map_nil, List.getElem?_cons_zero, List.getElem?_cons_succ, List.set_cons_zero, List.set_cons_succ, List.take_succ_cons, List.take_zero, List.drop_succ_cons, List.drop_zero, List.reverse_cons, List.reverse_nil, List.nil_append, List.cons_append, List.append_nil, List.length_cons, List.length_nil, List.replicate_succ, List.replicate_zero, Option.toList_some, Option.toList_none, true_and, and_true, Option.some.injEq, exists_eq_left', am_wI_mk, am_wA_mk, am_wR_mk, Nat.reduceAdd, Nat.reduceSub, Nat.reduceLeDiff, Nat.zero_add, Nat.le_refl, not_true_eq_false, not_false_eq_true, forall_const, false_implies, true_implies, implies_true, and_self, Prod.mk.injEq, eq_self, true_or, or_true, false_and, and_false, or_false, false_or, Nat.reduceEqDiff, ↓a_X1_canBeFixed_31, ↓a_X1_canBeFixed_30, ↓a_X1_canBeFixed_15, ↓a_X1_canBeFixed_0, lit01, lit00]
    exact cl (Or.inl h0)
  · have hx' := hx
    rw [if_neg h0] at hx'
    rw [hx']
    refine f_isEarlier hS hI hB (he h0) hl ?_
    simp only [↓ap_cc, ↓ap_const, ↓ap_iload, ↓ap_aload, ↓ap_istore, ↓ap_astore, ↓ap_iinc, ↓ap_bin, ↓ap_idiv, ↓ap_irem, ↓ap_callSA, ↓ap_iretA, ↓ap_zretA, ↓ap_i2c, ↓ap_dup, ↓ap_dup2, ↓ap_nn, ↓ap_ic, ↓ap_if, ↓ap_sw, ↓ap_head, ↓ap_getI, ↓ap_getR, ↓ap_putI, ↓ap_putN, ↓ap_putR, ↓ap_iald, ↓ap_cald, ↓ap_iast, ↓ap_cast, ↓ap_aald, ↓ap_aast, ↓ap_alen, ↓ap_stat, ↓ap_pop, ↓ap_mm, ↓ap_copy, ↓ap_ret, ↓ap_iret, ↓ap_zret, ↓ap_aret, ↓ap_retA, ↓ap_new, ↓ap_newa, ↓ap_callV, ↓ap_callS, ↓ap_callI, am_in, List.map_cons, List.map_nil, List.getElem?_cons_zero, List.getElem?_cons_succ, List.set_cons_zero, List.set_cons_succ, List.take_succ_cons, List.take_zero, List.drop_succ_cons, List.drop_zero, List.reverse_cons, List.reverse_nil, List.nil_append, List.cons_append, List.append_nil, List.length_cons, List.length_nil, List.replicate_succ, List.replicate_zero, Option.toList_some, Option.toList_none, true_and, and_true, Option.some.injEq, exists_eq_left', am_wI_mk, am_wA_mk, am_wR_mk, Nat.reduceAdd, Nat.reduceSub, Nat.reduceLeDiff, Nat.zero_add, Nat.le_refl, not_true_eq_false, not_false_eq_true, forall_const, false_implies, true_implies, implies_true, and_self, Prod.mk.injEq, eq_self, true_or, or_true, false_and, and_false, or_false, false_or, Nat.reduceEqDiff, ↓a_X1_canBeFixed_31, ↓a_X1_canBeFixed_30, ↓a_X1_canBeFixed_15, ↓a_X1_canBeFixed_0, s0, bI_0, lit01, lit00]
    by_cases hE : gE a e l
    · rw [decide_eq_true hE]
      refine ⟨fun _ => ?_, fun h => absurd (by simp) h⟩
      refine f_fixLike2 (e := e) hS hI hB hk (by omega) (fun _ => by have := he h0; omega) (by rw [if_neg h0]) ?_
      simp only [↓ap_cc, ↓ap_const, ↓ap_iload, ↓ap_aload, ↓ap_istore, ↓ap_astore, ↓ap_iinc, ↓ap_bin, ↓ap_idiv, ↓ap_irem, ↓ap_callSA, ↓ap_iretA, ↓ap_zretA, ↓ap_i2c, ↓ap_dup, ↓ap_dup2, ↓ap_nn, ↓ap_ic, ↓ap_if, ↓ap_sw, ↓ap_head, ↓ap_getI, ↓ap_getR, ↓ap_putI, ↓ap_putN, ↓ap_putR, ↓ap_iald, ↓ap_cald, ↓ap_iast, ↓ap_cast, ↓ap_aald, ↓ap_aast, ↓ap_alen, ↓ap_stat, ↓ap_pop, ↓ap_mm, ↓ap_copy, ↓ap_ret, ↓ap_iret, ↓ap_zret, ↓ap_aret, ↓ap_retA, ↓ap_new, ↓ap_newa, ↓ap_callV, ↓ap_callS, ↓ap_callI, am_in, List.map_cons, List.map_nil, List.getElem?_cons_zero, List.getElem?_cons_succ, List.set_cons_zero, List.set_cons_succ, List.take_succ_cons, List.take_zero, List.drop_succ_cons, List.drop_zero, List.reverse_cons, List.reverse_nil, List.nil_append, List.cons_append, List.append_nil, List.length_cons, List.length_nil, List.replicate_succ, List.replicate_zero, Option.toList_some, Option.toList_none, true_and, and_true, Option.some.injEq, exists_eq_left', am_wI_mk, am_wA_mk, am_wR_mk, Nat.reduceAdd, Nat.reduceSub, Nat.reduceLeDiff, Nat.zero_add, Nat.le_refl, not_true_eq_false, not_false_eq_true, forall_const, false_implies, true_implies, implies_true, and_self, Prod.mk.injEq, eq_self, true_or, or_true, false_and, and_false, or_false, false_or, Nat.reduceEqDiff, ↓a_X1_canBeFixed_31, ↓a_X1_canBeFixed_30, ↓a_X1_canBeFixed_15, ↓a_X1_canBeFixed_0, lit01, lit00]
      exact cl (Or.inr hE)
    · rw [decide_eq_false hE]
      unfold gCan at hp
      rw [decide_eq_false (by rintro (h | h); exact h0 h; exact hE h)] at hp
      exact ⟨fun h => absurd rfl h, fun _ => hp⟩
theorem va_cpy0 {f g : Nat → Int32} {n j : Nat} (h : j < n) : va_cpy f g 0 0 n j = f j := by
  unfold va_cpy
  rw [if_pos (by omega)]
  congr 1; omega
theorem ncl {n : Nat} (h : n < 2147483648) : (nI n).toNatClampNeg ≤ n ↔ True := by rw [vcl h]; simp
theorem f_copyFrom {K : Nat} {b : Lg} (hS : LogS S R L) (hS2 : LogS S R K) (hI : LogI I K b) (hB : LgB b) (hd : L + 11 < K ∨ K + 11 < L) (hp : ∀ I', LogI I' L b → Fr L (L + 11) I I' → post none (S, I', R)) : sp_X1_copyFrom [.inr L, .inr K] (S, I, R) post := by
  obtain ⟨⟨s0, s1, s2, s3, s4, s5, s6, s7, s8, s9, s10, s11⟩, r1, r2, r3, r5, r6, r7, r8, r10, r11, r12, r13⟩ := id hS
  obtain ⟨⟨u0, u1, u2, u3, u4, u5, u6, u7, u8, u9, u10, u11⟩, v1, v2, v3, v5, v6, v7, v8, v10, v11, v12, v13⟩ := id hS2
  have bt := hB.t
  have bn := hB.n
  have bk := hB.k
  refine ⟨Nat.le_of_ble_eq_true rfl, am_fold ?_⟩; rw [h_X1_copyFrom_0]
  simp only [↓ap_cc, ↓ap_const, ↓ap_iload, ↓ap_aload, ↓ap_istore, ↓ap_astore, ↓ap_iinc, ↓ap_bin, ↓ap_idiv, ↓ap_irem, ↓ap_callSA, ↓ap_iretA, ↓ap_zretA, ↓ap_i2c, ↓ap_dup, ↓ap_dup2, ↓ap_nn, ↓ap_ic, ↓ap_if, ↓ap_sw, ↓ap_head, ↓ap_getI, ↓ap_getR, ↓ap_putI, ↓ap_putN, ↓ap_putR, ↓ap_iald, ↓ap_cald, ↓ap_iast, ↓ap_cast, ↓ap_aald, ↓ap_aast, ↓ap_alen, ↓ap_stat, ↓ap_pop, ↓ap_mm, ↓ap_copy, ↓ap_ret, ↓ap_iret, ↓ap_zret, ↓ap_aret, ↓ap_retA, ↓ap_new, ↓ap_newa, ↓ap_callV, ↓ap_callS, ↓ap_callI, am_in, List.map_cons, List.map_nil, List.getElem?_cons_zero, List.getElem?_cons_succ, List.set_cons_zero, List.set_cons_succ, List.take_succ_cons, List.take_zero, List.drop_succ_cons, List.drop_zero, List.reverse_cons, List.reverse_nil, List.nil_append, List.cons_append, List.append_nil, List.length_cons, List.length_nil, List.replicate_succ, List.replicate_zero, Option.toList_some, Option.toList_none, true_and, and_true, Option.some.injEq, exists_eq_left', am_wI_mk, am_wA_mk, am_wR_mk, Nat.reduceAdd, Nat.reduceSub, Nat.reduceLeDiff, Nat.zero_add, Nat.le_refl, not_true_eq_false, not_false_eq_true, forall_const, false_implies, true_implies, implies_true, and_self, Prod.mk.injEq, eq_self, true_or, or_true, false_and, and_false, or_false, false_or, Nat.reduceEqDiff, ↓a_X1_copyFrom_0, s0, s1, s2, s3, s4, s5, s6, s7, s8, s9, s10, s11, r1, r2, r3, r5, r6, r7, r8, r10, r11, r12, r13, u0, u1, u2, u3, u4, u5, u6, u7, u8, u9, u10, u11, v1, v2, v3, v5, v6, v7, v8, v10, v11, v12, v13]
  try simp (disch := omega) only [nm1, nm1', nsub1, np1, npd, nadd, n0m1, m1lt, nlt0, nge0, ngt0, nle0, nlt, nle, neq, neq0, m1n, m4n, vpn, vcl, ne_eq, bI_0, bI_1, bI_01, lit01, lit00, oI_s, oI_n, true_and, and_true, not_true_eq_false, not_false_eq_true, true_implies, false_implies, and_self, implies_true, forall_const, Bool.not_eq_false, Bool.not_eq_true, iu_s, iu_k1, iu_j1, ia_s1, ia_k1, lt2, lt3, lt5, lt6, lt7, lt8, lt9, lt10, lt11, lt12, lt13, lt15, lt16, lt17, lt20, lt26, lt30, lt32, lt36, lt50, lt60, lt64, lt100, lt300, lt400, lt500, lt1000, lt65536, lt100001, lt10000000, lt48, lt57, lt71, lt80, lt97, lt98, lt108, lt110, lt126, lt191, lt200, lt227, lt681, lt832, lt7919, lt1000000, lt18, lt45, lt65535, lt100000, decide_eq_true_eq, decide_eq_false_iff_not, Nat.le_refl, true_or, or_true, eq_self, arrE, arrE2, hI.t, hI.n, hI.k]
  refine hp _ ?_ ?_
  · refine LogI.mk ?_ ?_ ?_ ?_ ?_ ?_ ?_ ?_ ?_ ?_ ?_ ?_ ?_ ?_ <;> (try intro j hj) <;> (simp (disch := omega) only [iu_i, iu_k1, ia_s1, ia_k1, va_cpy0, if_true, if_false, Nat.reduceEqDiff, eq_self, reduceCtorEq, hI.t, hI.n, hI.k, hI.T0, hI.T1, hI.T2, hI.L0, hI.L1, hI.L2, hI.L3, hI.F0, hI.F1, hI.F2, hI.s])
  · intro k hk
    funext j
    simp (disch := omega) only [iu_k1, ia_k1]

