set_option linter.unusedVariables false
/-! ===== the pure side: memory as (shapes, numbers, references) ===== -/
def am_u (I : Nat → Nat → Int32) (k j : Nat) (x : Int32) : Nat → Nat → Int32 := va_up I k (upd (I k) j x)
def am_ua (I : Nat → Nat → Int32) (k : Nat) (f : Nat → Int32) : Nat → Nat → Int32 := va_up I k f
def am_ur (R : Nat → Nat → Option Nat) (k j q : Nat) : Nat → Nat → Option Nat := va_up R k (va_up (R k) j (some q))
theorem am_wI_mk (S : List (Nat × Nat)) (I : Nat → Nat → Int32) (R : Nat → Nat → Option Nat) (k j : Nat) (x : Int32) : am_wI (S, I, R) k j x = (S, am_u I k j x, R) := rfl
theorem am_wA_mk (S : List (Nat × Nat)) (I : Nat → Nat → Int32) (R : Nat → Nat → Option Nat) (k : Nat) (f : Nat → Int32) : am_wA (S, I, R) k f = (S, am_ua I k f, R) := rfl
theorem am_wR_mk (S : List (Nat × Nat)) (I : Nat → Nat → Int32) (R : Nat → Nat → Option Nat) (k j q : Nat) : am_wR (S, I, R) k j q = (S, I, am_ur R k j q) := rfl
theorem u_same (I : Nat → Nat → Int32) (k j : Nat) (x : Int32) : am_u I k j x k j = x := by simp [am_u, va_up, upd]
theorem u_k {I : Nat → Nat → Int32} {k j k' : Nat} {x : Int32} (h : k' ≠ k) : am_u I k j x k' = I k' := by simp [am_u, va_up, h]
theorem u_j {I : Nat → Nat → Int32} {k j j' : Nat} {x : Int32} (h : j' ≠ j) : am_u I k j x k j' = I k j' := by simp [am_u, va_up, upd, h]
theorem ua_same (I : Nat → Nat → Int32) (k : Nat) (f : Nat → Int32) : am_ua I k f k = f := by simp [am_ua, va_up]
theorem ua_k {I : Nat → Nat → Int32} {k k' : Nat} {f : Nat → Int32} (h : k' ≠ k) : am_ua I k f k' = I k' := by simp [am_ua, va_up, h]
theorem arr1 {S : List (Nat × Nat)} {I : Nat → Nat → Int32} {R : Nat → Nat → Option Nat} {a n : Nat} {i : Int32} (h : S[a]? = some (1, n)) : am_arr (S, I, R) a i ↔ vp_in i n := by
  simp [am_arr, h]
theorem arr4 {S : List (Nat × Nat)} {I : Nat → Nat → Int32} {R : Nat → Nat → Option Nat} {a n : Nat} {i : Int32} (h : S[a]? = some (4, n)) : am_arr (S, I, R) a i ↔ vp_in i n := by
  simp [am_arr, h]
theorem arrE {S : List (Nat × Nat)} {a n k : Nat} {i : Int32} (h : S[a]? = some (k, n)) : (∃ m, S[a]? = some (k, m) ∧ vp_in i m) ↔ vp_in i n := by
  simp [h]
theorem vpn {j n : Nat} (h : j < n) (hn : n < 2 ^ 31) : vp_in (nI j) n ↔ True := iff_true_intro (vp_in_nI h hn)
theorem vcl {j : Nat} (h : j < 2 ^ 31) : (nI j).toNatClampNeg = j := nI_clamp h
theorem zI : (0 : Int32) = nI 0 := rfl
/-- the places of a log that stands at L, and what its fields refer to -/
def LogS (S : List (Nat × Nat)) (R : Nat → Nat → Option Nat) (L : Nat) : Prop := (S[L]? = some (0, 1) ∧ S[L + 1]? = some (1, 20) ∧ S[L + 2]? = some (1, 20) ∧ S[L + 3]? = some (1, 20) ∧ S[L + 4]? = some (1, 30) ∧ S[L + 5]? = some (1, 30) ∧ S[L + 6]? = some (1, 30) ∧ S[L + 7]? = some (1, 30) ∧ S[L + 8]? = some (1, 12) ∧ S[L + 9]? = some (1, 12) ∧ S[L + 10]? = some (1, 12) ∧ S[L + 11]? = some (1, 8)) ∧ (R L 1 = some (L + 1) ∧ R L 2 = some (L + 2) ∧ R L 3 = some (L + 3) ∧ R L 5 = some (L + 4) ∧ R L 6 = some (L + 5) ∧ R L 7 = some (L + 6) ∧ R L 8 = some (L + 7) ∧ R L 10 = some (L + 8) ∧ R L 11 = some (L + 9) ∧ R L 12 = some (L + 10) ∧ R L 13 = some (L + 11))
/-- the name that a person took last, of the first n takes, by a time; z if none -/
def q_nameAt (z : Int32) (tp tn tt : Nat → Int32) (p t : Int32) : Nat → Int32
  | 0 => z
  | n + 1 => if tp n = p ∧ tt n ≤ t then tn n else q_nameAt z tp tn tt p t n
theorem f_nameAt {S : List (Nat × Nat)} {R : Nat → Nat → Option Nat} {I : Nat → Nat → Int32} {L n : Nat} {p t : Int32} {post : am_R} (hS : LogS S R L) (hn : I L 0 = nI n) (hn20 : n ≤ 20) (hp : post (some (.inl (q_nameAt (-1) (I (L + 1)) (I (L + 2)) (I (L + 3)) p t n))) (S, I, R)) : sp_X1_nameAt [.inr L, .inl p, .inl t] (S, I, R) post := by
  obtain ⟨⟨s0, s1, s2, s3, -⟩, r1, r2, r3, -⟩ := hS
  have loop : ∀ m, m ≤ 20 → post (some (.inl (q_nameAt (-1) (I (L + 1)) (I (L + 2)) (I (L + 3)) p t m))) (S, I, R) → am_OK h_X1_nameAt post 7 [some (.inr L), some (.inl p), some (.inl t), some (.inl (nI m - 1))] (S, I, R) := by
    intro m
    induction m with
    | zero =>
      intro _ hq
      apply am_fold
      rw [h_X1_nameAt_7]
      simp only [tb_const, tb_iload, tb_aload, tb_istore, tb_astore, tb_iinc, tb_bin, tb_idiv, tb_i2c, tb_dup, tb_dup2, tb_nn, tb_ic, tb_if, tb_sw, tb_head, tb_getI, tb_getR, tb_putI, tb_putN, tb_putR, tb_iald, tb_cald, tb_iast, tb_cast, tb_aald, tb_aast, tb_alen, tb_stat, tb_pop, tb_mm, tb_copy, tb_ret, tb_iret, tb_zret, tb_aret, tb_retA, tb_new, tb_newa, tb_callV, tb_callS, tb_callI, am_in, List.map_cons, List.map_nil, List.getElem?_cons_zero, List.getElem?_cons_succ, List.set_cons_zero, List.set_cons_succ, List.take_succ_cons, List.take_zero, List.drop_succ_cons, List.drop_zero, List.reverse_cons, List.reverse_nil, List.nil_append, List.cons_append, List.append_nil, List.length_cons, List.length_nil, List.replicate_succ, List.replicate_zero, Option.toList_some, Option.toList_none, true_and, and_true, Option.some.injEq, exists_eq_left', am_wI_mk, am_wA_mk, am_wR_mk, Nat.reduceAdd, Nat.reduceSub, Nat.reduceLeDiff, Nat.zero_add, Nat.le_refl, not_true_eq_false, not_false_eq_true, forall_const, false_implies, true_implies, implies_true, and_self, t_X1_nameAt_44, t_X1_nameAt_38, t_X1_nameAt_7, t_X1_nameAt_0, s0, s1, s2, s3, r1, r2, r3]
      sorry
    | succ m ih =>
      intro hm hq
      apply am_fold
      rw [h_X1_nameAt_7]
      have e : nI (m + 1) - 1 = nI m := nI_pred m
      rw [e]
      simp only [tb_const, tb_iload, tb_aload, tb_istore, tb_astore, tb_iinc, tb_bin, tb_idiv, tb_i2c, tb_dup, tb_dup2, tb_nn, tb_ic, tb_if, tb_sw, tb_head, tb_getI, tb_getR, tb_putI, tb_putN, tb_putR, tb_iald, tb_cald, tb_iast, tb_cast, tb_aald, tb_aast, tb_alen, tb_stat, tb_pop, tb_mm, tb_copy, tb_ret, tb_iret, tb_zret, tb_aret, tb_retA, tb_new, tb_newa, tb_callV, tb_callS, tb_callI, am_in, List.map_cons, List.map_nil, List.getElem?_cons_zero, List.getElem?_cons_succ, List.set_cons_zero, List.set_cons_succ, List.take_succ_cons, List.take_zero, List.drop_succ_cons, List.drop_zero, List.reverse_cons, List.reverse_nil, List.nil_append, List.cons_append, List.append_nil, List.length_cons, List.length_nil, List.replicate_succ, List.replicate_zero, Option.toList_some, Option.toList_none, true_and, and_true, Option.some.injEq, exists_eq_left', am_wI_mk, am_wA_mk, am_wR_mk, Nat.reduceAdd, Nat.reduceSub, Nat.reduceLeDiff, Nat.zero_add, Nat.le_refl, not_true_eq_false, not_false_eq_true, forall_const, false_implies, true_implies, implies_true, and_self, t_X1_nameAt_44, t_X1_nameAt_38, t_X1_nameAt_7, t_X1_nameAt_0, s0, s1, s2, s3, r1, r2, r3, arr1 s1, arr1 s2, arr1 s3]
      sorry
  refine ⟨Nat.le_of_ble_eq_true rfl, am_fold ?_⟩
  rw [h_X1_nameAt_0]
  simp only [tb_const, tb_iload, tb_aload, tb_istore, tb_astore, tb_iinc, tb_bin, tb_idiv, tb_i2c, tb_dup, tb_dup2, tb_nn, tb_ic, tb_if, tb_sw, tb_head, tb_getI, tb_getR, tb_putI, tb_putN, tb_putR, tb_iald, tb_cald, tb_iast, tb_cast, tb_aald, tb_aast, tb_alen, tb_stat, tb_pop, tb_mm, tb_copy, tb_ret, tb_iret, tb_zret, tb_aret, tb_retA, tb_new, tb_newa, tb_callV, tb_callS, tb_callI, am_in, List.map_cons, List.map_nil, List.getElem?_cons_zero, List.getElem?_cons_succ, List.set_cons_zero, List.set_cons_succ, List.take_succ_cons, List.take_zero, List.drop_succ_cons, List.drop_zero, List.reverse_cons, List.reverse_nil, List.nil_append, List.cons_append, List.append_nil, List.length_cons, List.length_nil, List.replicate_succ, List.replicate_zero, Option.toList_some, Option.toList_none, true_and, and_true, Option.some.injEq, exists_eq_left', am_wI_mk, am_wA_mk, am_wR_mk, Nat.reduceAdd, Nat.reduceSub, Nat.reduceLeDiff, Nat.zero_add, Nat.le_refl, not_true_eq_false, not_false_eq_true, forall_const, false_implies, true_implies, implies_true, and_self, t_X1_nameAt_44, t_X1_nameAt_38, t_X1_nameAt_7, t_X1_nameAt_0, s0, s1, s2, s3, r1, r2, r3, hn]
  sorry
