-- needs: 10 11 12 13 14 15 20 21 22 23 30 31 32 33 34 35 36 37 38 40 41 42 65
variable {S : List (Nat × Nat)} {R : Nat → Nat → Option Nat} {I : Nat → Nat → Int32} {q : Nat → Nat} {s : St} {post : am_R}
/-- the places of the developers' object at 4 and of what it holds -/
def ClS (S : List (Nat × Nat)) (R : Nat → Nat → Option Nat) (q : Nat → Nat) : Prop := (S[4]? = some (0, 4) ∧ R 4 0 = some 5 ∧ R 4 1 = some 6 ∧ R 4 3 = some 33 ∧ R 4 4 = some 83 ∧ R 4 5 = some 86 ∧ R 4 6 = some 87) ∧ ThS S R 5 ∧ HisS S R 33 q ∧ TxtS S R 83 ∧ ThS S R 86 ∧ S[1]? = some (4, 8) ∧ S[2]? = some (4, 8)
def ClI (I : Nat → Nat → Int32) (q : Nat → Nat) (s : St) : Prop := LogI I 6 s.a ∧ HisI I 33 q s.c s.h ∧ TxtI I 83 s.n s.x ∧ (I 4 2 = 1 ∨ (I 4 2 = 0 ∧ RatI I 5 s.a ∧ FolI I 5 s.a (gs s.a 1))) ∧ ∀ j, j < 8 → I 1 j = am_t1 j ∧ I 2 j = am_t2 j
/-- nothing of the model's is other -/
def FrC (I I' : Nat → Nat → Int32) : Prop := ∀ k, (114 ≤ k ∨ k = 3) → I' k = I k
theorem FrC.rfl : FrC I I := fun _ _ => Eq.refl _
theorem FrC.tr {I' I'' : Nat → Nat → Int32} (h : FrC I I') (h' : FrC I' I'') : FrC I I'' := fun k hk => (h' k hk).trans (h k hk)
theorem HisI.same {H c : Nat} {h : Nat → Lg} {I' : Nat → Nat → Int32} (hS : HisS S R H q) (hI : HisI I H q c h) (e : ∀ k, H ≤ k → k ≤ H + 49 → I' k = I k) : HisI I' H q c h := by
  refine ⟨hI.1, by rw [e H (by omega) (by omega)]; exact hI.2.1, fun j hj => ?_⟩
  have h1 := hI.2.2 j hj
  have h2 := hS.2.2.2 j (by have := hI.1; omega)
  exact ⟨h1.1.same (fun d hd => e _ (by omega) (by omega)), h1.2⟩
theorem TxtI.same {X n : Nat} {tx : Nat → Nat} {I' : Nat → Nat → Int32} (hI : TxtI I X n tx) (e0 : I' X 0 = I X 0) (e1 : I' (X + 1) = I (X + 1)) : TxtI I' X n tx :=
  ⟨hI.1, by rw [e0]; exact hI.2.1, fun j hj => by rw [e1]; exact hI.2.2 j hj⟩
theorem RatI.same {T : Nat} {a : Lg} {I' : Nat → Nat → Int32} (h : RatI I T a) (e : ∀ k, T + 13 ≤ k → k ≤ T + 20 → I' k = I k) : RatI I' T a := by
  have e13 := e (T + 13) (by omega) (by omega)
  have e14 := e (T + 14) (by omega) (by omega)
  have e15 := e (T + 15) (by omega) (by omega)
  have e16 := e (T + 16) (by omega) (by omega)
  have e17 := e (T + 17) (by omega) (by omega)
  have e18 := e (T + 18) (by omega) (by omega)
  have e19 := e (T + 19) (by omega) (by omega)
  have e20 := e (T + 20) (by omega) (by omega)
  refine ⟨⟨fun k hk => by rw [e13]; exact h.1.1 k hk, fun l hl => by rw [e14]; exact h.1.2 l hl⟩, fun l hl => by rw [e15]; exact h.2.1 l hl, fun l hl => ?_⟩
  have hl := h.2.2 l hl
  exact ⟨fun e he hE => by rw [e16]; exact hl.1 e he hE, by rw [e17]; exact hl.2.1, by rw [e18]; exact hl.2.2.1, by rw [e19]; exact hl.2.2.2.1, by rw [e20]; exact hl.2.2.2.2⟩
theorem FolI.same {T th : Nat} {a : Lg} {I' : Nat → Nat → Int32} (h : FolI I T a th) (e0 : I' T = I T) (e : ∀ k, T + 21 ≤ k → k ≤ T + 27 → I' k = I k) : FolI I' T a th := by
  have e21 := e (T + 21) (by omega) (by omega)
  have e22 := e (T + 22) (by omega) (by omega)
  have e23 := e (T + 23) (by omega) (by omega)
  have e24 := e (T + 24) (by omega) (by omega)
  have e25 := e (T + 25) (by omega) (by omega)
  have e26 := e (T + 26) (by omega) (by omega)
  have e27 := e (T + 27) (by omega) (by omega)
  refine ⟨fun x hx hxk => ?_, fun i hi => by rw [e25]; exact h.2.1 i hi, by rw [e0]; exact h.2.2.1, fun t ht => ?_⟩
  · rw [e21, e22, e23, e24]; exact h.1 x hx hxk
  · rw [e26, e27]; exact h.2.2.2 t ht
/-- what the object at 4 holds is as it was, where only other places are other -/
theorem ClI.same {I' : Nat → Nat → Int32} (hS : ClS S R q) (hI : ClI I q s) (e : ∀ k, k < 83 → I' k = I k) (e0 : I' 83 0 = I 83 0) (e1 : I' 84 = I 84) : ClI I' q s := by
  refine ⟨hI.1.same (fun d hd => e _ (by omega)), hI.2.1.same hS.2.2.1 (fun k h1 h2 => e k (by omega)), hI.2.2.1.same e0 e1, ?_, ?_⟩
  · rw [e 4 (by omega)]
    rcases hI.2.2.2.1 with h | ⟨h1, h2, h3⟩
    · exact Or.inl h
    · exact Or.inr ⟨h1, h2.same (fun k h1 h2 => e k (by omega)), h3.same (e 5 (by omega)) (fun k h1 h2 => e k (by omega))⟩
  · rw [e 1 (by omega), e 2 (by omega)]; exact hI.2.2.2.2
theorem nar_b0 : (narrow .boolean (.int 0) = .int 0 ∧ fits .boolean (.int 0) = true) := by decide +kernel
theorem nar_b1 : (narrow .boolean (.int 1) = .int 1 ∧ fits .boolean (.int 1) = true) := by decide +kernel
theorem c_cur (hS : ClS S R q) (hI : ClI I q s) (hW : WfS s) (hp : ∀ I', ClI I' q s → RatI I' 5 s.a → FolI I' 5 s.a (gs s.a 1) → FrC I I' → post (some (.inr 5)) (S, I', R)) : sp_X4_currentThreads [.inr 4] (S, I, R) post := by
  obtain ⟨⟨s4, r0, r1, r3, r4, r5, r6⟩, hT, hH, hX, hT2, ro1, ro2⟩ := id hS
  have k5 : S[5]? = some (0, 3) := hT.2.1.1
  have k6 : S[6]? = some (0, 1) := hT.1.1.1
  have k33 : S[33]? = some (0, 0) := hH.1
  have k83 : S[83]? = some (0, 2) := hX.1
  have k86 : S[86]? = some (0, 3) := hT2.2.1.1
  have k87 : S[87]? = some (0, 1) := hT2.1.1.1
  have l5 : 5 < S.length := by
    have := hT.2.1.1
    exact (List.getElem?_eq_some_iff.mp this).1
  refine ⟨Nat.le_of_ble_eq_true rfl, am_fold ?_⟩; rw [h_X4_currentThreads_0]
  simp only [↓ap_cc, ↓ap_const, ↓ap_iload, ↓ap_aload, ↓ap_istore, ↓ap_astore, ↓ap_iinc, ↓ap_bin, ↓ap_idiv, ↓ap_irem, ↓ap_callSA, ↓ap_iretA, ↓ap_zretA, ↓ap_i2c, ↓ap_dup, ↓ap_dup2, ↓ap_nn, ↓ap_ic, ↓ap_if, ↓ap_sw, ↓ap_head, ↓ap_getI, ↓ap_getR, ↓ap_putI, ↓ap_putN, ↓ap_putR, ↓ap_iald, ↓ap_cald, ↓ap_iast, ↓ap_cast, ↓ap_aald, ↓ap_aast, ↓ap_alen, ↓ap_stat, ↓ap_pop, ↓ap_mm, ↓ap_copy, ↓ap_ret, ↓ap_iret, ↓ap_zret, ↓ap_aret, ↓ap_retA, ↓ap_new, ↓ap_newa, ↓ap_callV, ↓ap_callS, ↓ap_callI, am_in, List.map_cons, List.map_nil, List.getElem?_cons_zero, List.getElem?_cons_succ, List.set_cons_zero, List.set_cons_succ, List.take_succ_cons, List.take_zero, List.drop_succ_cons, List.drop_zero, List.reverse_cons, List.reverse_nil, List.nil_append, List.cons_append, List.append_nil, List.length_cons, List.length_nil, List.replicate_succ, List.replicate_zero, Option.toList_some, Option.toList_none, true_and, and_true, Option.some.injEq, exists_eq_left', am_wI_mk, am_wA_mk, am_wR_mk, Nat.reduceAdd, Nat.reduceSub, Nat.reduceLeDiff, Nat.zero_add, Nat.le_refl, not_true_eq_false, not_false_eq_true, forall_const, false_implies, true_implies, implies_true, and_self, Prod.mk.injEq, eq_self, true_or, or_true, false_and, and_false, or_false, false_or, Nat.reduceEqDiff, ↓a_X4_currentThreads_26, ↓a_X4_currentThreads_0, s4, r0, r1, r3, r4, r5, r6, k5, k6, k33, k83, k86, k87]
  rcases hI.2.2.2.1 with h | ⟨h1, h2, h3⟩
  · rw [h]
    refine ⟨fun q => absurd q (by decide), fun _ => ?_⟩
    refine f_rateAll hT hI.1 hW.1.1 (fun I1 hR1 hf1 => ?_)
    simp only [↓ap_cc, ↓ap_const, ↓ap_iload, ↓ap_aload, ↓ap_istore, ↓ap_astore, ↓ap_iinc, ↓ap_bin, ↓ap_idiv, ↓ap_irem, ↓ap_callSA, ↓ap_iretA, ↓ap_zretA, ↓ap_i2c, ↓ap_dup, ↓ap_dup2, ↓ap_nn, ↓ap_ic, ↓ap_if, ↓ap_sw, ↓ap_head, ↓ap_getI, ↓ap_getR, ↓ap_putI, ↓ap_putN, ↓ap_putR, ↓ap_iald, ↓ap_cald, ↓ap_iast, ↓ap_cast, ↓ap_aald, ↓ap_aast, ↓ap_alen, ↓ap_stat, ↓ap_pop, ↓ap_mm, ↓ap_copy, ↓ap_ret, ↓ap_iret, ↓ap_zret, ↓ap_aret, ↓ap_retA, ↓ap_new, ↓ap_newa, ↓ap_callV, ↓ap_callS, ↓ap_callI, am_in, List.map_cons, List.map_nil, List.getElem?_cons_zero, List.getElem?_cons_succ, List.set_cons_zero, List.set_cons_succ, List.take_succ_cons, List.take_zero, List.drop_succ_cons, List.drop_zero, List.reverse_cons, List.reverse_nil, List.nil_append, List.cons_append, List.append_nil, List.length_cons, List.length_nil, List.replicate_succ, List.replicate_zero, Option.toList_some, Option.toList_none, true_and, and_true, Option.some.injEq, exists_eq_left', am_wI_mk, am_wA_mk, am_wR_mk, Nat.reduceAdd, Nat.reduceSub, Nat.reduceLeDiff, Nat.zero_add, Nat.le_refl, not_true_eq_false, not_false_eq_true, forall_const, false_implies, true_implies, implies_true, and_self, Prod.mk.injEq, eq_self, true_or, or_true, false_and, and_false, or_false, false_or, Nat.reduceEqDiff, ↓a_X4_currentThreads_26, ↓a_X4_currentThreads_0, s4, r0, r1, r3, r4, r5, r6, k5, k6, k33, k83, k86, k87]
    have hI1 : LogI I1 6 s.a := hI.1.fr hf1 (by omega)
    refine f_follow hT hI1 hW.1.1 hR1 (fun I2 hf2 hF2 => ?_)
    simp only [↓ap_cc, ↓ap_const, ↓ap_iload, ↓ap_aload, ↓ap_istore, ↓ap_astore, ↓ap_iinc, ↓ap_bin, ↓ap_idiv, ↓ap_irem, ↓ap_callSA, ↓ap_iretA, ↓ap_zretA, ↓ap_i2c, ↓ap_dup, ↓ap_dup2, ↓ap_nn, ↓ap_ic, ↓ap_if, ↓ap_sw, ↓ap_head, ↓ap_getI, ↓ap_getR, ↓ap_putI, ↓ap_putN, ↓ap_putR, ↓ap_iald, ↓ap_cald, ↓ap_iast, ↓ap_cast, ↓ap_aald, ↓ap_aast, ↓ap_alen, ↓ap_stat, ↓ap_pop, ↓ap_mm, ↓ap_copy, ↓ap_ret, ↓ap_iret, ↓ap_zret, ↓ap_aret, ↓ap_retA, ↓ap_new, ↓ap_newa, ↓ap_callV, ↓ap_callS, ↓ap_callI, am_in, List.map_cons, List.map_nil, List.getElem?_cons_zero, List.getElem?_cons_succ, List.set_cons_zero, List.set_cons_succ, List.take_succ_cons, List.take_zero, List.drop_succ_cons, List.drop_zero, List.reverse_cons, List.reverse_nil, List.nil_append, List.cons_append, List.append_nil, List.length_cons, List.length_nil, List.replicate_succ, List.replicate_zero, Option.toList_some, Option.toList_none, true_and, and_true, Option.some.injEq, exists_eq_left', am_wI_mk, am_wA_mk, am_wR_mk, Nat.reduceAdd, Nat.reduceSub, Nat.reduceLeDiff, Nat.zero_add, Nat.le_refl, not_true_eq_false, not_false_eq_true, forall_const, false_implies, true_implies, implies_true, and_self, Prod.mk.injEq, eq_self, true_or, or_true, false_and, and_false, or_false, false_or, Nat.reduceEqDiff, ↓a_X4_currentThreads_26, ↓a_X4_currentThreads_0, s4, r0, r1, r3, r4, r5, r6, k5, k6, k33, k83, k86, k87, nar_b0]
    have g1 : ∀ k, k ≠ 4 → am_u I2 4 2 0 k = I2 k := fun k hk => iu_k hk
    have g2 : ∀ k, (k < 18 ∨ 32 < k) → k ≠ 5 → I2 k = I k := fun k hk h5 => by rw [hf2.1 k h5 (by omega), hf1 k (by omega)]
    refine ⟨l5, ?_⟩
    have hR2 : RatI I2 5 s.a := hR1.frT hf2 (by omega)
    have hR3 : RatI (am_u I2 4 2 0) 5 s.a := hR2.same (fun k h1 h2 => g1 k (by omega))
    have hF3 : FolI (am_u I2 4 2 0) 5 s.a (gs s.a 1) := hF2.same (g1 5 (by omega)) (fun k h1 h2 => g1 k (by omega))
    refine hp _ ⟨hI.1.same (fun d hd => by rw [g1 _ (by omega), g2 _ (by omega) (by omega)]), hI.2.1.same hH (fun k h1 h2 => by rw [g1 _ (by omega), g2 _ (by omega) (by omega)]), hI.2.2.1.same (by rw [g1 _ (by omega), g2 _ (by omega) (by omega)]) (by rw [g1 _ (by omega), g2 _ (by omega) (by omega)]), Or.inr ⟨iu_s _ _ _ _, hR3, hF3⟩, fun j hj => by rw [g1 1 (by omega), g1 2 (by omega), g2 1 (by omega) (by omega), g2 2 (by omega) (by omega)]; exact hI.2.2.2.2 j hj⟩ hR3 hF3 (fun k hk => by rw [g1 _ (by omega), g2 _ (by omega) (by omega)])
  · rw [h1]
    exact ⟨fun _ => ⟨l5, hp I hI h2 h3 FrC.rfl⟩, fun q => absurd rfl q⟩
/-- a change begins: the state is kept, and the threads are no longer those of the log -/
theorem c_begin0 (hS : ClS S R q) (hI : ClI I q s) (hW : WfS s) (hp : ∀ I' R' q', ClS S R' q' → (∀ k, k ≠ 34 → R' k = R k) → (∀ k, (k < 33 ∨ 82 < k) → k ≠ 4 → I' k = I k) → LogI I' 6 s.a → HisI I' 33 q' (pushC s.c) (pushH s.c s.h s.a) → TxtI I' 83 s.n s.x → I' 4 2 = 1 → (∀ j, j < 8 → I' 1 j = am_t1 j ∧ I' 2 j = am_t2 j) → post none (S, I', R')) : sp_X4_beginChange [.inr 4] (S, I, R) post := by
  obtain ⟨⟨s4, r0, r1, r3, r4, r5, r6⟩, hT, hH, hX, hT2, ro1, ro2⟩ := id hS
  have k5 : S[5]? = some (0, 3) := hT.2.1.1
  have k6 : S[6]? = some (0, 1) := hT.1.1.1
  have k33 : S[33]? = some (0, 0) := hH.1
  have k83 : S[83]? = some (0, 2) := hX.1
  have k86 : S[86]? = some (0, 3) := hT2.2.1.1
  have k87 : S[87]? = some (0, 1) := hT2.1.1.1
  refine ⟨Nat.le_of_ble_eq_true rfl, am_fold ?_⟩; rw [h_X4_beginChange_0]
  simp only [↓ap_cc, ↓ap_const, ↓ap_iload, ↓ap_aload, ↓ap_istore, ↓ap_astore, ↓ap_iinc, ↓ap_bin, ↓ap_idiv, ↓ap_irem, ↓ap_callSA, ↓ap_iretA, ↓ap_zretA, ↓ap_i2c, ↓ap_dup, ↓ap_dup2, ↓ap_nn, ↓ap_ic, ↓ap_if, ↓ap_sw, ↓ap_head, ↓ap_getI, ↓ap_getR, ↓ap_putI, ↓ap_putN, ↓ap_putR, ↓ap_iald, ↓ap_cald, ↓ap_iast, ↓ap_cast, ↓ap_aald, ↓ap_aast, ↓ap_alen, ↓ap_stat, ↓ap_pop, ↓ap_mm, ↓ap_copy, ↓ap_ret, ↓ap_iret, ↓ap_zret, ↓ap_aret, ↓ap_retA, ↓ap_new, ↓ap_newa, ↓ap_callV, ↓ap_callS, ↓ap_callI, am_in, List.map_cons, List.map_nil, List.getElem?_cons_zero, List.getElem?_cons_succ, List.set_cons_zero, List.set_cons_succ, List.take_succ_cons, List.take_zero, List.drop_succ_cons, List.drop_zero, List.reverse_cons, List.reverse_nil, List.nil_append, List.cons_append, List.append_nil, List.length_cons, List.length_nil, List.replicate_succ, List.replicate_zero, Option.toList_some, Option.toList_none, true_and, and_true, Option.some.injEq, exists_eq_left', am_wI_mk, am_wA_mk, am_wR_mk, Nat.reduceAdd, Nat.reduceSub, Nat.reduceLeDiff, Nat.zero_add, Nat.le_refl, not_true_eq_false, not_false_eq_true, forall_const, false_implies, true_implies, implies_true, and_self, Prod.mk.injEq, eq_self, true_or, or_true, false_and, and_false, or_false, false_or, Nat.reduceEqDiff, ↓a_X4_beginChange_0, s4, r0, r1, r3, r4, r5, r6, k5, k6, k33, k83, k86, k87]
  refine f_keep hH hT.1 (by omega) hI.2.1 hI.1 hW.1.1 (fun I1 R1 q1 hR1 hH1 hf1 hHI1 => ?_)
  simp only [↓ap_cc, ↓ap_const, ↓ap_iload, ↓ap_aload, ↓ap_istore, ↓ap_astore, ↓ap_iinc, ↓ap_bin, ↓ap_idiv, ↓ap_irem, ↓ap_callSA, ↓ap_iretA, ↓ap_zretA, ↓ap_i2c, ↓ap_dup, ↓ap_dup2, ↓ap_nn, ↓ap_ic, ↓ap_if, ↓ap_sw, ↓ap_head, ↓ap_getI, ↓ap_getR, ↓ap_putI, ↓ap_putN, ↓ap_putR, ↓ap_iald, ↓ap_cald, ↓ap_iast, ↓ap_cast, ↓ap_aald, ↓ap_aast, ↓ap_alen, ↓ap_stat, ↓ap_pop, ↓ap_mm, ↓ap_copy, ↓ap_ret, ↓ap_iret, ↓ap_zret, ↓ap_aret, ↓ap_retA, ↓ap_new, ↓ap_newa, ↓ap_callV, ↓ap_callS, ↓ap_callI, am_in, List.map_cons, List.map_nil, List.getElem?_cons_zero, List.getElem?_cons_succ, List.set_cons_zero, List.set_cons_succ, List.take_succ_cons, List.take_zero, List.drop_succ_cons, List.drop_zero, List.reverse_cons, List.reverse_nil, List.nil_append, List.cons_append, List.append_nil, List.length_cons, List.length_nil, List.replicate_succ, List.replicate_zero, Option.toList_some, Option.toList_none, true_and, and_true, Option.some.injEq, exists_eq_left', am_wI_mk, am_wA_mk, am_wR_mk, Nat.reduceAdd, Nat.reduceSub, Nat.reduceLeDiff, Nat.zero_add, Nat.le_refl, not_true_eq_false, not_false_eq_true, forall_const, false_implies, true_implies, implies_true, and_self, Prod.mk.injEq, eq_self, true_or, or_true, false_and, and_false, or_false, false_or, Nat.reduceEqDiff, ↓a_X4_beginChange_0, s4, r0, r1, r3, r4, r5, r6, k5, k6, k33, k83, k86, k87, nar_b1]
  have g1 : ∀ k, k ≠ 4 → am_u I1 4 2 1 k = I1 k := fun k hk => iu_k hk
  have g2 : ∀ k, (k < 33 ∨ 82 < k) → I1 k = I k := fun k hk => hf1 k (by omega)
  refine hp _ R1 q1 ⟨⟨s4, by rw [hR1 4 (by omega)]; exact r0, by rw [hR1 4 (by omega)]; exact r1, by rw [hR1 4 (by omega)]; exact r3, by rw [hR1 4 (by omega)]; exact r4, by rw [hR1 4 (by omega)]; exact r5, by rw [hR1 4 (by omega)]; exact r6⟩, ?_, hH1, ?_, ?_, ro1, ro2⟩ (fun k hk => hR1 k (by omega)) (fun k hk hk4 => by rw [g1 k hk4, g2 k hk]) (hI.1.same (fun d hd => by rw [g1 _ (by omega), g2 _ (by omega)])) (hHI1.same hH1 (fun k h1 h2 => g1 k (by omega))) (hI.2.2.1.same (by rw [g1 _ (by omega), g2 _ (by omega)]) (by rw [g1 _ (by omega), g2 _ (by omega)])) (iu_s _ _ _ _) (fun j hj => by rw [g1 1 (by omega), g1 2 (by omega), g2 1 (by omega), g2 2 (by omega)]; exact hI.2.2.2.2 j hj)
  · exact ⟨hT.1.sameR (hR1 6 (by omega)), hT.2.1, by rw [hR1 5 (by omega)]; exact hT.2.2⟩
  · exact ⟨hX.1, hX.2.1, hX.2.2.1, by rw [hR1 83 (by omega)]; exact hX.2.2.2.1, by rw [hR1 83 (by omega)]; exact hX.2.2.2.2⟩
  · exact ⟨hT2.1.sameR (hR1 87 (by omega)), hT2.2.1, by rw [hR1 86 (by omega)]; exact hT2.2.2⟩
theorem c_begin (hS : ClS S R q) (hI : ClI I q s) (hW : WfS s) (hp : ∀ I' R' q', ClS S R' q' → (∀ k, k ≠ 34 → R' k = R k) → FrC I I' → LogI I' 6 s.a → HisI I' 33 q' (pushC s.c) (pushH s.c s.h s.a) → TxtI I' 83 s.n s.x → I' 4 2 = 1 → (∀ j, j < 8 → I' 1 j = am_t1 j ∧ I' 2 j = am_t2 j) → post none (S, I', R')) : sp_X4_beginChange [.inr 4] (S, I, R) post :=
  c_begin0 hS hI hW (fun I1 R1 q1 h1 h2 h3 h4 h5 h6 h7 h8 => hp I1 R1 q1 h1 h2 (fun k hk => h3 k (by omega) (by omega)) h4 h5 h6 h7 h8)
