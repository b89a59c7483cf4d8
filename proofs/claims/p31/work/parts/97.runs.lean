-- needs: 10 11 12 13 14 15 20 21 22 23 30 31 32 33 34 35 36 37 38 40 41 42 50 51 52 53 54 55 56 57 58 59 60 61 64 65 66 67 68 69 70 71 72 73 74 95a 95b 95c 95d 95e 95f 95g 95h 95i 95j 95k 95l 90 91 92 93 94 96
variable {S : List (Nat × Nat)} {R : Nat → Nat → Option Nat} {I : Nat → Nat → Int32} {n z o : Nat} {K : am_K} {Q : am_R} {k : am_T} {lr : List (Option am_V)} {bc bs : Nat}
/-- an object is made for the law -/
theorem st_mk (c : Nat) {mc ms : Nat} {sp : am_sp} (b1 : S.length = n) (b2 : am_sz S = z) (b3 : Fz S I R) (ho : o < n) (hb : n + 1 + mc ≤ bc) (hs : z + am_nf c + ms ≤ bs) (hl : ∀ q : Nat, some (Sum.inr q) ∈ lr → q < n) (hk : Bd (n + 1) (z + am_nf c) (S ++ [(0, c)]) I R n c → sp [.inr n] (S ++ [(0, c)], I, R) (fun r M' => k (some (.inr o) :: lr) (r.toList ++ [.inr n]) M' K Q)) : (tb_new bc bs c <| tb_dup <| tb_callI bc bs mc ms sp 1 <| k) (some (.inr o) :: lr) [] (S, I, R) K Q := by
  have hlen : (S ++ [(0, c)]).length = n + 1 := by rw [List.length_append, b1]; rfl
  have hz : am_sz (S ++ [(0, c)]) = z + am_nf c := by
    rw [sz_app, b2]; rfl
  refine ⟨⟨by show S.length + 1 ≤ bc; omega, by show am_sz S + am_nf c ≤ bs; omega, all_i (by omega) (fun q hq => by have := hl q hq; omega) (fun q hq => by simp at hq)⟩, ?_⟩
  show (1 ≤ 2 ∧ 1 ≤ 8 ∧ (am_new (S, I, R) (0, c)).1.length + mc ≤ bc ∧ am_sz (am_new (S, I, R) (0, c)).1 + ms ≤ bs ∧ am_all (am_new (S, I, R) (0, c)) (some (.inr o) :: lr) [.inr S.length]) ∧ sp [.inr S.length] (am_new (S, I, R) (0, c)) (fun r M' => k (some (.inr o) :: lr) (r.toList ++ [.inr S.length]) M' K Q)
  rw [new_mk _ b3, b1]
  refine ⟨⟨by decide, by decide, by show (S ++ [(0, c)]).length + mc ≤ bc; omega, by show am_sz (S ++ [(0, c)]) + ms ≤ bs; omega, all_i (by omega) (fun q hq => by have := hl q hq; omega) (fun q hq => ?_)⟩, hk ⟨hlen, hz, b3.app _, ?_, by omega⟩⟩
  · simp only [List.mem_cons, Sum.inr.injEq, List.not_mem_nil, or_false] at hq; omega
  · exact (at_r b1 (i := 0) (by omega)).trans rfl
/-- the law runs to its end, with 1 -/
theorem law_runs {L : Nat} {xs : Nat → Int32} (hL : L ≤ 260) : am_OK (h_L_law (4 + 600000) (am_sz (am_M0 L xs).1 + 7302250)) (fun r _ => r = some (.inl 1)) 0 (am_in 10 [.inr 3]) (am_M0 L xs) := by
  obtain ⟨S, hS⟩ : ∃ S : List (Nat × Nat), S = [(4, 8), (4, 8), (4, 8), (4, L)] := ⟨_, rfl⟩
  obtain ⟨z, hz⟩ : ∃ z, am_sz S = z := ⟨_, rfl⟩
  have hl : S.length = 4 := by rw [hS]; rfl
  have h0 : S[0]? = some (4, 8) := by rw [hS]; rfl
  have h1 : S[1]? = some (4, 8) := by rw [hS]; rfl
  have h2 : S[2]? = some (4, 8) := by rw [hS]; rfl
  have h3 : S[3]? = some (4, L) := by rw [hS]; rfl
  have hM : am_M0 L xs = (S, am_I0 xs, fun _ _ => none) := by rw [hS]; rfl
  have hf : Fz S (am_I0 xs) (fun _ _ => none) := fun k hk => ⟨by
    unfold am_I0
    rw [if_neg (by omega), if_neg (by omega), if_neg (by omega), if_neg (by omega)], rfl⟩
  have nf4 : am_nf 4 = 7 := rfl
  rw [hM]
  show am_OK (h_L_law (4 + 600000) (am_sz S + 7302250)) _ 0 [some (.inr 3), none, none, none, none, none, none, none, none, none] _
  rw [hz]
  refine am_fold ?_
  rw [h_L_law_0, a_L_law_0]
  refine st_mk 4 hl hz hf (by decide) (by decide) (by omega) (fun q hq => by simp at hq) (fun hB => ?_)
  have e1 : Ext S (S ++ [(0, 4)]) := Ext.app _
  refine j_X4 hB (hf 4 (by omega)).1 (e1 _ _ h0) (e1 _ _ h1) (e1 _ _ h2) (fun j _ => rfl) (fun j _ => ⟨rfl, rfl⟩) (fun S1 I1 R1 x1 l1 z1 hi1 hF1 hC1 hI1 => ?_)
  refine (show (tb_const 11 <| tb_newa (4 + 600000) (z + 7302250) 1 <| tb_astore 2 <| _) [some (.inr 3), some (.inr 4), none, none, none, none, none, none, none, none] [] (S1, I1, R1) _ _ from ?_)
  refine lw_row 11 rfl (by decide) hF1 (by omega) (by omega) (fun x hx => ?_) ?_
  · simp only [List.mem_cons, Option.some.injEq, Sum.inr.injEq, List.not_mem_nil, or_false, reduceCtorEq] at hx
    omega
  have l2 : (S1 ++ [(1, 11)]).length = 115 := by rw [List.length_append, l1]; rfl
  have z2 : am_sz (S1 ++ [(1, 11)]) = z + 7 + 4200 + 11 := by rw [sz_row, z1, nf4]
  rw [l1]
  refine lw_row 24 rfl (by decide) (hF1.app _) (by omega) (by omega) (fun x hx => ?_) ?_
  · simp only [List.set_cons_succ, List.set_cons_zero, List.mem_cons, Option.some.injEq, Sum.inr.injEq, List.not_mem_nil, or_false, reduceCtorEq] at hx
    omega
  have l3 : (S1 ++ [(1, 11)] ++ [(1, 24)]).length = 116 := by rw [List.length_append, l2]; rfl
  have z3 : am_sz (S1 ++ [(1, 11)] ++ [(1, 24)]) = z + 7 + 4200 + 35 := by rw [sz_row, z2]
  rw [l2]
  refine lw_row 48 rfl (by decide) ((hF1.app _).app _) (by omega) (by omega) (fun x hx => ?_) ?_
  · simp only [List.set_cons_succ, List.set_cons_zero, List.mem_cons, Option.some.injEq, Sum.inr.injEq, List.not_mem_nil, or_false, reduceCtorEq] at hx
    omega
  have l4 : (S1 ++ [(1, 11)] ++ [(1, 24)] ++ [(1, 48)]).length = 117 := by rw [List.length_append, l3]; rfl
  have z4 : am_sz (S1 ++ [(1, 11)] ++ [(1, 24)] ++ [(1, 48)]) = z + 7 + 4200 + 83 := by rw [sz_row, z3]
  rw [l3]
  refine lw_row 18 rfl (by decide) (((hF1.app _).app _).app _) (by omega) (by omega) (fun x hx => ?_) ?_
  · simp only [List.set_cons_succ, List.set_cons_zero, List.mem_cons, Option.some.injEq, Sum.inr.injEq, List.not_mem_nil, or_false, reduceCtorEq] at hx
    omega
  rw [l4]
  obtain ⟨S5, hS5⟩ : ∃ S5, S5 = S1 ++ [(1, 11)] ++ [(1, 24)] ++ [(1, 48)] ++ [(1, 18)] := ⟨_, rfl⟩
  rw [← hS5]
  have x5 : Ext S1 S5 := by rw [hS5]; exact (((Ext.app _).tr (Ext.app _)).tr (Ext.app _)).tr (Ext.app _)
  have l5 : S5.length = 118 := by rw [hS5, List.length_append, l4]; rfl
  have z5 : am_sz S5 = z + 4308 := by rw [hS5, sz_row, z4]
  have hF5 : Fz S5 I1 R1 := by rw [hS5]; exact (((hF1.app _).app _).app _).app _
  have g0 : S5[114]? = some (1, 11) := by rw [hS5]; exact app_at (app_at (app_at ((at_r l1 (i := 0) (by omega)).trans rfl)))
  have g1 : S5[115]? = some (1, 24) := by rw [hS5]; exact app_at (app_at ((at_r l2 (i := 0) (by omega)).trans rfl))
  have g2 : S5[116]? = some (1, 48) := by rw [hS5]; exact app_at ((at_r l3 (i := 0) (by omega)).trans rfl)
  have g3 : S5[117]? = some (1, 18) := by rw [hS5]; exact (at_r l4 (i := 0) (by omega)).trans rfl
  simp only [↓ap_cc, ↓ap_const, ↓ap_iload, ↓ap_aload, ↓ap_istore, ↓ap_astore, ↓ap_iinc, ↓ap_bin, ↓ap_idiv, ↓ap_irem, ↓ap_callSA, ↓ap_iretA, ↓ap_zretA, ↓ap_i2c, ↓ap_dup, ↓ap_dup2, ↓ap_nn, ↓ap_ic, ↓ap_if, ↓ap_sw, ↓ap_head, ↓ap_getI, ↓ap_getR, ↓ap_putI, ↓ap_putN, ↓ap_putR, ↓ap_iald, ↓ap_cald, ↓ap_iast, ↓ap_cast, ↓ap_aald, ↓ap_aast, ↓ap_alen, ↓ap_stat, ↓ap_pop, ↓ap_mm, ↓ap_copy, ↓ap_ret, ↓ap_iret, ↓ap_zret, ↓ap_aret, ↓ap_retA, ↓ap_new, ↓ap_newa, ↓ap_callV, ↓ap_callS, ↓ap_callI, am_in, List.map_cons, List.map_nil, List.getElem?_cons_zero, List.getElem?_cons_succ, List.set_cons_zero, List.set_cons_succ, List.take_succ_cons, List.take_zero, List.drop_succ_cons, List.drop_zero, List.reverse_cons, List.reverse_nil, List.nil_append, List.cons_append, List.append_nil, List.length_cons, List.length_nil, List.replicate_succ, List.replicate_zero, Option.toList_some, Option.toList_none, true_and, and_true, Option.some.injEq, exists_eq_left', am_wI_mk, am_wA_mk, am_wR_mk, Nat.reduceAdd, Nat.reduceSub, Nat.reduceLeDiff, Nat.zero_add, Nat.le_refl, not_true_eq_false, not_false_eq_true, forall_const, false_implies, true_implies, implies_true, and_self, Prod.mk.injEq, eq_self, true_or, or_true, false_and, and_false, or_false, false_or, Nat.reduceEqDiff, g0, arr1 g0]
  try simp (disch := omega) only [nm1, nm1', nsub1, np1, npd, nadd, n0m1, m1lt, nlt0, nge0, ngt0, nle0, nlt, nle, neq, neq0, m1n, m4n, vpn, vcl, ne_eq, bI_0, bI_1, bI_01, lit01, lit00, oI_s, oI_n, true_and, and_true, not_true_eq_false, not_false_eq_true, true_implies, false_implies, and_self, implies_true, forall_const, Bool.not_eq_false, Bool.not_eq_true, iu_s, iu_k1, iu_j1, ia_s1, ia_k1, lt2, lt3, lt5, lt6, lt7, lt8, lt9, lt10, lt11, lt12, lt13, lt15, lt16, lt17, lt20, lt26, lt30, lt32, lt36, lt50, lt60, lt64, lt100, lt300, lt400, lt500, lt1000, lt65536, lt100001, lt10000000, lt48, lt57, lt71, lt80, lt97, lt98, lt108, lt110, lt126, lt191, lt200, lt227, lt681, lt832, lt7919, lt1000000, lt18, lt45, lt65535, lt100000, decide_eq_true_eq, decide_eq_false_iff_not, Nat.le_refl, true_or, or_true, eq_self, vpn0, vcl0, vpn1, vcl1, lt4]
  obtain ⟨I5, hI5⟩ : ∃ I5, I5 = am_u (am_u (am_u (am_u (am_u (am_u (am_u (am_u I1 114 0 600) 114 1 20) 114 2 40) 114 3 25) 114 4 10) 114 5 15) 114 6 30) 114 7 5 := ⟨_, rfl⟩
  have i5 : ∀ k, k ≠ 114 → I5 k = I1 k := fun k hk => by rw [hI5]; simp only [iu_k hk]
  have i114 : I1 114 = fun _ => 0 := (hF1 114 (by omega)).1
  have hC5 : ClS S5 R1 _ := hC1.ext x5
  have hCI5 : ClI I5 _ st0 := hI1.same hC1 (fun k hk => i5 k (by omega)) (by rw [i5 83 (by decide)]) (i5 84 (by decide))
  have L5 : LwI I5 lg0 := by
    refine ⟨⟨?_, ?_, ?_, fun j hj => ?_⟩, fun j w hj => absurd hj (Nat.not_lt_zero _), fun j w hj => absurd hj (Nat.not_lt_zero _), fun j w hj => absurd hj (Nat.not_lt_zero _), fun j hj => absurd hj (Nat.not_lt_zero _)⟩
    · rw [hI5]; simp only [iu_i, Nat.reduceEqDiff, if_false, i114]; rfl
    · rw [hI5]; simp only [iu_i, Nat.reduceEqDiff, if_false, i114]; rfl
    · rw [hI5]; simp only [iu_i, Nat.reduceEqDiff, if_false, i114]; rfl
    · rw [hI5]; simp only [iu_i]
      rcases (by omega : j = 0 ∨ j = 1 ∨ j = 2 ∨ j = 3 ∨ j = 4 ∨ j = 5 ∨ j = 6 ∨ j = 7) with rfl | rfl | rfl | rfl | rfl | rfl | rfl | rfl <;> rfl
  have hF6 : Fz S5 I5 R1 := fun k hk => ⟨by rw [i5 k (by omega)]; exact (hF5 k hk).1, (hF5 k hk).2⟩
  have hV5 : LwV S5 I5 R1 _ st0 := ⟨⟨g0, g1, g2, g3⟩, L5, hC5, hCI5, WfS_0, ⟨Nat.zero_le _, Nat.zero_le _, Nat.zero_le _, fun j hj => absurd hj (Nat.not_lt_zero _)⟩, rfl⟩
  have s3 : S5[3]? = some (4, L) := x5 _ _ (x1 _ _ (e1 _ _ h3))
  have hall : am_all (S5, I5, R1) [some (.inr 3), some (.inr 4), some (.inr 114), some (.inr 115), some (.inr 116), some (.inr 117), none, none, none, none] [] := by
    refine ⟨fun j x hx => ?_, fun x hx => by simp at hx⟩
    have hx := List.mem_of_getElem? hx
    simp only [List.mem_cons, Option.some.injEq, Sum.inr.injEq, List.not_mem_nil, or_false, reduceCtorEq] at hx
    show x < S5.length
    omega
  rw [show am_u (am_u (am_u (am_u (am_u (am_u (am_u (am_u I1 114 0 600) 114 1 (nI 20)) 114 2 40) 114 3 25) 114 4 (nI 10)) 114 5 (nI 15)) 114 6 (nI 30)) 114 7 (nI 5) = I5 from hI5.symm]
  refine ⟨⟨by omega, by omega, hall⟩, l_isSo hV5 hF6 l5 (by decide) z5 (fun S6 I6 x6 l6 z6 hF7 hV6 hi3 => ?_)⟩
  simp only [↓ap_cc, ↓ap_const, ↓ap_iload, ↓ap_aload, ↓ap_istore, ↓ap_astore, ↓ap_iinc, ↓ap_bin, ↓ap_idiv, ↓ap_irem, ↓ap_callSA, ↓ap_iretA, ↓ap_zretA, ↓ap_i2c, ↓ap_dup, ↓ap_dup2, ↓ap_nn, ↓ap_ic, ↓ap_if, ↓ap_sw, ↓ap_head, ↓ap_getI, ↓ap_getR, ↓ap_putI, ↓ap_putN, ↓ap_putR, ↓ap_iald, ↓ap_cald, ↓ap_iast, ↓ap_cast, ↓ap_aald, ↓ap_aast, ↓ap_alen, ↓ap_stat, ↓ap_pop, ↓ap_mm, ↓ap_copy, ↓ap_ret, ↓ap_iret, ↓ap_zret, ↓ap_aret, ↓ap_retA, ↓ap_new, ↓ap_newa, ↓ap_callV, ↓ap_callS, ↓ap_callI, am_in, List.map_cons, List.map_nil, List.getElem?_cons_zero, List.getElem?_cons_succ, List.set_cons_zero, List.set_cons_succ, List.take_succ_cons, List.take_zero, List.drop_succ_cons, List.drop_zero, List.reverse_cons, List.reverse_nil, List.nil_append, List.cons_append, List.append_nil, List.length_cons, List.length_nil, List.replicate_succ, List.replicate_zero, Option.toList_some, Option.toList_none, true_and, and_true, Option.some.injEq, exists_eq_left', am_wI_mk, am_wA_mk, am_wR_mk, Nat.reduceAdd, Nat.reduceSub, Nat.reduceLeDiff, Nat.zero_add, Nat.le_refl, not_true_eq_false, not_false_eq_true, forall_const, false_implies, true_implies, implies_true, and_self, Prod.mk.injEq, eq_self, true_or, or_true, false_and, and_false, or_false, false_or, Nat.reduceEqDiff, g0]
  exact law_87 (Z := z + 4380) hL (by decide) (by omega) (fun _ => rfl) l6 (by omega) 0 (by decide) I6 R1 _ st0 none none ⟨hV6, x6 _ _ s3, hF7, by omega⟩
