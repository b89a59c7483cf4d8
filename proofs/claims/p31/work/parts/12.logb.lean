variable {S : List (Nat × Nat)} {R : Nat → Nat → Option Nat} {I : Nat → Nat → Int32} {L : Nat} {a : Lg} {post : am_R}
theorem LogI.t (h : LogI I L a) : I L 0 = nI (gt a) := h.1.1
theorem LogI.n (h : LogI I L a) : I L 4 = nI (gn a) := h.1.2.1
theorem LogI.k (h : LogI I L a) : I L 9 = nI (gk a) := h.1.2.2
theorem LogI.T0 (h : LogI I L a) {j : Nat} (hj : j < gt a) : I (L + 1) j = nI (gT a 0 j) := (h.2.1 j hj).1
theorem LogI.T1 (h : LogI I L a) {j : Nat} (hj : j < gt a) : I (L + 2) j = nI (gT a 1 j) := (h.2.1 j hj).2.1
theorem LogI.T2 (h : LogI I L a) {j : Nat} (hj : j < gt a) : I (L + 3) j = nI (gT a 2 j) := (h.2.1 j hj).2.2
theorem LogI.L0 (h : LogI I L a) {j : Nat} (hj : j < gn a) : I (L + 4) j = nI (gL a 0 j) := (h.2.2.1 j hj).1
theorem LogI.L1 (h : LogI I L a) {j : Nat} (hj : j < gn a) : I (L + 5) j = nI (gL a 1 j) := (h.2.2.1 j hj).2.1
theorem LogI.L2 (h : LogI I L a) {j : Nat} (hj : j < gn a) : I (L + 6) j = nI (gL a 2 j) := (h.2.2.1 j hj).2.2.1
theorem LogI.L3 (h : LogI I L a) {j : Nat} (hj : j < gn a) : I (L + 7) j = nI (gL a 3 j) := (h.2.2.1 j hj).2.2.2
theorem LogI.F0 (h : LogI I L a) {j : Nat} (hj : j < gk a) : I (L + 8) j = nI (gF a 0 j) := (h.2.2.2.1 j hj).1
theorem LogI.F1 (h : LogI I L a) {j : Nat} (hj : j < gk a) : I (L + 9) j = nI (gF a 1 j) := (h.2.2.2.1 j hj).2.1
/-- the earlier line of a correction as a number; z where there is none -/
def eI (z : Int32) (a : Lg) (j : Nat) : Int32 := if gF a 0 j = 0 then z else nI (gF a 2 j)
theorem LogI.F2 (h : LogI I L a) {j : Nat} (hj : j < gk a) : I (L + 10) j = eI (-1) a j := (h.2.2.2.1 j hj).2.2
theorem LogI.s (h : LogI I L a) {j : Nat} (hj : j < 8) : I (L + 11) j = nI (gs a j) := h.2.2.2.2 j hj
theorem LogI.mk (ht : I L 0 = nI (gt a)) (hn : I L 4 = nI (gn a)) (hk : I L 9 = nI (gk a)) (T0 : ∀ j, j < gt a → I (L + 1) j = nI (gT a 0 j)) (T1 : ∀ j, j < gt a → I (L + 2) j = nI (gT a 1 j)) (T2 : ∀ j, j < gt a → I (L + 3) j = nI (gT a 2 j)) (L0 : ∀ j, j < gn a → I (L + 4) j = nI (gL a 0 j)) (L1 : ∀ j, j < gn a → I (L + 5) j = nI (gL a 1 j)) (L2 : ∀ j, j < gn a → I (L + 6) j = nI (gL a 2 j)) (L3 : ∀ j, j < gn a → I (L + 7) j = nI (gL a 3 j)) (F0 : ∀ j, j < gk a → I (L + 8) j = nI (gF a 0 j)) (F1 : ∀ j, j < gk a → I (L + 9) j = nI (gF a 1 j)) (F2 : ∀ j, j < gk a → I (L + 10) j = eI (-1) a j) (s : ∀ j, j < 8 → I (L + 11) j = nI (gs a j)) : LogI I L a :=
  ⟨⟨ht, hn, hk⟩, fun j hj => ⟨T0 j hj, T1 j hj, T2 j hj⟩, fun j hj => ⟨L0 j hj, L1 j hj, L2 j hj, L3 j hj⟩, fun j hj => ⟨F0 j hj, F1 j hj, F2 j hj⟩, s⟩
theorem LgB.t (h : LgB a) : gt a ≤ 20 := h.1.1
theorem LgB.n (h : LgB a) : gn a ≤ 30 := h.1.2.1
theorem LgB.k (h : LgB a) : gk a ≤ 12 := h.1.2.2
theorem LgB.Tn (h : LgB a) {j : Nat} (hj : j < gt a) : gT a 0 j < 12 ∧ gT a 1 j < 16 ∧ gT a 2 j ≤ 100000 := h.2.1 j hj
theorem LgB.Ln (h : LgB a) {j : Nat} (hj : j < gn a) : gL a 0 j ≤ 100000 ∧ gL a 1 j < 12 ∧ gL a 2 j ≤ 65535 ∧ gL a 3 j ≤ 65535 := h.2.2.1 j hj
theorem LgB.Fn (h : LgB a) {j : Nat} (hj : j < gk a) : gF a 0 j ≤ 2 ∧ gF a 1 j < gn a ∧ (gF a 0 j ≠ 0 → gF a 2 j < gn a ∧ gE a (gF a 2 j) (gF a 1 j)) := h.2.2.2.1 j hj
theorem LgB.s (h : LgB a) : gs a 0 ≤ 100000 ∧ gs a 1 ≤ 200 ∧ gs a 2 ≤ 100 ∧ gs a 3 ≤ 100 ∧ gs a 4 ≤ 50 ∧ gs a 5 ≤ 100 ∧ 1 ≤ gs a 6 ∧ gs a 6 ≤ 1000 ∧ gs a 7 ≤ 100 := h.2.2.2.2
theorem eI_eq (hB : LgB a) {j x : Nat} (hj : j < gk a) (hx : x < 2147483648) : eI (-1) a j = nI x ↔ (gF a 0 j ≠ 0 ∧ gF a 2 j = x) := by
  unfold eI
  have h := hB.Fn hj
  have h1 := hB.n
  by_cases h0 : gF a 0 j = 0
  · rw [if_pos h0]; exact ⟨fun q => ((m1n hx).mp q.symm).elim, fun q => absurd h0 q.1⟩
  · rw [if_neg h0, neq (by have := h.2.2 h0; omega) hx]; exact ⟨fun q => ⟨h0, q⟩, fun q => q.2⟩
theorem iu_all (k j k' j' : Nat) (x : Int32) : am_u I k j x k' j' = if k' = k ∧ j' = j then x else I k' j' := by
  by_cases h : k' = k
  · subst h
    by_cases h2 : j' = j
    · subst h2; simp [iu_s]
    · simp [iu_j h2, h2]
  · simp [iu_k h, h]
theorem ia_all (k k' j' : Nat) (f : Nat → Int32) : am_ua I k f k' j' = if k' = k then f j' else I k' j' := by
  by_cases h : k' = k
  · subst h; simp [ia_s]
  · simp [ia_k h, h]
/-- nothing outside the places lo to hi is other -/
def Fr (lo hi : Nat) (I I' : Nat → Nat → Int32) : Prop := ∀ k, k < lo ∨ hi < k → I' k = I k
theorem Fr.rfl {lo hi : Nat} : Fr lo hi I I := fun _ _ => Eq.refl _
theorem Fr.tr {lo hi : Nat} {I' I'' : Nat → Nat → Int32} (h : Fr lo hi I I') (h' : Fr lo hi I' I'') : Fr lo hi I I'' := fun k hk => (h' k hk).trans (h k hk)
theorem Fr.wide {lo hi lo' hi' : Nat} {I' : Nat → Nat → Int32} (h : Fr lo hi I I') (h1 : lo' ≤ lo) (h2 : hi ≤ hi') : Fr lo' hi' I I' := fun k hk => h k (by omega)
theorem Fr.u {lo hi k j : Nat} {x : Int32} {I' : Nat → Nat → Int32} (h : Fr lo hi I I') (h1 : lo ≤ k) (h2 : k ≤ hi) : Fr lo hi I (am_u I' k j x) := fun k' hk => (iu_k (by omega)).trans (h k' hk)
theorem Fr.ua {lo hi k : Nat} {f : Nat → Int32} {I' : Nat → Nat → Int32} (h : Fr lo hi I I') (h1 : lo ≤ k) (h2 : k ≤ hi) : Fr lo hi I (am_ua I' k f) := fun k' hk => (ia_k (by omega)).trans (h k' hk)
theorem LogI.same {I' : Nat → Nat → Int32} (h : LogI I L a) (e : ∀ d, d < 12 → I' (L + d) = I (L + d)) : LogI I' L a := by
  refine LogI.mk ?_ ?_ ?_ ?_ ?_ ?_ ?_ ?_ ?_ ?_ ?_ ?_ ?_ ?_
  · rw [show L = L + 0 from Eq.refl _, e 0 (by omega)]; exact h.t
  · rw [show L = L + 0 from Eq.refl _, e 0 (by omega)]; exact h.n
  · rw [show L = L + 0 from Eq.refl _, e 0 (by omega)]; exact h.k
  · intro j hj; rw [e 1 (by omega)]; exact h.T0 hj
  · intro j hj; rw [e 2 (by omega)]; exact h.T1 hj
  · intro j hj; rw [e 3 (by omega)]; exact h.T2 hj
  · intro j hj; rw [e 4 (by omega)]; exact h.L0 hj
  · intro j hj; rw [e 5 (by omega)]; exact h.L1 hj
  · intro j hj; rw [e 6 (by omega)]; exact h.L2 hj
  · intro j hj; rw [e 7 (by omega)]; exact h.L3 hj
  · intro j hj; rw [e 8 (by omega)]; exact h.F0 hj
  · intro j hj; rw [e 9 (by omega)]; exact h.F1 hj
  · intro j hj; rw [e 10 (by omega)]; exact h.F2 hj
  · intro j hj; rw [e 11 (by omega)]; exact h.s hj
theorem LogI.fr {I' : Nat → Nat → Int32} {lo hi : Nat} (h : LogI I L a) (hf : Fr lo hi I I') (hL : L + 11 < lo ∨ hi < L) : LogI I' L a := h.same (fun d hd => hf (L + d) (by omega))
/-- from the last place down: what holds at n, and goes from i + 1 to i, holds at every i -/
theorem dn {P : Nat → Prop} (n : Nat) (hn : P n) (hs : ∀ i, i < n → P (i + 1) → P i) : ∀ i, i ≤ n → P i := by
  have h : ∀ d i, i + d = n → P i := by
    intro d
    induction d with
    | zero => intro i hi; obtain rfl : i = n := by omega
              exact hn
    | succ d ih => intro i hi; exact hs i (by omega) (ih (i + 1) (by omega))
  intro i hi
  exact h (n - i) i (by omega)
theorem sbit (s j p : Nat) : (s ||| 2 ^ j).testBit p = (s.testBit p || decide (j = p)) := by
  rw [Nat.testBit_or, Nat.testBit_two_pow]
theorem sand (s j : Nat) : s &&& 2 ^ j = if s.testBit j then 2 ^ j else 0 := by
  apply Nat.eq_of_testBit_eq
  intro i
  rw [Nat.testBit_and, Nat.testBit_two_pow]
  by_cases h : j = i
  · subst h
    cases hb : s.testBit j
    · simp
    · simp
  · cases hb : s.testBit j <;> simp [h]
theorem nb_tst {s j : Nat} (hs : s < 2147483648) (hj : j < 31) : nI s &&& (1 <<< (nI j &&& 31)) = 0 ↔ s.testBit j = false := by
  rw [nb_1shl hj, nb_and, sand]
  cases hb : s.testBit j
  · simp; decide
  · simp only [if_true]
    have : 2 ^ j < 2147483648 := Nat.pow_lt_pow_right (m := j) (n := 31) (by decide) hj
    rw [neq0 this]
    have := Nat.two_pow_pos j
    simp; try omega
theorem nb_set {s j : Nat} (hj : j < 31) : nI s ||| (1 <<< (nI j &&& 31)) = nI (s ||| 2 ^ j) := by
  rw [nb_1shl hj, nb_or]
theorem sor_lt {s j n : Nat} (hs : s < 2 ^ n) (hj : j < n) : s ||| 2 ^ j < 2 ^ n := Nat.or_lt_two_pow hs (Nat.pow_lt_pow_right (by decide) hj)
/-- whether person p, by the name taken last by then (of m takes), is named in line l -/
def gPb (a : Lg) (l p m : Nat) : Bool := match gN a p (gL a 0 l) m with
  | none => false
  | some nm => (gL a 2 l).testBit nm
theorem gPb_0 (a : Lg) (l p : Nat) : gPb a l p 0 = false := rfl
theorem gPb_s (a : Lg) (l p m : Nat) : gPb a l p (m + 1) = if gT a 0 m = p ∧ gT a 2 m ≤ gL a 0 l then (gL a 2 l).testBit (gT a 1 m) else gPb a l p m := by
  unfold gPb
  rw [gN]
  by_cases h : gT a 0 m = p ∧ gT a 2 m ≤ gL a 0 l
  · rw [if_pos h, if_pos h]
  · rw [if_neg h, if_neg h]
/-- the persons named in line l -/
def gP (a : Lg) (l : Nat) : Nat := bts (fun p => gPb a l p (gt a)) 12
theorem f_personsNamedIn {l : Nat} (hS : LogS S R L) (hI : LogI I L a) (hB : LgB a) (hl : l < gn a) (hp : post (some (.inl (nI (gP a l)))) (S, I, R)) : sp_X1_personsNamedIn [.inr L, .inl (nI l)] (S, I, R) post := by
  obtain ⟨⟨s0, s1, s2, s3, s4, s5, s6, -⟩, r1, r2, r3, r4, r5, r6, -⟩ := id hS
  have bn := hB.n
  have bt := hB.t
  have bl := hB.Ln hl
  have loop : ∀ m q s (o : Option am_V), m ≤ gt a → q < 4096 → s < 4096 → (∀ p, q.testBit p = true → s.testBit p = true) → (∀ p, p < 12 → gPb a l p (gt a) = if s.testBit p then q.testBit p else gPb a l p m) → am_OK h_X1_personsNamedIn post 12 [some (.inr L), some (.inl (nI l)), some (.inl (nI q)), some (.inl (nI s)), some (.inl (nI m - 1)), o] (S, I, R) := by
    intro m
    induction m with
    | zero =>
      intro q s o _ hq hs hqs hG
      apply am_fold; rw [h_X1_personsNamedIn_12]
      simp only [↓ap_cc, ↓ap_const, ↓ap_iload, ↓ap_aload, ↓ap_istore, ↓ap_astore, ↓ap_iinc, ↓ap_bin, ↓ap_idiv, ↓ap_irem, ↓ap_callSA, ↓ap_iretA, ↓ap_zretA, ↓ap_i2c, ↓ap_dup, ↓ap_dup2, ↓ap_nn, ↓ap_ic, ↓ap_if, ↓ap_sw, ↓ap_head, ↓ap_getI, ↓ap_getR, ↓ap_putI, ↓ap_putN, ↓ap_putR, ↓ap_iald, ↓ap_cald, ↓ap_iast, ↓ap_cast, ↓ap_aald, ↓ap_aast, ↓ap_alen, ↓ap_stat, ↓ap_pop, ↓ap_mm, ↓ap_copy, ↓ap_ret, ↓ap_iret, ↓ap_zret, ↓ap_aret, ↓ap_retA, ↓ap_new, ↓ap_newa, ↓ap_callV, ↓ap_callS, ↓ap_callI, am_in, List.map_cons, List.map_nil, List.getElem?_cons_zero, List.getElem?_cons_succ, List.set_cons_zero, List.set_cons_succ, List.take_succ_cons, List.take_zero, List.drop_succ_cons, List.drop_zero, List.reverse_cons, List.reverse_nil, List.nil_append, List.cons_append, List.append_nil, List.length_cons, List.length_nil, List.replicate_succ, List.replicate_zero, Option.toList_some, Option.toList_none, true_and, and_true, Option.some.injEq, exists_eq_left', am_wI_mk, am_wA_mk, am_wR_mk, Nat.reduceAdd, Nat.reduceSub, Nat.reduceLeDiff, Nat.zero_add, Nat.le_refl, not_true_eq_false, not_false_eq_true, forall_const, false_implies, true_implies, implies_true, and_self, Prod.mk.injEq, eq_self, true_or, or_true, false_and, and_false, or_false, false_or, Nat.reduceEqDiff, ↓a_X1_personsNamedIn_86, ↓a_X1_personsNamedIn_80, ↓a_X1_personsNamedIn_12, ↓a_X1_personsNamedIn_0, n0m1, m1lt]
      have e : q = gP a l := bts_eq hq (fun p h12 => by
        rw [hG p h12, gPb_0]
        cases hb : s.testBit p
        · cases hc : q.testBit p
          · rfl
          · rw [hqs p hc] at hb; cases hb
        · rfl)
      rw [e]; exact hp
    | succ m ih =>
      intro q s o hm hq hs hqs hG
      have bm := hB.Tn (j := m) (by omega)
      have t0 := hI.T0 (j := m) (by omega)
      have t1 := hI.T1 (j := m) (by omega)
      have t2 := hI.T2 (j := m) (by omega)
      have l0 := hI.L0 hl
      have l2 := hI.L2 hl
      apply am_fold; rw [h_X1_personsNamedIn_12]
      try simp (disch := omega) only [nm1, nm1', nsub1, np1, npd, nadd, n0m1, m1lt, nlt0, nge0, ngt0, nle0, nlt, nle, neq, neq0, m1n, m4n, vpn, vcl, ne_eq, bI_0, bI_1, bI_01, lit01, lit00, oI_s, oI_n, true_and, and_true, not_true_eq_false, not_false_eq_true, true_implies, false_implies, and_self, implies_true, forall_const, Bool.not_eq_false, Bool.not_eq_true, iu_s, iu_k1, iu_j1, ia_s1, ia_k1, lt2, lt3, lt5, lt6, lt7, lt8, lt9, lt10, lt11, lt12, lt13, lt15, lt16, lt17, lt20, lt26, lt30, lt32, lt36, lt50, lt60, lt64, lt100, lt300, lt400, lt500, lt1000, lt65536, lt100001, lt10000000, lt48, lt57, lt71, lt80, lt97, lt98, lt108, lt110, lt126, lt191, lt200, lt227, lt681, lt832, lt7919, lt1000000, lt18, lt45, lt65535, lt100000, decide_eq_true_eq, decide_eq_false_iff_not, Nat.le_refl, true_or, or_true, eq_self, t0, t1, t2]
      simp only [↓ap_cc, ↓ap_const, ↓ap_iload, ↓ap_aload, ↓ap_istore, ↓ap_astore, ↓ap_iinc, ↓ap_bin, ↓ap_idiv, ↓ap_irem, ↓ap_callSA, ↓ap_iretA, ↓ap_zretA, ↓ap_i2c, ↓ap_dup, ↓ap_dup2, ↓ap_nn, ↓ap_ic, ↓ap_if, ↓ap_sw, ↓ap_head, ↓ap_getI, ↓ap_getR, ↓ap_putI, ↓ap_putN, ↓ap_putR, ↓ap_iald, ↓ap_cald, ↓ap_iast, ↓ap_cast, ↓ap_aald, ↓ap_aast, ↓ap_alen, ↓ap_stat, ↓ap_pop, ↓ap_mm, ↓ap_copy, ↓ap_ret, ↓ap_iret, ↓ap_zret, ↓ap_aret, ↓ap_retA, ↓ap_new, ↓ap_newa, ↓ap_callV, ↓ap_callS, ↓ap_callI, am_in, List.map_cons, List.map_nil, List.getElem?_cons_zero, List.getElem?_cons_succ, List.set_cons_zero, List.set_cons_succ, List.take_succ_cons, List.take_zero, List.drop_succ_cons, List.drop_zero, List.reverse_cons, List.reverse_nil, List.nil_append, List.cons_append, List.append_nil, List.length_cons, List.length_nil, List.replicate_succ, List.replicate_zero, Option.toList_some, Option.toList_none, true_and, and_true, Option.some.injEq, exists_eq_left', am_wI_mk, am_wA_mk, am_wR_mk, Nat.reduceAdd, Nat.reduceSub, Nat.reduceLeDiff, Nat.zero_add, Nat.le_refl, not_true_eq_false, not_false_eq_true, forall_const, false_implies, true_implies, implies_true, and_self, Prod.mk.injEq, eq_self, true_or, or_true, false_and, and_false, or_false, false_or, Nat.reduceEqDiff, ↓a_X1_personsNamedIn_86, ↓a_X1_personsNamedIn_80, ↓a_X1_personsNamedIn_12, ↓a_X1_personsNamedIn_0, nm1, nsub1, s0, s1, s2, s3, s4, s6, r1, r2, r3, r4, r6, arr1 s1, arr1 s2, arr1 s3, arr1 s4, arr1 s6]
      try simp (disch := omega) only [nm1, nm1', nsub1, np1, npd, nadd, n0m1, m1lt, nlt0, nge0, ngt0, nle0, nlt, nle, neq, neq0, m1n, m4n, vpn, vcl, ne_eq, bI_0, bI_1, bI_01, lit01, lit00, oI_s, oI_n, true_and, and_true, not_true_eq_false, not_false_eq_true, true_implies, false_implies, and_self, implies_true, forall_const, Bool.not_eq_false, Bool.not_eq_true, iu_s, iu_k1, iu_j1, ia_s1, ia_k1, lt2, lt3, lt5, lt6, lt7, lt8, lt9, lt10, lt11, lt12, lt13, lt15, lt16, lt17, lt20, lt26, lt30, lt32, lt36, lt50, lt60, lt64, lt100, lt300, lt400, lt500, lt1000, lt65536, lt100001, lt10000000, lt48, lt57, lt71, lt80, lt97, lt98, lt108, lt110, lt126, lt191, lt200, lt227, lt681, lt832, lt7919, lt1000000, lt18, lt45, lt65535, lt100000, decide_eq_true_eq, decide_eq_false_iff_not, Nat.le_refl, true_or, or_true, eq_self, t0, t1, t2, l0, l2, nb_tst]
      refine ⟨fun h1 => ?_, fun h1 => ⟨fun h2 => ?_, fun h2 => ?_⟩⟩
      · refine ih q s _ (by omega) hq hs hqs (fun p h12 => ?_)
        rw [hG p h12, gPb_s, if_neg (c := gT a 0 m = p ∧ _) (fun h => by omega)]
      · refine ih q s _ (by omega) hq hs hqs (fun p h12 => ?_)
        rw [hG p h12, gPb_s]
        by_cases hpe : gT a 0 m = p
        · subst hpe
          simp only [h2, if_true]
        · rw [if_neg (c := gT a 0 m = p ∧ _) (fun h => hpe h.1)]
      · rw [nb_set (by omega)]
        refine f_isIn (by omega) (by omega) ?_
        simp only [↓ap_cc, ↓ap_const, ↓ap_iload, ↓ap_aload, ↓ap_istore, ↓ap_astore, ↓ap_iinc, ↓ap_bin, ↓ap_idiv, ↓ap_irem, ↓ap_callSA, ↓ap_iretA, ↓ap_zretA, ↓ap_i2c, ↓ap_dup, ↓ap_dup2, ↓ap_nn, ↓ap_ic, ↓ap_if, ↓ap_sw, ↓ap_head, ↓ap_getI, ↓ap_getR, ↓ap_putI, ↓ap_putN, ↓ap_putR, ↓ap_iald, ↓ap_cald, ↓ap_iast, ↓ap_cast, ↓ap_aald, ↓ap_aast, ↓ap_alen, ↓ap_stat, ↓ap_pop, ↓ap_mm, ↓ap_copy, ↓ap_ret, ↓ap_iret, ↓ap_zret, ↓ap_aret, ↓ap_retA, ↓ap_new, ↓ap_newa, ↓ap_callV, ↓ap_callS, ↓ap_callI, am_in, List.map_cons, List.map_nil, List.getElem?_cons_zero, List.getElem?_cons_succ, List.set_cons_zero, List.set_cons_succ, List.take_succ_cons, List.take_zero, List.drop_succ_cons, List.drop_zero, List.reverse_cons, List.reverse_nil, List.nil_append, List.cons_append, List.append_nil, List.length_cons, List.length_nil, List.replicate_succ, List.replicate_zero, Option.toList_some, Option.toList_none, true_and, and_true, Option.some.injEq, exists_eq_left', am_wI_mk, am_wA_mk, am_wR_mk, Nat.reduceAdd, Nat.reduceSub, Nat.reduceLeDiff, Nat.zero_add, Nat.le_refl, not_true_eq_false, not_false_eq_true, forall_const, false_implies, true_implies, implies_true, and_self, Prod.mk.injEq, eq_self, true_or, or_true, false_and, and_false, or_false, false_or, Nat.reduceEqDiff, ↓a_X1_personsNamedIn_86, ↓a_X1_personsNamedIn_80, ↓a_X1_personsNamedIn_12, ↓a_X1_personsNamedIn_0, nm1, nsub1, nb_set]
        try simp (disch := omega) only [nm1, nm1', nsub1, np1, npd, nadd, n0m1, m1lt, nlt0, nge0, ngt0, nle0, nlt, nle, neq, neq0, m1n, m4n, vpn, vcl, ne_eq, bI_0, bI_1, bI_01, lit01, lit00, oI_s, oI_n, true_and, and_true, not_true_eq_false, not_false_eq_true, true_implies, false_implies, and_self, implies_true, forall_const, Bool.not_eq_false, Bool.not_eq_true, iu_s, iu_k1, iu_j1, ia_s1, ia_k1, lt2, lt3, lt5, lt6, lt7, lt8, lt9, lt10, lt11, lt12, lt13, lt15, lt16, lt17, lt20, lt26, lt30, lt32, lt36, lt50, lt60, lt64, lt100, lt300, lt400, lt500, lt1000, lt65536, lt100001, lt10000000, lt48, lt57, lt71, lt80, lt97, lt98, lt108, lt110, lt126, lt191, lt200, lt227, lt681, lt832, lt7919, lt1000000, lt18, lt45, lt65535, lt100000, decide_eq_true_eq, decide_eq_false_iff_not, Nat.le_refl, true_or, or_true, eq_self, nb_set]
        have hs' : s ||| 2 ^ gT a 0 m < 4096 := sor_lt (n := 12) hs bm.1
        have hG' : ∀ (q' : Nat), (∀ p, p < 12 → q'.testBit p = (q.testBit p || (decide (gT a 0 m = p) && (gL a 2 l).testBit (gT a 1 m)))) → ∀ p, p < 12 → gPb a l p (gt a) = if (s ||| 2 ^ gT a 0 m).testBit p then q'.testBit p else gPb a l p m := by
          intro q' hq' p h12
          rw [hG p h12, gPb_s, sbit, hq' p h12]
          by_cases hpe : gT a 0 m = p
          · subst hpe
            have hqf : q.testBit (gT a 0 m) = false := by
              cases hc : q.testBit (gT a 0 m)
              · rfl
              · rw [hqs _ hc] at h2; cases h2
            have h5 : gT a 2 m ≤ gL a 0 l := by omega
            simp [h2, hqf, h5]
          · rw [if_neg (c := gT a 0 m = p ∧ _) (fun h => hpe h.1)]
            simp [hpe]
        refine ⟨fun h3 => ?_, fun h3 => ?_⟩
        · refine ih q _ _ (by omega) hq hs' (fun p hc => ?_) (hG' q (fun p _ => ?_))
          · rw [sbit, hqs p hc]; rfl
          · rw [h3]; simp
        · refine ih _ _ _ (by omega) (sor_lt (n := 12) hq bm.1) hs' (fun p hc => ?_) (hG' _ (fun p _ => ?_))
          · rw [sbit] at hc ⊢
            cases h4 : q.testBit p
            · rw [h4, Bool.false_or] at hc; rw [hc, Bool.or_true]
            · rw [hqs p h4]; rfl
          · rw [sbit, h3, Bool.and_true]
  refine ⟨Nat.le_of_ble_eq_true rfl, am_fold ?_⟩; rw [h_X1_personsNamedIn_0]
  simp only [↓ap_cc, ↓ap_const, ↓ap_iload, ↓ap_aload, ↓ap_istore, ↓ap_astore, ↓ap_iinc, ↓ap_bin, ↓ap_idiv, ↓ap_irem, ↓ap_callSA, ↓ap_iretA, ↓ap_zretA, ↓ap_i2c, ↓ap_dup, ↓ap_dup2, ↓ap_nn, ↓ap_ic, ↓ap_if, ↓ap_sw, ↓ap_head, ↓ap_getI, ↓ap_getR, ↓ap_putI, ↓ap_putN, ↓ap_putR, ↓ap_iald, ↓ap_cald, ↓ap_iast, ↓ap_cast, ↓ap_aald, ↓ap_aast, ↓ap_alen, ↓ap_stat, ↓ap_pop, ↓ap_mm, ↓ap_copy, ↓ap_ret, ↓ap_iret, ↓ap_zret, ↓ap_aret, ↓ap_retA, ↓ap_new, ↓ap_newa, ↓ap_callV, ↓ap_callS, ↓ap_callI, am_in, List.map_cons, List.map_nil, List.getElem?_cons_zero, List.getElem?_cons_succ, List.set_cons_zero, List.set_cons_succ, List.take_succ_cons, List.take_zero, List.drop_succ_cons, List.drop_zero, List.reverse_cons, List.reverse_nil, List.nil_append, List.cons_append, List.append_nil, List.length_cons, List.length_nil, List.replicate_succ, List.replicate_zero, Option.toList_some, Option.toList_none, true_and, and_true, Option.some.injEq, exists_eq_left', am_wI_mk, am_wA_mk, am_wR_mk, Nat.reduceAdd, Nat.reduceSub, Nat.reduceLeDiff, Nat.zero_add, Nat.le_refl, not_true_eq_false, not_false_eq_true, forall_const, false_implies, true_implies, implies_true, and_self, Prod.mk.injEq, eq_self, true_or, or_true, false_and, and_false, or_false, false_or, Nat.reduceEqDiff, ↓a_X1_personsNamedIn_86, ↓a_X1_personsNamedIn_80, ↓a_X1_personsNamedIn_12, ↓a_X1_personsNamedIn_0, s0, hI.t]
  exact loop (gt a) 0 0 none (Nat.le_refl _) (by decide) (by decide) (fun p h => by simp at h) (fun p _ => by simp)

