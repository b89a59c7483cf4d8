-- needs: 10 11 12 13 14 20
variable {S : List (Nat × Nat)} {R : Nat → Nat → Option Nat} {I : Nat → Nat → Int32} {X L n : Nat} {tx : Nat → Nat} {a : Lg} {post : am_R}
/-- a number is read: up to d digits more -/
def rd (tx : Nat → Nat) (n : Nat) : Nat → Nat → Nat → Nat × Nat
  | 0, p, v => (v, p)
  | d + 1, p, v => if p < n ∧ 48 ≤ tx p ∧ tx p ≤ 57 then rd tx n d (p + 1) (v * 10 + (tx p - 48)) else (v, p)
theorem rd_b (tx : Nat → Nat) (n : Nat) : ∀ d p v, p ≤ n → (rd tx n d p v).1 + 1 ≤ (v + 1) * 10 ^ d ∧ p ≤ (rd tx n d p v).2 ∧ (rd tx n d p v).2 ≤ n ∧ (rd tx n d p v).2 ≤ p + d
  | 0, p, v, h => by simp [rd]; exact h
  | d + 1, p, v, h => by
    unfold rd
    split
    · rename_i hc
      have ih := rd_b tx n d (p + 1) (v * 10 + (tx p - 48)) (by omega)
      refine ⟨?_, by omega, by omega, by omega⟩
      have h2 : (v * 10 + (tx p - 48) + 1) * 10 ^ d ≤ (v + 1) * 10 * 10 ^ d := Nat.mul_le_mul_right _ (by omega)
      rw [Nat.pow_succ, Nat.mul_comm (10 ^ d) 10, ← Nat.mul_assoc]
      omega
    · refine ⟨?_, by omega, by omega, by omega⟩
      simp only
      have : 1 ≤ 10 ^ (d + 1) := Nat.pow_pos (by decide)
      calc v + 1 = (v + 1) * 1 := by omega
        _ ≤ (v + 1) * 10 ^ (d + 1) := Nat.mul_le_mul_left _ this
/-- r numbers more are read, the next one into place i -/
def rdL (tx : Nat → Nat) (n : Nat) : Nat → Nat → Nat → (Nat → Nat) → Option (Nat × (Nat → Nat))
  | 0, _, p, w => some (p, w)
  | r + 1, i, p, w => if p < (rd tx n 6 p 0).2 ∧ (rd tx n 6 p 0).2 < n ∧ tx (rd tx n 6 p 0).2 = (if r = 0 then 59 else 44) then rdL tx n r (i + 1) ((rd tx n 6 p 0).2 + 1) (fun j => if j = i then (rd tx n 6 p 0).1 else w j) else none
theorem rdL_p (tx : Nat → Nat) (n : Nat) : ∀ r i p w p' w', p ≤ n → rdL tx n r i p w = some (p', w') → p ≤ p' ∧ p' ≤ n ∧ ∀ j, w' j < 1000000 ∨ w' j = w j
  | 0, i, p, w, p', w', h, hs => by cases hs; exact ⟨by omega, h, fun j => Or.inr rfl⟩
  | r + 1, i, p, w, p', w', h, hs => by
    unfold rdL at hs
    by_cases hc : p < (rd tx n 6 p 0).2 ∧ (rd tx n 6 p 0).2 < n ∧ tx (rd tx n 6 p 0).2 = (if r = 0 then 59 else 44)
    · rw [if_pos hc] at hs
      have hb := rd_b tx n 6 p 0 h
      have ih := rdL_p tx n r (i + 1) _ _ p' w' (by omega) hs
      refine ⟨by omega, ih.2.1, fun j => ?_⟩
      rcases ih.2.2 j with h1 | h1
      · exact Or.inl h1
      · by_cases hj : j = i
        · rw [if_pos hj] at h1; left; rw [h1]; have := hb.1; omega
        · rw [if_neg hj] at h1; exact Or.inr h1
    · rw [if_neg hc] at hs; cases hs
/-- how many numbers a letter wants -/
def due (c : Nat) : Nat := if c = 108 then 4 else if c = 98 then 1 else if c = 97 ∨ c = 110 then 2 else 0
/-- an entry at p: where the next one begins, and its numbers -/
def ent (tx : Nat → Nat) (n p : Nat) : Option (Nat × (Nat → Nat)) := if due (tx p) = 0 then none else rdL tx n (due (tx p)) 0 (p + 1) (fun _ => 0)
def kin (c : Nat) : Nat := if c = 98 then 0 else if c = 97 then 1 else 2
/-- why an entry can't be done; 0 if it can -/
def entF (a : Lg) (c : Nat) (w : Nat → Nat) : Nat := if c = 108 then (if w 0 ≤ 100000 ∧ w 1 < 12 ∧ w 2 ≤ 65535 ∧ w 3 ≤ 65535 then (if gn a < 30 then 0 else 4) else 2) else (if w 0 < gn a ∧ (kin c = 0 ∨ w 1 < gn a) then (if gCan a (kin c) (w 0) (if kin c = 0 then 0 else w 1) = true then (if gk a < 12 then 0 else 4) else 3) else 2)
def entD (a : Lg) (c : Nat) (w : Nat → Nat) : Lg := if c = 108 then aL a (w 0) (w 1) (w 2) (w 3) else aF a (kin c) (w 0) (if kin c = 0 then 0 else w 1)
/-- the entries from p on are done: reason, place of the fault, the log, how many -/
def tdo (tx : Nat → Nat) (n : Nat) : Nat → Nat → Lg → Nat → Nat × Nat × Lg × Nat
  | 0, p, a, k => (0, p, a, k)
  | f + 1, p, a, k => if p < n then (match ent tx n p with
    | none => (1, p, a, k)
    | some (p', w) => if entF a (tx p) w = 0 then tdo tx n f p' (entD a (tx p) w) (k + 1) else (entF a (tx p) w, p, a, k)) else (0, p, a, k)
theorem LgB_aL (hB : LgB a) {τ p x y : Nat} (h : gn a < 30) (h1 : τ ≤ 100000) (h2 : p < 12) (h3 : x ≤ 65535) (h4 : y ≤ 65535) : LgB (aL a τ p x y) := by
  have old : ∀ c j, j < gn a → gL (aL a τ p x y) c j = gL a c j := fun c j hj => by simp only [aL_L]; rw [if_neg (by omega)]
  refine ⟨⟨hB.t, by rw [aL_n]; omega, hB.k⟩, hB.2.1, fun j hj => ?_, fun j hj => ?_, hB.s⟩
  · rw [aL_n] at hj
    by_cases hjn : j = gn a
    · simp only [aL_L, hjn, if_true]; exact ⟨h1, h2, h3, h4⟩
    · rw [old 0 j (by omega), old 1 j (by omega), old 2 j (by omega), old 3 j (by omega)]
      exact hB.Ln (by omega)
  · have hF := hB.Fn (j := j) hj
    rw [aL_n]
    refine ⟨hF.1, by have := hF.2.1; simp only [aL_F]; omega, fun h0 => ?_⟩
    have h5 := hF.2.2 h0
    refine ⟨by have := h5.1; simp only [aL_F]; omega, ?_⟩
    have h6 := h5.2
    unfold gE at h6 ⊢
    simp only [aL_F]
    rw [old 0 _ h5.1, old 0 _ hF.2.1]
    exact h6
theorem LgB_aF (hB : LgB a) {k l e : Nat} (h : gk a < 12) (hk : k ≤ 2) (hl : l < gn a) (he : k ≠ 0 → e < gn a ∧ gE a e l) : LgB (aF a k l e) := by
  refine ⟨⟨hB.t, hB.n, by rw [aF_k]; omega⟩, hB.2.1, hB.2.2.1, fun j hj => ?_, hB.s⟩
  rw [aF_k] at hj
  by_cases hjn : j = gk a
  · simp only [aF_F, hjn, if_true]
    exact ⟨hk, hl, he⟩
  · simp only [aF_F, hjn, if_false]
    exact hB.2.2.2.1 j (by omega)
theorem kin_le (c : Nat) : kin c ≤ 2 := by unfold kin; split <;> (try split) <;> omega
theorem gCan_E {k l e : Nat} (h : gCan a k l e = true) (hk : k ≠ 0) : gE a e l := by
  unfold gCan at h
  rw [Bool.and_eq_true, decide_eq_true_eq] at h
  exact h.1.resolve_left hk
theorem LgB_entD (hB : LgB a) {c : Nat} {w : Nat → Nat} (h : entF a c w = 0) : LgB (entD a c w) := by
  unfold entF at h
  unfold entD
  by_cases hc : c = 108
  · rw [if_pos hc] at h ⊢
    by_cases h1 : w 0 ≤ 100000 ∧ w 1 < 12 ∧ w 2 ≤ 65535 ∧ w 3 ≤ 65535
    · rw [if_pos h1] at h
      by_cases h2 : gn a < 30
      · exact LgB_aL hB h2 h1.1 h1.2.1 h1.2.2.1 h1.2.2.2
      · rw [if_neg h2] at h; omega
    · rw [if_neg h1] at h; omega
  · rw [if_neg hc] at h ⊢
    by_cases h1 : w 0 < gn a ∧ (kin c = 0 ∨ w 1 < gn a)
    · rw [if_pos h1] at h
      by_cases h2 : gCan a (kin c) (w 0) (if kin c = 0 then 0 else w 1) = true
      · rw [if_pos h2] at h
        by_cases h3 : gk a < 12
        · refine LgB_aF hB h3 (kin_le c) h1.1 (fun hk => ?_)
          rw [if_neg hk] at h2 ⊢
          exact ⟨h1.2.resolve_left hk, gCan_E h2 hk⟩
        · rw [if_neg h3] at h; omega
      · rw [if_neg h2] at h; omega
    · rw [if_neg h1] at h; omega
def TxtS (S : List (Nat × Nat)) (R : Nat → Nat → Option Nat) (X : Nat) : Prop := S[X]? = some (0, 2) ∧ S[X + 1]? = some (2, 80) ∧ S[X + 2]? = some (1, 4) ∧ R X 1 = some (X + 1) ∧ R X 7 = some (X + 2)
def TxtI (I : Nat → Nat → Int32) (X n : Nat) (tx : Nat → Nat) : Prop := n ≤ 80 ∧ I X 0 = nI n ∧ ∀ j, j < n → I (X + 1) j = nI (tx j) ∧ 32 ≤ tx j ∧ tx j ≤ 126
theorem nar_c : ∀ c, c < 127 → vp_nar .char (nI c) = nI c := by
  have : ∀ c : Fin 127, vp_nar .char (nI c.val) = nI c.val := by decide +kernel
  exact fun c hc => this ⟨c, hc⟩
theorem i2c_c : ∀ c, c < 127 → ((nI c).toUInt32 % 65536).toInt32 = nI c := by
  have : ∀ c : Fin 127, ((nI c.val).toUInt32 % 65536).toInt32 = nI c.val := by decide +kernel
  exact fun c hc => this ⟨c, hc⟩
theorem fit_c : ∀ c, c < 127 → (narrow .char (.int (nI c)) = .int (nI c) ∧ fits .char (.int (nI c)) = true) := by
  have : ∀ c : Fin 127, (narrow .char (.int (nI c.val)) = .int (nI c.val) ∧ fits .char (.int (nI c.val)) = true) := by decide +kernel
  exact fun c hc => this ⟨c, hc⟩
theorem f_add {c : Nat} (hS : TxtS S R X) (hI : TxtI I X n tx) (hn : n < 80) (hc : 32 ≤ c ∧ c ≤ 126) (hp : ∀ I', Fr X (X + 1) I I' → TxtI I' X (n + 1) (fun j => if j = n then c else tx j) → post none (S, I', R)) : sp_X2_add [.inr X, .inl (nI c)] (S, I, R) post := by
  obtain ⟨s0, s1, s2, r1, r7⟩ := hS
  obtain ⟨h80, h0, h1⟩ := hI
  refine ⟨Nat.le_of_ble_eq_true rfl, am_fold ?_⟩; rw [h_X2_add_0]
  simp only [↓ap_cc, ↓ap_const, ↓ap_iload, ↓ap_aload, ↓ap_istore, ↓ap_astore, ↓ap_iinc, ↓ap_bin, ↓ap_idiv, ↓ap_i2c, ↓ap_dup, ↓ap_dup2, ↓ap_nn, ↓ap_ic, ↓ap_if, ↓ap_sw, ↓ap_head, ↓ap_getI, ↓ap_getR, ↓ap_putI, ↓ap_putN, ↓ap_putR, ↓ap_iald, ↓ap_cald, ↓ap_iast, ↓ap_cast, ↓ap_aald, ↓ap_aast, ↓ap_alen, ↓ap_stat, ↓ap_pop, ↓ap_mm, ↓ap_copy, ↓ap_ret, ↓ap_iret, ↓ap_zret, ↓ap_aret, ↓ap_retA, ↓ap_new, ↓ap_newa, ↓ap_callV, ↓ap_callS, ↓ap_callI, am_in, List.map_cons, List.map_nil, List.getElem?_cons_zero, List.getElem?_cons_succ, List.set_cons_zero, List.set_cons_succ, List.take_succ_cons, List.take_zero, List.drop_succ_cons, List.drop_zero, List.reverse_cons, List.reverse_nil, List.nil_append, List.cons_append, List.append_nil, List.length_cons, List.length_nil, List.replicate_succ, List.replicate_zero, Option.toList_some, Option.toList_none, true_and, and_true, Option.some.injEq, exists_eq_left', am_wI_mk, am_wA_mk, am_wR_mk, Nat.reduceAdd, Nat.reduceSub, Nat.reduceLeDiff, Nat.zero_add, Nat.le_refl, not_true_eq_false, not_false_eq_true, forall_const, false_implies, true_implies, implies_true, and_self, Prod.mk.injEq, eq_self, true_or, or_true, false_and, and_false, or_false, false_or, Nat.reduceEqDiff, ↓a_X2_add_29, ↓a_X2_add_0, s0, s1, r1, h0]
  try simp (disch := omega) only [nm1, nm1', nsub1, np1, npd, nadd, n0m1, m1lt, nlt0, nge0, ngt0, nle0, nlt, nle, neq, neq0, m1n, m4n, vpn, vcl, ne_eq, bI_0, bI_1, bI_01, lit01, lit00, oI_s, oI_n, true_and, and_true, not_true_eq_false, not_false_eq_true, true_implies, false_implies, and_self, implies_true, forall_const, Bool.not_eq_false, Bool.not_eq_true, iu_s, iu_k1, iu_j1, ia_s1, ia_k1, lt2, lt3, lt5, lt6, lt7, lt8, lt9, lt10, lt11, lt12, lt15, lt16, lt17, lt20, lt30, lt32, lt48, lt57, lt71, lt80, lt97, lt98, lt108, lt110, lt126, lt191, lt200, lt227, lt681, lt65535, lt100000, decide_eq_true_eq, decide_eq_false_iff_not, Nat.le_refl, true_or, or_true, eq_self, lt4, h0, nar_c]
  refine ⟨fun h => by omega, fun _ => ?_⟩
  refine hp _ ((Fr.rfl.u (by omega) (by omega)).u (by omega) (by omega)) ⟨by omega, by try simp (disch := omega) only [nm1, nm1', nsub1, np1, npd, nadd, n0m1, m1lt, nlt0, nge0, ngt0, nle0, nlt, nle, neq, neq0, m1n, m4n, vpn, vcl, ne_eq, bI_0, bI_1, bI_01, lit01, lit00, oI_s, oI_n, true_and, and_true, not_true_eq_false, not_false_eq_true, true_implies, false_implies, and_self, implies_true, forall_const, Bool.not_eq_false, Bool.not_eq_true, iu_s, iu_k1, iu_j1, ia_s1, ia_k1, lt2, lt3, lt5, lt6, lt7, lt8, lt9, lt10, lt11, lt12, lt15, lt16, lt17, lt20, lt30, lt32, lt48, lt57, lt71, lt80, lt97, lt98, lt108, lt110, lt126, lt191, lt200, lt227, lt681, lt65535, lt100000, decide_eq_true_eq, decide_eq_false_iff_not, Nat.le_refl, true_or, or_true, eq_self, lt4], fun j hj => ?_⟩
  try simp (disch := omega) only [nm1, nm1', nsub1, np1, npd, nadd, n0m1, m1lt, nlt0, nge0, ngt0, nle0, nlt, nle, neq, neq0, m1n, m4n, vpn, vcl, ne_eq, bI_0, bI_1, bI_01, lit01, lit00, oI_s, oI_n, true_and, and_true, not_true_eq_false, not_false_eq_true, true_implies, false_implies, and_self, implies_true, forall_const, Bool.not_eq_false, Bool.not_eq_true, iu_s, iu_k1, iu_j1, ia_s1, ia_k1, lt2, lt3, lt5, lt6, lt7, lt8, lt9, lt10, lt11, lt12, lt15, lt16, lt17, lt20, lt30, lt32, lt48, lt57, lt71, lt80, lt97, lt98, lt108, lt110, lt126, lt191, lt200, lt227, lt681, lt65535, lt100000, decide_eq_true_eq, decide_eq_false_iff_not, Nat.le_refl, true_or, or_true, eq_self, lt4]
  by_cases hjn : j = n
  · subst hjn; try simp (disch := omega) only [nm1, nm1', nsub1, np1, npd, nadd, n0m1, m1lt, nlt0, nge0, ngt0, nle0, nlt, nle, neq, neq0, m1n, m4n, vpn, vcl, ne_eq, bI_0, bI_1, bI_01, lit01, lit00, oI_s, oI_n, true_and, and_true, not_true_eq_false, not_false_eq_true, true_implies, false_implies, and_self, implies_true, forall_const, Bool.not_eq_false, Bool.not_eq_true, iu_s, iu_k1, iu_j1, ia_s1, ia_k1, lt2, lt3, lt5, lt6, lt7, lt8, lt9, lt10, lt11, lt12, lt15, lt16, lt17, lt20, lt30, lt32, lt48, lt57, lt71, lt80, lt97, lt98, lt108, lt110, lt126, lt191, lt200, lt227, lt681, lt65535, lt100000, decide_eq_true_eq, decide_eq_false_iff_not, Nat.le_refl, true_or, or_true, eq_self, lt4]; simp; exact hc
  · rw [iu_j1 hjn]; simp only [hjn, if_false]; exact h1 j (by omega)
theorem f_numbersDue {c : Nat} (s0 : S[X]? = some (0, 2)) (hc : c < 127) (h5 : I X 5 = nI c) (hp : post (some (.inl (nI (due c)))) (S, I, R)) : sp_X2_numbersDue [.inr X] (S, I, R) post := by
  unfold due at hp
  refine ⟨Nat.le_of_ble_eq_true rfl, am_fold ?_⟩; rw [h_X2_numbersDue_0]
  simp only [↓ap_cc, ↓ap_const, ↓ap_iload, ↓ap_aload, ↓ap_istore, ↓ap_astore, ↓ap_iinc, ↓ap_bin, ↓ap_idiv, ↓ap_i2c, ↓ap_dup, ↓ap_dup2, ↓ap_nn, ↓ap_ic, ↓ap_if, ↓ap_sw, ↓ap_head, ↓ap_getI, ↓ap_getR, ↓ap_putI, ↓ap_putN, ↓ap_putR, ↓ap_iald, ↓ap_cald, ↓ap_iast, ↓ap_cast, ↓ap_aald, ↓ap_aast, ↓ap_alen, ↓ap_stat, ↓ap_pop, ↓ap_mm, ↓ap_copy, ↓ap_ret, ↓ap_iret, ↓ap_zret, ↓ap_aret, ↓ap_retA, ↓ap_new, ↓ap_newa, ↓ap_callV, ↓ap_callS, ↓ap_callI, am_in, List.map_cons, List.map_nil, List.getElem?_cons_zero, List.getElem?_cons_succ, List.set_cons_zero, List.set_cons_succ, List.take_succ_cons, List.take_zero, List.drop_succ_cons, List.drop_zero, List.reverse_cons, List.reverse_nil, List.nil_append, List.cons_append, List.append_nil, List.length_cons, List.length_nil, List.replicate_succ, List.replicate_zero, Option.toList_some, Option.toList_none, true_and, and_true, Option.some.injEq, exists_eq_left', am_wI_mk, am_wA_mk, am_wR_mk, Nat.reduceAdd, Nat.reduceSub, Nat.reduceLeDiff, Nat.zero_add, Nat.le_refl, not_true_eq_false, not_false_eq_true, forall_const, false_implies, true_implies, implies_true, and_self, Prod.mk.injEq, eq_self, true_or, or_true, false_and, and_false, or_false, false_or, Nat.reduceEqDiff, ↓a_X2_numbersDue_45, ↓a_X2_numbersDue_44, ↓a_X2_numbersDue_40, ↓a_X2_numbersDue_22, ↓a_X2_numbersDue_11, ↓a_X2_numbersDue_0, s0, h5]
  try simp (disch := omega) only [nm1, nm1', nsub1, np1, npd, nadd, n0m1, m1lt, nlt0, nge0, ngt0, nle0, nlt, nle, neq, neq0, m1n, m4n, vpn, vcl, ne_eq, bI_0, bI_1, bI_01, lit01, lit00, oI_s, oI_n, true_and, and_true, not_true_eq_false, not_false_eq_true, true_implies, false_implies, and_self, implies_true, forall_const, Bool.not_eq_false, Bool.not_eq_true, iu_s, iu_k1, iu_j1, ia_s1, ia_k1, lt2, lt3, lt5, lt6, lt7, lt8, lt9, lt10, lt11, lt12, lt15, lt16, lt17, lt20, lt30, lt32, lt48, lt57, lt71, lt80, lt97, lt98, lt108, lt110, lt126, lt191, lt200, lt227, lt681, lt65535, lt100000, decide_eq_true_eq, decide_eq_false_iff_not, Nat.le_refl, true_or, or_true, eq_self, lt4]
  refine ⟨fun h => ⟨fun h1 => ⟨fun h2 => ?_, fun h2 => ⟨fun h3 => ?_, fun h3 => ?_⟩⟩, fun h1 => ?_⟩, fun h => ?_⟩
  · rw [if_neg h, if_neg h1, if_pos (Or.inl h2)] at hp; exact hp
  · rw [if_neg h, if_neg h1, if_neg (by omega)] at hp; exact hp
  · rw [if_neg h, if_neg h1, if_pos (by omega)] at hp; exact hp
  · rw [if_neg h, if_pos (by omega)] at hp; exact hp
  · rw [if_pos (by omega)] at hp; exact hp
theorem f_kindOfFix {c : Nat} (s0 : S[X]? = some (0, 2)) (hc : c < 127) (h5 : I X 5 = nI c) (hp : post (some (.inl (nI (kin c)))) (S, I, R)) : sp_X2_kindOfFix [.inr X] (S, I, R) post := by
  unfold kin at hp
  refine ⟨Nat.le_of_ble_eq_true rfl, am_fold ?_⟩; rw [h_X2_kindOfFix_0]
  simp only [↓ap_cc, ↓ap_const, ↓ap_iload, ↓ap_aload, ↓ap_istore, ↓ap_astore, ↓ap_iinc, ↓ap_bin, ↓ap_idiv, ↓ap_i2c, ↓ap_dup, ↓ap_dup2, ↓ap_nn, ↓ap_ic, ↓ap_if, ↓ap_sw, ↓ap_head, ↓ap_getI, ↓ap_getR, ↓ap_putI, ↓ap_putN, ↓ap_putR, ↓ap_iald, ↓ap_cald, ↓ap_iast, ↓ap_cast, ↓ap_aald, ↓ap_aast, ↓ap_alen, ↓ap_stat, ↓ap_pop, ↓ap_mm, ↓ap_copy, ↓ap_ret, ↓ap_iret, ↓ap_zret, ↓ap_aret, ↓ap_retA, ↓ap_new, ↓ap_newa, ↓ap_callV, ↓ap_callS, ↓ap_callI, am_in, List.map_cons, List.map_nil, List.getElem?_cons_zero, List.getElem?_cons_succ, List.set_cons_zero, List.set_cons_succ, List.take_succ_cons, List.take_zero, List.drop_succ_cons, List.drop_zero, List.reverse_cons, List.reverse_nil, List.nil_append, List.cons_append, List.append_nil, List.length_cons, List.length_nil, List.replicate_succ, List.replicate_zero, Option.toList_some, Option.toList_none, true_and, and_true, Option.some.injEq, exists_eq_left', am_wI_mk, am_wA_mk, am_wR_mk, Nat.reduceAdd, Nat.reduceSub, Nat.reduceLeDiff, Nat.zero_add, Nat.le_refl, not_true_eq_false, not_false_eq_true, forall_const, false_implies, true_implies, implies_true, and_self, Prod.mk.injEq, eq_self, true_or, or_true, false_and, and_false, or_false, false_or, Nat.reduceEqDiff, ↓a_X2_kindOfFix_25, ↓a_X2_kindOfFix_24, ↓a_X2_kindOfFix_11, ↓a_X2_kindOfFix_0, s0, h5]
  try simp (disch := omega) only [nm1, nm1', nsub1, np1, npd, nadd, n0m1, m1lt, nlt0, nge0, ngt0, nle0, nlt, nle, neq, neq0, m1n, m4n, vpn, vcl, ne_eq, bI_0, bI_1, bI_01, lit01, lit00, oI_s, oI_n, true_and, and_true, not_true_eq_false, not_false_eq_true, true_implies, false_implies, and_self, implies_true, forall_const, Bool.not_eq_false, Bool.not_eq_true, iu_s, iu_k1, iu_j1, ia_s1, ia_k1, lt2, lt3, lt5, lt6, lt7, lt8, lt9, lt10, lt11, lt12, lt15, lt16, lt17, lt20, lt30, lt32, lt48, lt57, lt71, lt80, lt97, lt98, lt108, lt110, lt126, lt191, lt200, lt227, lt681, lt65535, lt100000, decide_eq_true_eq, decide_eq_false_iff_not, Nat.le_refl, true_or, or_true, eq_self, lt4]
  refine ⟨fun h => ⟨fun h1 => ?_, fun h1 => ?_⟩, fun h => ?_⟩
  · rw [if_neg h, if_neg h1] at hp; exact hp
  · rw [if_neg h, if_pos (by omega)] at hp; exact hp
  · rw [if_pos (by omega)] at hp; exact hp
theorem f_earlierOfFix {c : Nat} (hS : TxtS S R X) (hc : c < 127) (h5 : I X 5 = nI c) (hp : post (some (.inl (if c = 98 then -1 else I (X + 2) 1))) (S, I, R)) : sp_X2_earlierOfFix [.inr X] (S, I, R) post := by
  obtain ⟨s0, s1, s2, r1, r7⟩ := hS
  refine ⟨Nat.le_of_ble_eq_true rfl, am_fold ?_⟩; rw [h_X2_earlierOfFix_0]
  simp only [↓ap_cc, ↓ap_const, ↓ap_iload, ↓ap_aload, ↓ap_istore, ↓ap_astore, ↓ap_iinc, ↓ap_bin, ↓ap_idiv, ↓ap_i2c, ↓ap_dup, ↓ap_dup2, ↓ap_nn, ↓ap_ic, ↓ap_if, ↓ap_sw, ↓ap_head, ↓ap_getI, ↓ap_getR, ↓ap_putI, ↓ap_putN, ↓ap_putR, ↓ap_iald, ↓ap_cald, ↓ap_iast, ↓ap_cast, ↓ap_aald, ↓ap_aast, ↓ap_alen, ↓ap_stat, ↓ap_pop, ↓ap_mm, ↓ap_copy, ↓ap_ret, ↓ap_iret, ↓ap_zret, ↓ap_aret, ↓ap_retA, ↓ap_new, ↓ap_newa, ↓ap_callV, ↓ap_callS, ↓ap_callI, am_in, List.map_cons, List.map_nil, List.getElem?_cons_zero, List.getElem?_cons_succ, List.set_cons_zero, List.set_cons_succ, List.take_succ_cons, List.take_zero, List.drop_succ_cons, List.drop_zero, List.reverse_cons, List.reverse_nil, List.nil_append, List.cons_append, List.append_nil, List.length_cons, List.length_nil, List.replicate_succ, List.replicate_zero, Option.toList_some, Option.toList_none, true_and, and_true, Option.some.injEq, exists_eq_left', am_wI_mk, am_wA_mk, am_wR_mk, Nat.reduceAdd, Nat.reduceSub, Nat.reduceLeDiff, Nat.zero_add, Nat.le_refl, not_true_eq_false, not_false_eq_true, forall_const, false_implies, true_implies, implies_true, and_self, Prod.mk.injEq, eq_self, true_or, or_true, false_and, and_false, or_false, false_or, Nat.reduceEqDiff, ↓a_X2_earlierOfFix_19, ↓a_X2_earlierOfFix_13, ↓a_X2_earlierOfFix_0, s0, s2, r7, h5, arr1 s2]
  try simp (disch := omega) only [nm1, nm1', nsub1, np1, npd, nadd, n0m1, m1lt, nlt0, nge0, ngt0, nle0, nlt, nle, neq, neq0, m1n, m4n, vpn, vcl, ne_eq, bI_0, bI_1, bI_01, lit01, lit00, oI_s, oI_n, true_and, and_true, not_true_eq_false, not_false_eq_true, true_implies, false_implies, and_self, implies_true, forall_const, Bool.not_eq_false, Bool.not_eq_true, iu_s, iu_k1, iu_j1, ia_s1, ia_k1, lt2, lt3, lt5, lt6, lt7, lt8, lt9, lt10, lt11, lt12, lt15, lt16, lt17, lt20, lt30, lt32, lt48, lt57, lt71, lt80, lt97, lt98, lt108, lt110, lt126, lt191, lt200, lt227, lt681, lt65535, lt100000, decide_eq_true_eq, decide_eq_false_iff_not, Nat.le_refl, true_or, or_true, eq_self, lt4, vpn1, vcl1]
  refine ⟨fun h => ?_, fun h => ?_⟩
  · rw [if_neg h] at hp; exact hp
  · rw [if_pos (by omega)] at hp; exact hp
theorem f_readNumber {p : Nat} (hS : TxtS S R X) (hI : TxtI I X n tx) (hpn : p ≤ n) (h6 : I X 6 = nI p) (hp : ∀ I', Fr X X I I' → (∀ j, j ≠ 6 → I' X j = I X j) → I' X 6 = nI (rd tx n 6 p 0).2 → post (some (.inl (if p < (rd tx n 6 p 0).2 then nI (rd tx n 6 p 0).1 else -1))) (S, I', R)) : sp_X2_readNumber [.inr X] (S, I, R) post := by
  obtain ⟨s0, s1, s2, r1, r7⟩ := hS
  obtain ⟨h80, h0, h1⟩ := hI
  have e6 : rd tx n 6 p 0 = rd tx n 6 p 0 := rfl
  have loop : ∀ d k p' v I', d + k = 6 → p' = p + k → p' ≤ n → v + 1 ≤ 10 ^ k → rd tx n d p' v = rd tx n 6 p 0 → Fr X X I I' → (∀ j, j ≠ 6 → I' X j = I X j) → I' X 6 = nI p' → am_OK h_X2_readNumber post 4 [some (.inr X), some (.inl (nI v)), some (.inl (nI k))] (S, I', R) := by
    intro d
    induction d with
    | zero =>
      intro k p' v I' hdk hpp hp'n hv hr hf hj h6'
      obtain rfl : k = 6 := by omega
      rw [rd] at hr
      rw [← hr] at hp
      apply am_fold; rw [h_X2_readNumber_4]
      simp only [↓ap_cc, ↓ap_const, ↓ap_iload, ↓ap_aload, ↓ap_istore, ↓ap_astore, ↓ap_iinc, ↓ap_bin, ↓ap_idiv, ↓ap_i2c, ↓ap_dup, ↓ap_dup2, ↓ap_nn, ↓ap_ic, ↓ap_if, ↓ap_sw, ↓ap_head, ↓ap_getI, ↓ap_getR, ↓ap_putI, ↓ap_putN, ↓ap_putR, ↓ap_iald, ↓ap_cald, ↓ap_iast, ↓ap_cast, ↓ap_aald, ↓ap_aast, ↓ap_alen, ↓ap_stat, ↓ap_pop, ↓ap_mm, ↓ap_copy, ↓ap_ret, ↓ap_iret, ↓ap_zret, ↓ap_aret, ↓ap_retA, ↓ap_new, ↓ap_newa, ↓ap_callV, ↓ap_callS, ↓ap_callI, am_in, List.map_cons, List.map_nil, List.getElem?_cons_zero, List.getElem?_cons_succ, List.set_cons_zero, List.set_cons_succ, List.take_succ_cons, List.take_zero, List.drop_succ_cons, List.drop_zero, List.reverse_cons, List.reverse_nil, List.nil_append, List.cons_append, List.append_nil, List.length_cons, List.length_nil, List.replicate_succ, List.replicate_zero, Option.toList_some, Option.toList_none, true_and, and_true, Option.some.injEq, exists_eq_left', am_wI_mk, am_wA_mk, am_wR_mk, Nat.reduceAdd, Nat.reduceSub, Nat.reduceLeDiff, Nat.zero_add, Nat.le_refl, not_true_eq_false, not_false_eq_true, forall_const, false_implies, true_implies, implies_true, and_self, Prod.mk.injEq, eq_self, true_or, or_true, false_and, and_false, or_false, false_or, Nat.reduceEqDiff, ↓a_X2_readNumber_92, ↓a_X2_readNumber_91, ↓a_X2_readNumber_83, ↓a_X2_readNumber_4, ↓a_X2_readNumber_0, s0]
      try simp (disch := omega) only [nm1, nm1', nsub1, np1, npd, nadd, n0m1, m1lt, nlt0, nge0, ngt0, nle0, nlt, nle, neq, neq0, m1n, m4n, vpn, vcl, ne_eq, bI_0, bI_1, bI_01, lit01, lit00, oI_s, oI_n, true_and, and_true, not_true_eq_false, not_false_eq_true, true_implies, false_implies, and_self, implies_true, forall_const, Bool.not_eq_false, Bool.not_eq_true, iu_s, iu_k1, iu_j1, ia_s1, ia_k1, lt2, lt3, lt5, lt6, lt7, lt8, lt9, lt10, lt11, lt12, lt15, lt16, lt17, lt20, lt30, lt32, lt48, lt57, lt71, lt80, lt97, lt98, lt108, lt110, lt126, lt191, lt200, lt227, lt681, lt65535, lt100000, decide_eq_true_eq, decide_eq_false_iff_not, Nat.le_refl, true_or, or_true, eq_self, lt4]
      rw [if_pos (by omega)] at hp
      exact ⟨fun _ => hp I' hf hj h6', fun h => absurd (by decide) h⟩
    | succ d ih =>
      intro k p' v I' hdk hpp hp'n hv hr hf hj h6'
      have h0' : I' X 0 = nI n := by rw [hj 0 (by omega)]; exact h0
      have e1 : ∀ j, I' (X + 1) j = I (X + 1) j := fun j => by rw [hf (X + 1) (by omega)]
      have hk6 : 10 ^ k ≤ 10 ^ 5 := Nat.pow_le_pow_right (by decide) (by omega)
      have stop : (¬ (p' < n ∧ 48 ≤ tx p' ∧ tx p' ≤ 57)) → t_X2_readNumber_83 [some (.inr X), some (.inl (nI v)), some (.inl (nI k))] [] (S, I', R) (am_OK h_X2_readNumber post) post := by
        intro hc
        rw [rd, if_neg hc] at hr
        rw [← hr] at hp
        simp only [↓ap_cc, ↓ap_const, ↓ap_iload, ↓ap_aload, ↓ap_istore, ↓ap_astore, ↓ap_iinc, ↓ap_bin, ↓ap_idiv, ↓ap_i2c, ↓ap_dup, ↓ap_dup2, ↓ap_nn, ↓ap_ic, ↓ap_if, ↓ap_sw, ↓ap_head, ↓ap_getI, ↓ap_getR, ↓ap_putI, ↓ap_putN, ↓ap_putR, ↓ap_iald, ↓ap_cald, ↓ap_iast, ↓ap_cast, ↓ap_aald, ↓ap_aast, ↓ap_alen, ↓ap_stat, ↓ap_pop, ↓ap_mm, ↓ap_copy, ↓ap_ret, ↓ap_iret, ↓ap_zret, ↓ap_aret, ↓ap_retA, ↓ap_new, ↓ap_newa, ↓ap_callV, ↓ap_callS, ↓ap_callI, am_in, List.map_cons, List.map_nil, List.getElem?_cons_zero, List.getElem?_cons_succ, List.set_cons_zero, List.set_cons_succ, List.take_succ_cons, List.take_zero, List.drop_succ_cons, List.drop_zero, List.reverse_cons, List.reverse_nil, List.nil_append, List.cons_append, List.append_nil, List.length_cons, List.length_nil, List.replicate_succ, List.replicate_zero, Option.toList_some, Option.toList_none, true_and, and_true, Option.some.injEq, exists_eq_left', am_wI_mk, am_wA_mk, am_wR_mk, Nat.reduceAdd, Nat.reduceSub, Nat.reduceLeDiff, Nat.zero_add, Nat.le_refl, not_true_eq_false, not_false_eq_true, forall_const, false_implies, true_implies, implies_true, and_self, Prod.mk.injEq, eq_self, true_or, or_true, false_and, and_false, or_false, false_or, Nat.reduceEqDiff, ↓a_X2_readNumber_92, ↓a_X2_readNumber_91, ↓a_X2_readNumber_83, ↓a_X2_readNumber_4, ↓a_X2_readNumber_0]
        try simp (disch := omega) only [nm1, nm1', nsub1, np1, npd, nadd, n0m1, m1lt, nlt0, nge0, ngt0, nle0, nlt, nle, neq, neq0, m1n, m4n, vpn, vcl, ne_eq, bI_0, bI_1, bI_01, lit01, lit00, oI_s, oI_n, true_and, and_true, not_true_eq_false, not_false_eq_true, true_implies, false_implies, and_self, implies_true, forall_const, Bool.not_eq_false, Bool.not_eq_true, iu_s, iu_k1, iu_j1, ia_s1, ia_k1, lt2, lt3, lt5, lt6, lt7, lt8, lt9, lt10, lt11, lt12, lt15, lt16, lt17, lt20, lt30, lt32, lt48, lt57, lt71, lt80, lt97, lt98, lt108, lt110, lt126, lt191, lt200, lt227, lt681, lt65535, lt100000, decide_eq_true_eq, decide_eq_false_iff_not, Nat.le_refl, true_or, or_true, eq_self, lt4]
        simp only at hp
        refine ⟨fun hk => ?_, fun hk => ?_⟩
        · rw [if_pos (by omega)] at hp; exact hp I' hf hj h6'
        · rw [if_neg (by omega)] at hp; exact hp I' hf hj h6'
      apply am_fold; rw [h_X2_readNumber_4]
      simp only [↓ap_cc, ↓ap_const, ↓ap_iload, ↓ap_aload, ↓ap_istore, ↓ap_astore, ↓ap_iinc, ↓ap_bin, ↓ap_idiv, ↓ap_i2c, ↓ap_dup, ↓ap_dup2, ↓ap_nn, ↓ap_ic, ↓ap_if, ↓ap_sw, ↓ap_head, ↓ap_getI, ↓ap_getR, ↓ap_putI, ↓ap_putN, ↓ap_putR, ↓ap_iald, ↓ap_cald, ↓ap_iast, ↓ap_cast, ↓ap_aald, ↓ap_aast, ↓ap_alen, ↓ap_stat, ↓ap_pop, ↓ap_mm, ↓ap_copy, ↓ap_ret, ↓ap_iret, ↓ap_zret, ↓ap_aret, ↓ap_retA, ↓ap_new, ↓ap_newa, ↓ap_callV, ↓ap_callS, ↓ap_callI, am_in, List.map_cons, List.map_nil, List.getElem?_cons_zero, List.getElem?_cons_succ, List.set_cons_zero, List.set_cons_succ, List.take_succ_cons, List.take_zero, List.drop_succ_cons, List.drop_zero, List.reverse_cons, List.reverse_nil, List.nil_append, List.cons_append, List.append_nil, List.length_cons, List.length_nil, List.replicate_succ, List.replicate_zero, Option.toList_some, Option.toList_none, true_and, and_true, Option.some.injEq, exists_eq_left', am_wI_mk, am_wA_mk, am_wR_mk, Nat.reduceAdd, Nat.reduceSub, Nat.reduceLeDiff, Nat.zero_add, Nat.le_refl, not_true_eq_false, not_false_eq_true, forall_const, false_implies, true_implies, implies_true, and_self, Prod.mk.injEq, eq_self, true_or, or_true, false_and, and_false, or_false, false_or, Nat.reduceEqDiff, ↓a_X2_readNumber_4, s0, s1, r1, h6', h0']
      try simp (disch := omega) only [nm1, nm1', nsub1, np1, npd, nadd, n0m1, m1lt, nlt0, nge0, ngt0, nle0, nlt, nle, neq, neq0, m1n, m4n, vpn, vcl, ne_eq, bI_0, bI_1, bI_01, lit01, lit00, oI_s, oI_n, true_and, and_true, not_true_eq_false, not_false_eq_true, true_implies, false_implies, and_self, implies_true, forall_const, Bool.not_eq_false, Bool.not_eq_true, iu_s, iu_k1, iu_j1, ia_s1, ia_k1, lt2, lt3, lt5, lt6, lt7, lt8, lt9, lt10, lt11, lt12, lt15, lt16, lt17, lt20, lt30, lt32, lt48, lt57, lt71, lt80, lt97, lt98, lt108, lt110, lt126, lt191, lt200, lt227, lt681, lt65535, lt100000, decide_eq_true_eq, decide_eq_false_iff_not, Nat.le_refl, true_or, or_true, eq_self, lt4, arrE]
      refine ⟨fun h => by omega, fun _ => ⟨fun h => stop (by omega), fun h => ?_⟩⟩
      have ht := h1 p' (by omega)
      try simp (disch := omega) only [nm1, nm1', nsub1, np1, npd, nadd, n0m1, m1lt, nlt0, nge0, ngt0, nle0, nlt, nle, neq, neq0, m1n, m4n, vpn, vcl, ne_eq, bI_0, bI_1, bI_01, lit01, lit00, oI_s, oI_n, true_and, and_true, not_true_eq_false, not_false_eq_true, true_implies, false_implies, and_self, implies_true, forall_const, Bool.not_eq_false, Bool.not_eq_true, iu_s, iu_k1, iu_j1, ia_s1, ia_k1, lt2, lt3, lt5, lt6, lt7, lt8, lt9, lt10, lt11, lt12, lt15, lt16, lt17, lt20, lt30, lt32, lt48, lt57, lt71, lt80, lt97, lt98, lt108, lt110, lt126, lt191, lt200, lt227, lt681, lt65535, lt100000, decide_eq_true_eq, decide_eq_false_iff_not, Nat.le_refl, true_or, or_true, eq_self, lt4, e1, ht.1]
      refine ⟨fun h2 => stop (by omega), fun h2 => ⟨fun h3 => stop (by omega), fun h3 => ?_⟩⟩
      have hc : p' < n ∧ 48 ≤ tx p' ∧ tx p' ≤ 57 := ⟨by omega, by omega, by omega⟩
      rw [rd, if_pos hc] at hr
      try simp (disch := omega) only [nm1, nm1', nsub1, np1, npd, nadd, n0m1, m1lt, nlt0, nge0, ngt0, nle0, nlt, nle, neq, neq0, m1n, m4n, vpn, vcl, ne_eq, bI_0, bI_1, bI_01, lit01, lit00, oI_s, oI_n, true_and, and_true, not_true_eq_false, not_false_eq_true, true_implies, false_implies, and_self, implies_true, forall_const, Bool.not_eq_false, Bool.not_eq_true, iu_s, iu_k1, iu_j1, ia_s1, ia_k1, lt2, lt3, lt5, lt6, lt7, lt8, lt9, lt10, lt11, lt12, lt15, lt16, lt17, lt20, lt30, lt32, lt48, lt57, lt71, lt80, lt97, lt98, lt108, lt110, lt126, lt191, lt200, lt227, lt681, lt65535, lt100000, decide_eq_true_eq, decide_eq_false_iff_not, Nat.le_refl, true_or, or_true, eq_self, lt4, nmul, nsub]
      refine ih (k + 1) (p' + 1) _ _ (by omega) (by omega) (by omega) ?_ hr (hf.u (by omega) (by omega)) (fun j hj2 => ?_) ?_
      · rw [Nat.pow_succ]; omega
      · rw [iu_j1 hj2]; exact hj j hj2
      · try simp (disch := omega) only [nm1, nm1', nsub1, np1, npd, nadd, n0m1, m1lt, nlt0, nge0, ngt0, nle0, nlt, nle, neq, neq0, m1n, m4n, vpn, vcl, ne_eq, bI_0, bI_1, bI_01, lit01, lit00, oI_s, oI_n, true_and, and_true, not_true_eq_false, not_false_eq_true, true_implies, false_implies, and_self, implies_true, forall_const, Bool.not_eq_false, Bool.not_eq_true, iu_s, iu_k1, iu_j1, ia_s1, ia_k1, lt2, lt3, lt5, lt6, lt7, lt8, lt9, lt10, lt11, lt12, lt15, lt16, lt17, lt20, lt30, lt32, lt48, lt57, lt71, lt80, lt97, lt98, lt108, lt110, lt126, lt191, lt200, lt227, lt681, lt65535, lt100000, decide_eq_true_eq, decide_eq_false_iff_not, Nat.le_refl, true_or, or_true, eq_self, lt4]
  refine ⟨Nat.le_of_ble_eq_true rfl, am_fold ?_⟩; rw [h_X2_readNumber_0]
  simp only [↓ap_cc, ↓ap_const, ↓ap_iload, ↓ap_aload, ↓ap_istore, ↓ap_astore, ↓ap_iinc, ↓ap_bin, ↓ap_idiv, ↓ap_i2c, ↓ap_dup, ↓ap_dup2, ↓ap_nn, ↓ap_ic, ↓ap_if, ↓ap_sw, ↓ap_head, ↓ap_getI, ↓ap_getR, ↓ap_putI, ↓ap_putN, ↓ap_putR, ↓ap_iald, ↓ap_cald, ↓ap_iast, ↓ap_cast, ↓ap_aald, ↓ap_aast, ↓ap_alen, ↓ap_stat, ↓ap_pop, ↓ap_mm, ↓ap_copy, ↓ap_ret, ↓ap_iret, ↓ap_zret, ↓ap_aret, ↓ap_retA, ↓ap_new, ↓ap_newa, ↓ap_callV, ↓ap_callS, ↓ap_callI, am_in, List.map_cons, List.map_nil, List.getElem?_cons_zero, List.getElem?_cons_succ, List.set_cons_zero, List.set_cons_succ, List.take_succ_cons, List.take_zero, List.drop_succ_cons, List.drop_zero, List.reverse_cons, List.reverse_nil, List.nil_append, List.cons_append, List.append_nil, List.length_cons, List.length_nil, List.replicate_succ, List.replicate_zero, Option.toList_some, Option.toList_none, true_and, and_true, Option.some.injEq, exists_eq_left', am_wI_mk, am_wA_mk, am_wR_mk, Nat.reduceAdd, Nat.reduceSub, Nat.reduceLeDiff, Nat.zero_add, Nat.le_refl, not_true_eq_false, not_false_eq_true, forall_const, false_implies, true_implies, implies_true, and_self, Prod.mk.injEq, eq_self, true_or, or_true, false_and, and_false, or_false, false_or, Nat.reduceEqDiff, ↓a_X2_readNumber_92, ↓a_X2_readNumber_91, ↓a_X2_readNumber_83, ↓a_X2_readNumber_4, ↓a_X2_readNumber_0]
  exact loop 6 0 p 0 I rfl rfl hpn (by decide) rfl Fr.rfl (fun _ _ => rfl) h6
theorem due_le (c : Nat) : due c ≤ 4 := by unfold due; split <;> (try split) <;> (try split) <;> omega
/-- what a call of the text may change: its fields and numbers -/
def FrX (X : Nat) (I I' : Nat → Nat → Int32) : Prop := (∀ k, k ≠ X → k ≠ X + 2 → I' k = I k) ∧ I' X 0 = I X 0 ∧ I' X 2 = I X 2
theorem f_readEntry {p : Nat} (hS : TxtS S R X) (hI : TxtI I X n tx) (hpn : p < n) (h6 : I X 6 = nI p) (hn : ent tx n p = none → ∀ I', FrX X I I' → I' X 3 = I X 3 → post (some (.inl 0)) (S, I', R)) (hs : ∀ p' w, ent tx n p = some (p', w) → ∀ I', FrX X I I' → I' X 3 = I X 3 → I' X 6 = nI p' → I' X 5 = nI (tx p) → (∀ j, j < due (tx p) → I' (X + 2) j = nI (w j)) → post (some (.inl 1)) (S, I', R)) : sp_X2_readEntry [.inr X] (S, I, R) post := by
  obtain ⟨s0, s1, s2, r1, r7⟩ := id hS
  obtain ⟨h80, h0, h1⟩ := id hI
  have ht := h1 p hpn
  have bd := due_le (tx p)
  have e0 : due (tx p) ≠ 0 → ent tx n p = rdL tx n (due (tx p)) 0 (p + 1) (fun _ => 0) := fun h => by unfold ent; rw [if_neg h]
  have loop : ∀ r i q w I' (o : Option am_V), i + r = due (tx p) → q ≤ n → (due (tx p) ≠ 0 → ent tx n p = rdL tx n r i q w) → FrX X I I' → I' X 3 = I X 3 → I' X 6 = nI q → I' X 5 = nI (tx p) → (∀ j, j < i → I' (X + 2) j = nI (w j)) → am_OK h_X2_readEntry post 30 [some (.inr X), some (.inl (nI (due (tx p)))), some (.inl (nI i)), o] (S, I', R) := by
    intro r
    induction r with
    | zero =>
      intro i q w I' o hir hq he hf h3 h6' h5' hw
      obtain rfl : i = due (tx p) := by omega
      apply am_fold; rw [h_X2_readEntry_30]
      simp only [↓ap_cc, ↓ap_const, ↓ap_iload, ↓ap_aload, ↓ap_istore, ↓ap_astore, ↓ap_iinc, ↓ap_bin, ↓ap_idiv, ↓ap_i2c, ↓ap_dup, ↓ap_dup2, ↓ap_nn, ↓ap_ic, ↓ap_if, ↓ap_sw, ↓ap_head, ↓ap_getI, ↓ap_getR, ↓ap_putI, ↓ap_putN, ↓ap_putR, ↓ap_iald, ↓ap_cald, ↓ap_iast, ↓ap_cast, ↓ap_aald, ↓ap_aast, ↓ap_alen, ↓ap_stat, ↓ap_pop, ↓ap_mm, ↓ap_copy, ↓ap_ret, ↓ap_iret, ↓ap_zret, ↓ap_aret, ↓ap_retA, ↓ap_new, ↓ap_newa, ↓ap_callV, ↓ap_callS, ↓ap_callI, am_in, List.map_cons, List.map_nil, List.getElem?_cons_zero, List.getElem?_cons_succ, List.set_cons_zero, List.set_cons_succ, List.take_succ_cons, List.take_zero, List.drop_succ_cons, List.drop_zero, List.reverse_cons, List.reverse_nil, List.nil_append, List.cons_append, List.append_nil, List.length_cons, List.length_nil, List.replicate_succ, List.replicate_zero, Option.toList_some, Option.toList_none, true_and, and_true, Option.some.injEq, exists_eq_left', am_wI_mk, am_wA_mk, am_wR_mk, Nat.reduceAdd, Nat.reduceSub, Nat.reduceLeDiff, Nat.zero_add, Nat.le_refl, not_true_eq_false, not_false_eq_true, forall_const, false_implies, true_implies, implies_true, and_self, Prod.mk.injEq, eq_self, true_or, or_true, false_and, and_false, or_false, false_or, Nat.reduceEqDiff, ↓a_X2_readEntry_121, ↓a_X2_readEntry_120, ↓a_X2_readEntry_112, ↓a_X2_readEntry_96, ↓a_X2_readEntry_94, ↓a_X2_readEntry_59, ↓a_X2_readEntry_57, ↓a_X2_readEntry_30, ↓a_X2_readEntry_0]
      try simp (disch := omega) only [nm1, nm1', nsub1, np1, npd, nadd, n0m1, m1lt, nlt0, nge0, ngt0, nle0, nlt, nle, neq, neq0, m1n, m4n, vpn, vcl, ne_eq, bI_0, bI_1, bI_01, lit01, lit00, oI_s, oI_n, true_and, and_true, not_true_eq_false, not_false_eq_true, true_implies, false_implies, and_self, implies_true, forall_const, Bool.not_eq_false, Bool.not_eq_true, iu_s, iu_k1, iu_j1, ia_s1, ia_k1, lt2, lt3, lt5, lt6, lt7, lt8, lt9, lt10, lt11, lt12, lt15, lt16, lt17, lt20, lt30, lt32, lt48, lt57, lt71, lt80, lt97, lt98, lt108, lt110, lt126, lt191, lt200, lt227, lt681, lt65535, lt100000, decide_eq_true_eq, decide_eq_false_iff_not, Nat.le_refl, true_or, or_true, eq_self, lt4]
      refine ⟨fun h => hn (by unfold ent; rw [if_pos (by omega)]) I' hf h3, fun h => ?_⟩
      exact hs q w (by rw [he (by omega), rdL]) I' hf h3 h6' h5' hw
    | succ r ih =>
      intro i q w I' o hir hq he hf h3 h6' h5' hw
      have he := he (by omega)
      have hb := rd_b tx n 6 q 0 hq
      have hIX : TxtI I' X n tx := ⟨h80, by rw [hf.2.1]; exact h0, fun j hj => by rw [hf.1 (X + 1) (by omega) (by omega)]; exact h1 j hj⟩
      have vb : (rd tx n 6 q 0).1 < 1000000 := by have := hb.1; omega
      have fin : ∀ I2, Fr X X I' I2 → (∀ j, j ≠ 6 → I2 X j = I' X j) → I2 X 6 = nI (rd tx n 6 q 0).2 → ∀ o : Option am_V, t_X2_readEntry_59 [some (.inr X), some (.inl (nI (due (tx p)))), some (.inl (nI i)), o] [.inl (nI (if r = 0 then 59 else 44))] (S, am_u I2 (X + 2) i (if q < (rd tx n 6 q 0).2 then nI (rd tx n 6 q 0).1 else -1), R) (am_OK h_X2_readEntry post) post := by
        intro I2 hf2 hj2 h62 o
        have fx : FrX X I (am_u I2 (X + 2) i (if q < (rd tx n 6 q 0).2 then nI (rd tx n 6 q 0).1 else -1)) := by
          refine ⟨fun k hk hk2 => ?_, ?_, ?_⟩
          · rw [iu_k (by omega), hf2 k (by omega), hf.1 k hk hk2]
          · rw [iu_k1 (by omega), hj2 0 (by omega), hf.2.1]
          · rw [iu_k1 (by omega), hj2 2 (by omega), hf.2.2]
        have x3 : am_u I2 (X + 2) i (if q < (rd tx n 6 q 0).2 then nI (rd tx n 6 q 0).1 else -1) X 3 = I X 3 := by rw [iu_k1 (by omega), hj2 3 (by omega), h3]
        have x0 : I2 X 0 = nI n := by rw [hj2 0 (by omega)]; exact hIX.2.1
        have bad : (¬ (q < (rd tx n 6 q 0).2 ∧ (rd tx n 6 q 0).2 < n ∧ tx (rd tx n 6 q 0).2 = (if r = 0 then 59 else 44))) → post (some (.inl 0)) (S, am_u I2 (X + 2) i (if q < (rd tx n 6 q 0).2 then nI (rd tx n 6 q 0).1 else -1), R) := by
          intro hc
          exact hn (by rw [he, rdL, if_neg hc]) _ fx x3
        simp only [↓a_X2_readEntry_59]
        simp only [↓ap_cc, ↓ap_const, ↓ap_iload, ↓ap_aload, ↓ap_istore, ↓ap_astore, ↓ap_iinc, ↓ap_bin, ↓ap_idiv, ↓ap_i2c, ↓ap_dup, ↓ap_dup2, ↓ap_nn, ↓ap_ic, ↓ap_if, ↓ap_sw, ↓ap_head, ↓ap_getI, ↓ap_getR, ↓ap_putI, ↓ap_putN, ↓ap_putR, ↓ap_iald, ↓ap_cald, ↓ap_iast, ↓ap_cast, ↓ap_aald, ↓ap_aast, ↓ap_alen, ↓ap_stat, ↓ap_pop, ↓ap_mm, ↓ap_copy, ↓ap_ret, ↓ap_iret, ↓ap_zret, ↓ap_aret, ↓ap_retA, ↓ap_new, ↓ap_newa, ↓ap_callV, ↓ap_callS, ↓ap_callI, am_in, List.map_cons, List.map_nil, List.getElem?_cons_zero, List.getElem?_cons_succ, List.set_cons_zero, List.set_cons_succ, List.take_succ_cons, List.take_zero, List.drop_succ_cons, List.drop_zero, List.reverse_cons, List.reverse_nil, List.nil_append, List.cons_append, List.append_nil, List.length_cons, List.length_nil, List.replicate_succ, List.replicate_zero, Option.toList_some, Option.toList_none, true_and, and_true, Option.some.injEq, exists_eq_left', am_wI_mk, am_wA_mk, am_wR_mk, Nat.reduceAdd, Nat.reduceSub, Nat.reduceLeDiff, Nat.zero_add, Nat.le_refl, not_true_eq_false, not_false_eq_true, forall_const, false_implies, true_implies, implies_true, and_self, Prod.mk.injEq, eq_self, true_or, or_true, false_and, and_false, or_false, false_or, Nat.reduceEqDiff, ↓a_X2_readEntry_121, ↓a_X2_readEntry_120, ↓a_X2_readEntry_112, ↓a_X2_readEntry_96, ↓a_X2_readEntry_94, ↓a_X2_readEntry_59, ↓a_X2_readEntry_57, ↓a_X2_readEntry_30, ↓a_X2_readEntry_0, s0, s1, s2, r1, r7, arr1 s2]
        try simp (disch := omega) only [nm1, nm1', nsub1, np1, npd, nadd, n0m1, m1lt, nlt0, nge0, ngt0, nle0, nlt, nle, neq, neq0, m1n, m4n, vpn, vcl, ne_eq, bI_0, bI_1, bI_01, lit01, lit00, oI_s, oI_n, true_and, and_true, not_true_eq_false, not_false_eq_true, true_implies, false_implies, and_self, implies_true, forall_const, Bool.not_eq_false, Bool.not_eq_true, iu_s, iu_k1, iu_j1, ia_s1, ia_k1, lt2, lt3, lt5, lt6, lt7, lt8, lt9, lt10, lt11, lt12, lt15, lt16, lt17, lt20, lt30, lt32, lt48, lt57, lt71, lt80, lt97, lt98, lt108, lt110, lt126, lt191, lt200, lt227, lt681, lt65535, lt100000, decide_eq_true_eq, decide_eq_false_iff_not, Nat.le_refl, true_or, or_true, eq_self, lt4, x0, h62]
        by_cases hv : q < (rd tx n 6 q 0).2
        · simp only [hv, if_true] at bad fx x3 ⊢
          try simp (disch := omega) only [nm1, nm1', nsub1, np1, npd, nadd, n0m1, m1lt, nlt0, nge0, ngt0, nle0, nlt, nle, neq, neq0, m1n, m4n, vpn, vcl, ne_eq, bI_0, bI_1, bI_01, lit01, lit00, oI_s, oI_n, true_and, and_true, not_true_eq_false, not_false_eq_true, true_implies, false_implies, and_self, implies_true, forall_const, Bool.not_eq_false, Bool.not_eq_true, iu_s, iu_k1, iu_j1, ia_s1, ia_k1, lt2, lt3, lt5, lt6, lt7, lt8, lt9, lt10, lt11, lt12, lt15, lt16, lt17, lt20, lt30, lt32, lt48, lt57, lt71, lt80, lt97, lt98, lt108, lt110, lt126, lt191, lt200, lt227, lt681, lt65535, lt100000, decide_eq_true_eq, decide_eq_false_iff_not, Nat.le_refl, true_or, or_true, eq_self, lt4]
          refine ⟨fun h => bad (fun q2 => by omega), fun h => ?_⟩
          have htq := h1 (rd tx n 6 q 0).2 (by omega)
          have e1 : I2 (X + 1) (rd tx n 6 q 0).2 = nI (tx (rd tx n 6 q 0).2) := by rw [hf2 (X + 1) (by omega), hf.1 (X + 1) (by omega) (by omega)]; exact htq.1
          try simp (disch := omega) only [nm1, nm1', nsub1, np1, npd, nadd, n0m1, m1lt, nlt0, nge0, ngt0, nle0, nlt, nle, neq, neq0, m1n, m4n, vpn, vcl, ne_eq, bI_0, bI_1, bI_01, lit01, lit00, oI_s, oI_n, true_and, and_true, not_true_eq_false, not_false_eq_true, true_implies, false_implies, and_self, implies_true, forall_const, Bool.not_eq_false, Bool.not_eq_true, iu_s, iu_k1, iu_j1, ia_s1, ia_k1, lt2, lt3, lt5, lt6, lt7, lt8, lt9, lt10, lt11, lt12, lt15, lt16, lt17, lt20, lt30, lt32, lt48, lt57, lt71, lt80, lt97, lt98, lt108, lt110, lt126, lt191, lt200, lt227, lt681, lt65535, lt100000, decide_eq_true_eq, decide_eq_false_iff_not, Nat.le_refl, true_or, or_true, eq_self, lt4, arrE, e1]
          have bsg : (if r = 0 then 59 else 44) < 2147483648 := by split <;> omega
          rw [neq (by omega) bsg]
          refine ⟨fun h2 => ?_, fun h2 => bad (fun q2 => h2 q2.2.2)⟩
          refine ih (i + 1) ((rd tx n 6 q 0).2 + 1) (fun j => if j = i then (rd tx n 6 q 0).1 else w j) _ _ (by omega) (by omega) (fun _ => by rw [he, rdL, if_pos ⟨hv, by omega, h2⟩]) ⟨fun k hk hk2 => ?_, ?_, ?_⟩ ?_ ?_ ?_ (fun j hj => ?_)
          · rw [iu_k hk, fx.1 k hk hk2]
          · rw [iu_j1 (by omega), fx.2.1]
          · rw [iu_j1 (by omega), fx.2.2]
          · rw [iu_j1 (by omega), x3]
          · try simp (disch := omega) only [nm1, nm1', nsub1, np1, npd, nadd, n0m1, m1lt, nlt0, nge0, ngt0, nle0, nlt, nle, neq, neq0, m1n, m4n, vpn, vcl, ne_eq, bI_0, bI_1, bI_01, lit01, lit00, oI_s, oI_n, true_and, and_true, not_true_eq_false, not_false_eq_true, true_implies, false_implies, and_self, implies_true, forall_const, Bool.not_eq_false, Bool.not_eq_true, iu_s, iu_k1, iu_j1, ia_s1, ia_k1, lt2, lt3, lt5, lt6, lt7, lt8, lt9, lt10, lt11, lt12, lt15, lt16, lt17, lt20, lt30, lt32, lt48, lt57, lt71, lt80, lt97, lt98, lt108, lt110, lt126, lt191, lt200, lt227, lt681, lt65535, lt100000, decide_eq_true_eq, decide_eq_false_iff_not, Nat.le_refl, true_or, or_true, eq_self, lt4]
          · rw [iu_j1 (by omega), iu_k1 (by omega), hj2 5 (by omega), h5']
          · rw [iu_k1 (by omega), iu_i]
            by_cases hji : j = i
            · rw [if_pos hji, if_pos hji]
            · rw [if_neg hji, if_neg hji, hf2 (X + 2) (by omega)]; exact hw j (by omega)
        · simp only [hv, if_false] at bad fx x3 ⊢
          try simp (disch := omega) only [nm1, nm1', nsub1, np1, npd, nadd, n0m1, m1lt, nlt0, nge0, ngt0, nle0, nlt, nle, neq, neq0, m1n, m4n, vpn, vcl, ne_eq, bI_0, bI_1, bI_01, lit01, lit00, oI_s, oI_n, true_and, and_true, not_true_eq_false, not_false_eq_true, true_implies, false_implies, and_self, implies_true, forall_const, Bool.not_eq_false, Bool.not_eq_true, iu_s, iu_k1, iu_j1, ia_s1, ia_k1, lt2, lt3, lt5, lt6, lt7, lt8, lt9, lt10, lt11, lt12, lt15, lt16, lt17, lt20, lt30, lt32, lt48, lt57, lt71, lt80, lt97, lt98, lt108, lt110, lt126, lt191, lt200, lt227, lt681, lt65535, lt100000, decide_eq_true_eq, decide_eq_false_iff_not, Nat.le_refl, true_or, or_true, eq_self, lt4]
          exact bad (fun q2 => q2.1)
      apply am_fold; rw [h_X2_readEntry_30]
      simp only [↓ap_cc, ↓ap_const, ↓ap_iload, ↓ap_aload, ↓ap_istore, ↓ap_astore, ↓ap_iinc, ↓ap_bin, ↓ap_idiv, ↓ap_i2c, ↓ap_dup, ↓ap_dup2, ↓ap_nn, ↓ap_ic, ↓ap_if, ↓ap_sw, ↓ap_head, ↓ap_getI, ↓ap_getR, ↓ap_putI, ↓ap_putN, ↓ap_putR, ↓ap_iald, ↓ap_cald, ↓ap_iast, ↓ap_cast, ↓ap_aald, ↓ap_aast, ↓ap_alen, ↓ap_stat, ↓ap_pop, ↓ap_mm, ↓ap_copy, ↓ap_ret, ↓ap_iret, ↓ap_zret, ↓ap_aret, ↓ap_retA, ↓ap_new, ↓ap_newa, ↓ap_callV, ↓ap_callS, ↓ap_callI, am_in, List.map_cons, List.map_nil, List.getElem?_cons_zero, List.getElem?_cons_succ, List.set_cons_zero, List.set_cons_succ, List.take_succ_cons, List.take_zero, List.drop_succ_cons, List.drop_zero, List.reverse_cons, List.reverse_nil, List.nil_append, List.cons_append, List.append_nil, List.length_cons, List.length_nil, List.replicate_succ, List.replicate_zero, Option.toList_some, Option.toList_none, true_and, and_true, Option.some.injEq, exists_eq_left', am_wI_mk, am_wA_mk, am_wR_mk, Nat.reduceAdd, Nat.reduceSub, Nat.reduceLeDiff, Nat.zero_add, Nat.le_refl, not_true_eq_false, not_false_eq_true, forall_const, false_implies, true_implies, implies_true, and_self, Prod.mk.injEq, eq_self, true_or, or_true, false_and, and_false, or_false, false_or, Nat.reduceEqDiff, ↓a_X2_readEntry_30, ↓a_X2_readEntry_57, s0, s1, s2, r1, r7, arr1 s2]
      try simp (disch := omega) only [nm1, nm1', nsub1, np1, npd, nadd, n0m1, m1lt, nlt0, nge0, ngt0, nle0, nlt, nle, neq, neq0, m1n, m4n, vpn, vcl, ne_eq, bI_0, bI_1, bI_01, lit01, lit00, oI_s, oI_n, true_and, and_true, not_true_eq_false, not_false_eq_true, true_implies, false_implies, and_self, implies_true, forall_const, Bool.not_eq_false, Bool.not_eq_true, iu_s, iu_k1, iu_j1, ia_s1, ia_k1, lt2, lt3, lt5, lt6, lt7, lt8, lt9, lt10, lt11, lt12, lt15, lt16, lt17, lt20, lt30, lt32, lt48, lt57, lt71, lt80, lt97, lt98, lt108, lt110, lt126, lt191, lt200, lt227, lt681, lt65535, lt100000, decide_eq_true_eq, decide_eq_false_iff_not, Nat.le_refl, true_or, or_true, eq_self, lt4]
      refine ⟨fun h => by omega, fun _ => f_readNumber hS hIX hq h6' (fun I2 hf2 hj2 h62 => ?_)⟩
      simp only [↓ap_cc, ↓ap_const, ↓ap_iload, ↓ap_aload, ↓ap_istore, ↓ap_astore, ↓ap_iinc, ↓ap_bin, ↓ap_idiv, ↓ap_i2c, ↓ap_dup, ↓ap_dup2, ↓ap_nn, ↓ap_ic, ↓ap_if, ↓ap_sw, ↓ap_head, ↓ap_getI, ↓ap_getR, ↓ap_putI, ↓ap_putN, ↓ap_putR, ↓ap_iald, ↓ap_cald, ↓ap_iast, ↓ap_cast, ↓ap_aald, ↓ap_aast, ↓ap_alen, ↓ap_stat, ↓ap_pop, ↓ap_mm, ↓ap_copy, ↓ap_ret, ↓ap_iret, ↓ap_zret, ↓ap_aret, ↓ap_retA, ↓ap_new, ↓ap_newa, ↓ap_callV, ↓ap_callS, ↓ap_callI, am_in, List.map_cons, List.map_nil, List.getElem?_cons_zero, List.getElem?_cons_succ, List.set_cons_zero, List.set_cons_succ, List.take_succ_cons, List.take_zero, List.drop_succ_cons, List.drop_zero, List.reverse_cons, List.reverse_nil, List.nil_append, List.cons_append, List.append_nil, List.length_cons, List.length_nil, List.replicate_succ, List.replicate_zero, Option.toList_some, Option.toList_none, true_and, and_true, Option.some.injEq, exists_eq_left', am_wI_mk, am_wA_mk, am_wR_mk, Nat.reduceAdd, Nat.reduceSub, Nat.reduceLeDiff, Nat.zero_add, Nat.le_refl, not_true_eq_false, not_false_eq_true, forall_const, false_implies, true_implies, implies_true, and_self, Prod.mk.injEq, eq_self, true_or, or_true, false_and, and_false, or_false, false_or, Nat.reduceEqDiff, ↓a_X2_readEntry_30, ↓a_X2_readEntry_57, s0, s1, s2, r1, r7, arr1 s2]
      try simp (disch := omega) only [nm1, nm1', nsub1, np1, npd, nadd, n0m1, m1lt, nlt0, nge0, ngt0, nle0, nlt, nle, neq, neq0, m1n, m4n, vpn, vcl, ne_eq, bI_0, bI_1, bI_01, lit01, lit00, oI_s, oI_n, true_and, and_true, not_true_eq_false, not_false_eq_true, true_implies, false_implies, and_self, implies_true, forall_const, Bool.not_eq_false, Bool.not_eq_true, iu_s, iu_k1, iu_j1, ia_s1, ia_k1, lt2, lt3, lt5, lt6, lt7, lt8, lt9, lt10, lt11, lt12, lt15, lt16, lt17, lt20, lt30, lt32, lt48, lt57, lt71, lt80, lt97, lt98, lt108, lt110, lt126, lt191, lt200, lt227, lt681, lt65535, lt100000, decide_eq_true_eq, decide_eq_false_iff_not, Nat.le_refl, true_or, or_true, eq_self, lt4]
      refine ⟨fun h => ?_, fun h => ?_⟩
      · have := fin I2 hf2 hj2 h62 o
        rw [if_neg (c := r = 0) (by omega)] at this
        exact this
      · have := fin I2 hf2 hj2 h62 o
        rw [if_pos (c := r = 0) (by omega)] at this
        exact this
  refine ⟨Nat.le_of_ble_eq_true rfl, am_fold ?_⟩; rw [h_X2_readEntry_0]
  simp only [↓ap_cc, ↓ap_const, ↓ap_iload, ↓ap_aload, ↓ap_istore, ↓ap_astore, ↓ap_iinc, ↓ap_bin, ↓ap_idiv, ↓ap_i2c, ↓ap_dup, ↓ap_dup2, ↓ap_nn, ↓ap_ic, ↓ap_if, ↓ap_sw, ↓ap_head, ↓ap_getI, ↓ap_getR, ↓ap_putI, ↓ap_putN, ↓ap_putR, ↓ap_iald, ↓ap_cald, ↓ap_iast, ↓ap_cast, ↓ap_aald, ↓ap_aast, ↓ap_alen, ↓ap_stat, ↓ap_pop, ↓ap_mm, ↓ap_copy, ↓ap_ret, ↓ap_iret, ↓ap_zret, ↓ap_aret, ↓ap_retA, ↓ap_new, ↓ap_newa, ↓ap_callV, ↓ap_callS, ↓ap_callI, am_in, List.map_cons, List.map_nil, List.getElem?_cons_zero, List.getElem?_cons_succ, List.set_cons_zero, List.set_cons_succ, List.take_succ_cons, List.take_zero, List.drop_succ_cons, List.drop_zero, List.reverse_cons, List.reverse_nil, List.nil_append, List.cons_append, List.append_nil, List.length_cons, List.length_nil, List.replicate_succ, List.replicate_zero, Option.toList_some, Option.toList_none, true_and, and_true, Option.some.injEq, exists_eq_left', am_wI_mk, am_wA_mk, am_wR_mk, Nat.reduceAdd, Nat.reduceSub, Nat.reduceLeDiff, Nat.zero_add, Nat.le_refl, not_true_eq_false, not_false_eq_true, forall_const, false_implies, true_implies, implies_true, and_self, Prod.mk.injEq, eq_self, true_or, or_true, false_and, and_false, or_false, false_or, Nat.reduceEqDiff, ↓a_X2_readEntry_0, s0, s1, s2, r1, r7, h6]
  try simp (disch := omega) only [nm1, nm1', nsub1, np1, npd, nadd, n0m1, m1lt, nlt0, nge0, ngt0, nle0, nlt, nle, neq, neq0, m1n, m4n, vpn, vcl, ne_eq, bI_0, bI_1, bI_01, lit01, lit00, oI_s, oI_n, true_and, and_true, not_true_eq_false, not_false_eq_true, true_implies, false_implies, and_self, implies_true, forall_const, Bool.not_eq_false, Bool.not_eq_true, iu_s, iu_k1, iu_j1, ia_s1, ia_k1, lt2, lt3, lt5, lt6, lt7, lt8, lt9, lt10, lt11, lt12, lt15, lt16, lt17, lt20, lt30, lt32, lt48, lt57, lt71, lt80, lt97, lt98, lt108, lt110, lt126, lt191, lt200, lt227, lt681, lt65535, lt100000, decide_eq_true_eq, decide_eq_false_iff_not, Nat.le_refl, true_or, or_true, eq_self, lt4, arrE, ht.1, fit_c]
  refine f_numbersDue s0 (by omega) (c := tx p) (by try simp (disch := omega) only [nm1, nm1', nsub1, np1, npd, nadd, n0m1, m1lt, nlt0, nge0, ngt0, nle0, nlt, nle, neq, neq0, m1n, m4n, vpn, vcl, ne_eq, bI_0, bI_1, bI_01, lit01, lit00, oI_s, oI_n, true_and, and_true, not_true_eq_false, not_false_eq_true, true_implies, false_implies, and_self, implies_true, forall_const, Bool.not_eq_false, Bool.not_eq_true, iu_s, iu_k1, iu_j1, ia_s1, ia_k1, lt2, lt3, lt5, lt6, lt7, lt8, lt9, lt10, lt11, lt12, lt15, lt16, lt17, lt20, lt30, lt32, lt48, lt57, lt71, lt80, lt97, lt98, lt108, lt110, lt126, lt191, lt200, lt227, lt681, lt65535, lt100000, decide_eq_true_eq, decide_eq_false_iff_not, Nat.le_refl, true_or, or_true, eq_self, lt4]) ?_
  simp only [↓ap_cc, ↓ap_const, ↓ap_iload, ↓ap_aload, ↓ap_istore, ↓ap_astore, ↓ap_iinc, ↓ap_bin, ↓ap_idiv, ↓ap_i2c, ↓ap_dup, ↓ap_dup2, ↓ap_nn, ↓ap_ic, ↓ap_if, ↓ap_sw, ↓ap_head, ↓ap_getI, ↓ap_getR, ↓ap_putI, ↓ap_putN, ↓ap_putR, ↓ap_iald, ↓ap_cald, ↓ap_iast, ↓ap_cast, ↓ap_aald, ↓ap_aast, ↓ap_alen, ↓ap_stat, ↓ap_pop, ↓ap_mm, ↓ap_copy, ↓ap_ret, ↓ap_iret, ↓ap_zret, ↓ap_aret, ↓ap_retA, ↓ap_new, ↓ap_newa, ↓ap_callV, ↓ap_callS, ↓ap_callI, am_in, List.map_cons, List.map_nil, List.getElem?_cons_zero, List.getElem?_cons_succ, List.set_cons_zero, List.set_cons_succ, List.take_succ_cons, List.take_zero, List.drop_succ_cons, List.drop_zero, List.reverse_cons, List.reverse_nil, List.nil_append, List.cons_append, List.append_nil, List.length_cons, List.length_nil, List.replicate_succ, List.replicate_zero, Option.toList_some, Option.toList_none, true_and, and_true, Option.some.injEq, exists_eq_left', am_wI_mk, am_wA_mk, am_wR_mk, Nat.reduceAdd, Nat.reduceSub, Nat.reduceLeDiff, Nat.zero_add, Nat.le_refl, not_true_eq_false, not_false_eq_true, forall_const, false_implies, true_implies, implies_true, and_self, Prod.mk.injEq, eq_self, true_or, or_true, false_and, and_false, or_false, false_or, Nat.reduceEqDiff, ↓a_X2_readEntry_0]
  refine loop (due (tx p)) 0 (p + 1) (fun _ => 0) _ none (by omega) (by omega) e0 ⟨fun k hk hk2 => ?_, ?_, ?_⟩ ?_ ?_ ?_ (fun j hj => by omega)
  · rw [iu_k hk, iu_k hk]
  · rw [iu_j1 (by omega), iu_j1 (by omega)]
  · rw [iu_j1 (by omega), iu_j1 (by omega)]
  · rw [iu_j1 (by omega), iu_j1 (by omega)]
  · try simp (disch := omega) only [nm1, nm1', nsub1, np1, npd, nadd, n0m1, m1lt, nlt0, nge0, ngt0, nle0, nlt, nle, neq, neq0, m1n, m4n, vpn, vcl, ne_eq, bI_0, bI_1, bI_01, lit01, lit00, oI_s, oI_n, true_and, and_true, not_true_eq_false, not_false_eq_true, true_implies, false_implies, and_self, implies_true, forall_const, Bool.not_eq_false, Bool.not_eq_true, iu_s, iu_k1, iu_j1, ia_s1, ia_k1, lt2, lt3, lt5, lt6, lt7, lt8, lt9, lt10, lt11, lt12, lt15, lt16, lt17, lt20, lt30, lt32, lt48, lt57, lt71, lt80, lt97, lt98, lt108, lt110, lt126, lt191, lt200, lt227, lt681, lt65535, lt100000, decide_eq_true_eq, decide_eq_false_iff_not, Nat.le_refl, true_or, or_true, eq_self, lt4, h6]
  · try simp (disch := omega) only [nm1, nm1', nsub1, np1, npd, nadd, n0m1, m1lt, nlt0, nge0, ngt0, nle0, nlt, nle, neq, neq0, m1n, m4n, vpn, vcl, ne_eq, bI_0, bI_1, bI_01, lit01, lit00, oI_s, oI_n, true_and, and_true, not_true_eq_false, not_false_eq_true, true_implies, false_implies, and_self, implies_true, forall_const, Bool.not_eq_false, Bool.not_eq_true, iu_s, iu_k1, iu_j1, ia_s1, ia_k1, lt2, lt3, lt5, lt6, lt7, lt8, lt9, lt10, lt11, lt12, lt15, lt16, lt17, lt20, lt30, lt32, lt48, lt57, lt71, lt80, lt97, lt98, lt108, lt110, lt126, lt191, lt200, lt227, lt681, lt65535, lt100000, decide_eq_true_eq, decide_eq_false_iff_not, Nat.le_refl, true_or, or_true, eq_self, lt4]
theorem f_lineFault {w : Nat → Nat} (hS : TxtS S R X) (hL : LogS S R L) (hI : LogI I L a) (hB : LgB a) (hw : ∀ j, j < 4 → I (X + 2) j = nI (w j) ∧ w j < 1000000) (hp : post (some (.inl (nI (entF a 108 w)))) (S, I, R)) : sp_X2_lineFault [.inr X, .inr L] (S, I, R) post := by
  obtain ⟨s0, s1, s2, r1, r7⟩ := hS
  have l0 := hL.1.1
  have bn := hB.n
  obtain ⟨w0, b0⟩ := hw 0 (by decide)
  obtain ⟨w1, b1⟩ := hw 1 (by decide)
  obtain ⟨w2, b2⟩ := hw 2 (by decide)
  obtain ⟨w3, b3⟩ := hw 3 (by decide)
  unfold entF at hp
  rw [if_pos rfl] at hp
  refine ⟨Nat.le_of_ble_eq_true rfl, am_fold ?_⟩; rw [h_X2_lineFault_0]
  simp only [↓ap_cc, ↓ap_const, ↓ap_iload, ↓ap_aload, ↓ap_istore, ↓ap_astore, ↓ap_iinc, ↓ap_bin, ↓ap_idiv, ↓ap_i2c, ↓ap_dup, ↓ap_dup2, ↓ap_nn, ↓ap_ic, ↓ap_if, ↓ap_sw, ↓ap_head, ↓ap_getI, ↓ap_getR, ↓ap_putI, ↓ap_putN, ↓ap_putR, ↓ap_iald, ↓ap_cald, ↓ap_iast, ↓ap_cast, ↓ap_aald, ↓ap_aast, ↓ap_alen, ↓ap_stat, ↓ap_pop, ↓ap_mm, ↓ap_copy, ↓ap_ret, ↓ap_iret, ↓ap_zret, ↓ap_aret, ↓ap_retA, ↓ap_new, ↓ap_newa, ↓ap_callV, ↓ap_callS, ↓ap_callI, am_in, List.map_cons, List.map_nil, List.getElem?_cons_zero, List.getElem?_cons_succ, List.set_cons_zero, List.set_cons_succ, List.take_succ_cons, List.take_zero, List.drop_succ_cons, List.drop_zero, List.reverse_cons, List.reverse_nil, List.nil_append, List.cons_append, List.append_nil, List.length_cons, List.length_nil, List.replicate_succ, List.replicate_zero, Option.toList_some, Option.toList_none, true_and, and_true, Option.some.injEq, exists_eq_left', am_wI_mk, am_wA_mk, am_wR_mk, Nat.reduceAdd, Nat.reduceSub, Nat.reduceLeDiff, Nat.zero_add, Nat.le_refl, not_true_eq_false, not_false_eq_true, forall_const, false_implies, true_implies, implies_true, and_self, Prod.mk.injEq, eq_self, true_or, or_true, false_and, and_false, or_false, false_or, Nat.reduceEqDiff, ↓a_X2_lineFault_64, ↓a_X2_lineFault_63, ↓a_X2_lineFault_50, ↓a_X2_lineFault_48, ↓a_X2_lineFault_0, s0, s2, r7, arr1 s2]
  try simp (disch := omega) only [nm1, nm1', nsub1, np1, npd, nadd, n0m1, m1lt, nlt0, nge0, ngt0, nle0, nlt, nle, neq, neq0, m1n, m4n, vpn, vcl, ne_eq, bI_0, bI_1, bI_01, lit01, lit00, oI_s, oI_n, true_and, and_true, not_true_eq_false, not_false_eq_true, true_implies, false_implies, and_self, implies_true, forall_const, Bool.not_eq_false, Bool.not_eq_true, iu_s, iu_k1, iu_j1, ia_s1, ia_k1, lt2, lt3, lt5, lt6, lt7, lt8, lt9, lt10, lt11, lt12, lt15, lt16, lt17, lt20, lt30, lt32, lt48, lt57, lt71, lt80, lt97, lt98, lt108, lt110, lt126, lt191, lt200, lt227, lt681, lt65535, lt100000, decide_eq_true_eq, decide_eq_false_iff_not, Nat.le_refl, true_or, or_true, eq_self, lt4, vpn0, vcl0, w0]
  refine f_isTime ?_
  simp only [↓ap_cc, ↓ap_const, ↓ap_iload, ↓ap_aload, ↓ap_istore, ↓ap_astore, ↓ap_iinc, ↓ap_bin, ↓ap_idiv, ↓ap_i2c, ↓ap_dup, ↓ap_dup2, ↓ap_nn, ↓ap_ic, ↓ap_if, ↓ap_sw, ↓ap_head, ↓ap_getI, ↓ap_getR, ↓ap_putI, ↓ap_putN, ↓ap_putR, ↓ap_iald, ↓ap_cald, ↓ap_iast, ↓ap_cast, ↓ap_aald, ↓ap_aast, ↓ap_alen, ↓ap_stat, ↓ap_pop, ↓ap_mm, ↓ap_copy, ↓ap_ret, ↓ap_iret, ↓ap_zret, ↓ap_aret, ↓ap_retA, ↓ap_new, ↓ap_newa, ↓ap_callV, ↓ap_callS, ↓ap_callI, am_in, List.map_cons, List.map_nil, List.getElem?_cons_zero, List.getElem?_cons_succ, List.set_cons_zero, List.set_cons_succ, List.take_succ_cons, List.take_zero, List.drop_succ_cons, List.drop_zero, List.reverse_cons, List.reverse_nil, List.nil_append, List.cons_append, List.append_nil, List.length_cons, List.length_nil, List.replicate_succ, List.replicate_zero, Option.toList_some, Option.toList_none, true_and, and_true, Option.some.injEq, exists_eq_left', am_wI_mk, am_wA_mk, am_wR_mk, Nat.reduceAdd, Nat.reduceSub, Nat.reduceLeDiff, Nat.zero_add, Nat.le_refl, not_true_eq_false, not_false_eq_true, forall_const, false_implies, true_implies, implies_true, and_self, Prod.mk.injEq, eq_self, true_or, or_true, false_and, and_false, or_false, false_or, Nat.reduceEqDiff, ↓a_X2_lineFault_64, ↓a_X2_lineFault_63, ↓a_X2_lineFault_50, ↓a_X2_lineFault_48, ↓a_X2_lineFault_0, s0, s2, r7, arr1 s2]
  try simp (disch := omega) only [nm1, nm1', nsub1, np1, npd, nadd, n0m1, m1lt, nlt0, nge0, ngt0, nle0, nlt, nle, neq, neq0, m1n, m4n, vpn, vcl, ne_eq, bI_0, bI_1, bI_01, lit01, lit00, oI_s, oI_n, true_and, and_true, not_true_eq_false, not_false_eq_true, true_implies, false_implies, and_self, implies_true, forall_const, Bool.not_eq_false, Bool.not_eq_true, iu_s, iu_k1, iu_j1, ia_s1, ia_k1, lt2, lt3, lt5, lt6, lt7, lt8, lt9, lt10, lt11, lt12, lt15, lt16, lt17, lt20, lt30, lt32, lt48, lt57, lt71, lt80, lt97, lt98, lt108, lt110, lt126, lt191, lt200, lt227, lt681, lt65535, lt100000, decide_eq_true_eq, decide_eq_false_iff_not, Nat.le_refl, true_or, or_true, eq_self, lt4, vpn1, vcl1, w1]
  refine ⟨fun h => ?_, fun h => f_isPerson ?_⟩
  · rw [if_neg (by omega)] at hp; exact hp
  simp only [↓ap_cc, ↓ap_const, ↓ap_iload, ↓ap_aload, ↓ap_istore, ↓ap_astore, ↓ap_iinc, ↓ap_bin, ↓ap_idiv, ↓ap_i2c, ↓ap_dup, ↓ap_dup2, ↓ap_nn, ↓ap_ic, ↓ap_if, ↓ap_sw, ↓ap_head, ↓ap_getI, ↓ap_getR, ↓ap_putI, ↓ap_putN, ↓ap_putR, ↓ap_iald, ↓ap_cald, ↓ap_iast, ↓ap_cast, ↓ap_aald, ↓ap_aast, ↓ap_alen, ↓ap_stat, ↓ap_pop, ↓ap_mm, ↓ap_copy, ↓ap_ret, ↓ap_iret, ↓ap_zret, ↓ap_aret, ↓ap_retA, ↓ap_new, ↓ap_newa, ↓ap_callV, ↓ap_callS, ↓ap_callI, am_in, List.map_cons, List.map_nil, List.getElem?_cons_zero, List.getElem?_cons_succ, List.set_cons_zero, List.set_cons_succ, List.take_succ_cons, List.take_zero, List.drop_succ_cons, List.drop_zero, List.reverse_cons, List.reverse_nil, List.nil_append, List.cons_append, List.append_nil, List.length_cons, List.length_nil, List.replicate_succ, List.replicate_zero, Option.toList_some, Option.toList_none, true_and, and_true, Option.some.injEq, exists_eq_left', am_wI_mk, am_wA_mk, am_wR_mk, Nat.reduceAdd, Nat.reduceSub, Nat.reduceLeDiff, Nat.zero_add, Nat.le_refl, not_true_eq_false, not_false_eq_true, forall_const, false_implies, true_implies, implies_true, and_self, Prod.mk.injEq, eq_self, true_or, or_true, false_and, and_false, or_false, false_or, Nat.reduceEqDiff, ↓a_X2_lineFault_64, ↓a_X2_lineFault_63, ↓a_X2_lineFault_50, ↓a_X2_lineFault_48, ↓a_X2_lineFault_0, s0, s2, r7, arr1 s2]
  try simp (disch := omega) only [nm1, nm1', nsub1, np1, npd, nadd, n0m1, m1lt, nlt0, nge0, ngt0, nle0, nlt, nle, neq, neq0, m1n, m4n, vpn, vcl, ne_eq, bI_0, bI_1, bI_01, lit01, lit00, oI_s, oI_n, true_and, and_true, not_true_eq_false, not_false_eq_true, true_implies, false_implies, and_self, implies_true, forall_const, Bool.not_eq_false, Bool.not_eq_true, iu_s, iu_k1, iu_j1, ia_s1, ia_k1, lt2, lt3, lt5, lt6, lt7, lt8, lt9, lt10, lt11, lt12, lt15, lt16, lt17, lt20, lt30, lt32, lt48, lt57, lt71, lt80, lt97, lt98, lt108, lt110, lt126, lt191, lt200, lt227, lt681, lt65535, lt100000, decide_eq_true_eq, decide_eq_false_iff_not, Nat.le_refl, true_or, or_true, eq_self, lt4, w2]
  refine ⟨fun h2 => ?_, fun h2 => f_isSet ?_⟩
  · rw [if_neg (by omega)] at hp; exact hp
  simp only [↓ap_cc, ↓ap_const, ↓ap_iload, ↓ap_aload, ↓ap_istore, ↓ap_astore, ↓ap_iinc, ↓ap_bin, ↓ap_idiv, ↓ap_i2c, ↓ap_dup, ↓ap_dup2, ↓ap_nn, ↓ap_ic, ↓ap_if, ↓ap_sw, ↓ap_head, ↓ap_getI, ↓ap_getR, ↓ap_putI, ↓ap_putN, ↓ap_putR, ↓ap_iald, ↓ap_cald, ↓ap_iast, ↓ap_cast, ↓ap_aald, ↓ap_aast, ↓ap_alen, ↓ap_stat, ↓ap_pop, ↓ap_mm, ↓ap_copy, ↓ap_ret, ↓ap_iret, ↓ap_zret, ↓ap_aret, ↓ap_retA, ↓ap_new, ↓ap_newa, ↓ap_callV, ↓ap_callS, ↓ap_callI, am_in, List.map_cons, List.map_nil, List.getElem?_cons_zero, List.getElem?_cons_succ, List.set_cons_zero, List.set_cons_succ, List.take_succ_cons, List.take_zero, List.drop_succ_cons, List.drop_zero, List.reverse_cons, List.reverse_nil, List.nil_append, List.cons_append, List.append_nil, List.length_cons, List.length_nil, List.replicate_succ, List.replicate_zero, Option.toList_some, Option.toList_none, true_and, and_true, Option.some.injEq, exists_eq_left', am_wI_mk, am_wA_mk, am_wR_mk, Nat.reduceAdd, Nat.reduceSub, Nat.reduceLeDiff, Nat.zero_add, Nat.le_refl, not_true_eq_false, not_false_eq_true, forall_const, false_implies, true_implies, implies_true, and_self, Prod.mk.injEq, eq_self, true_or, or_true, false_and, and_false, or_false, false_or, Nat.reduceEqDiff, ↓a_X2_lineFault_64, ↓a_X2_lineFault_63, ↓a_X2_lineFault_50, ↓a_X2_lineFault_48, ↓a_X2_lineFault_0, s0, s2, r7, arr1 s2]
  try simp (disch := omega) only [nm1, nm1', nsub1, np1, npd, nadd, n0m1, m1lt, nlt0, nge0, ngt0, nle0, nlt, nle, neq, neq0, m1n, m4n, vpn, vcl, ne_eq, bI_0, bI_1, bI_01, lit01, lit00, oI_s, oI_n, true_and, and_true, not_true_eq_false, not_false_eq_true, true_implies, false_implies, and_self, implies_true, forall_const, Bool.not_eq_false, Bool.not_eq_true, iu_s, iu_k1, iu_j1, ia_s1, ia_k1, lt2, lt3, lt5, lt6, lt7, lt8, lt9, lt10, lt11, lt12, lt15, lt16, lt17, lt20, lt30, lt32, lt48, lt57, lt71, lt80, lt97, lt98, lt108, lt110, lt126, lt191, lt200, lt227, lt681, lt65535, lt100000, decide_eq_true_eq, decide_eq_false_iff_not, Nat.le_refl, true_or, or_true, eq_self, lt4, w3]
  refine ⟨fun h3 => ?_, fun h3 => f_isSet ?_⟩
  · rw [if_neg (by omega)] at hp; exact hp
  simp only [↓ap_cc, ↓ap_const, ↓ap_iload, ↓ap_aload, ↓ap_istore, ↓ap_astore, ↓ap_iinc, ↓ap_bin, ↓ap_idiv, ↓ap_i2c, ↓ap_dup, ↓ap_dup2, ↓ap_nn, ↓ap_ic, ↓ap_if, ↓ap_sw, ↓ap_head, ↓ap_getI, ↓ap_getR, ↓ap_putI, ↓ap_putN, ↓ap_putR, ↓ap_iald, ↓ap_cald, ↓ap_iast, ↓ap_cast, ↓ap_aald, ↓ap_aast, ↓ap_alen, ↓ap_stat, ↓ap_pop, ↓ap_mm, ↓ap_copy, ↓ap_ret, ↓ap_iret, ↓ap_zret, ↓ap_aret, ↓ap_retA, ↓ap_new, ↓ap_newa, ↓ap_callV, ↓ap_callS, ↓ap_callI, am_in, List.map_cons, List.map_nil, List.getElem?_cons_zero, List.getElem?_cons_succ, List.set_cons_zero, List.set_cons_succ, List.take_succ_cons, List.take_zero, List.drop_succ_cons, List.drop_zero, List.reverse_cons, List.reverse_nil, List.nil_append, List.cons_append, List.append_nil, List.length_cons, List.length_nil, List.replicate_succ, List.replicate_zero, Option.toList_some, Option.toList_none, true_and, and_true, Option.some.injEq, exists_eq_left', am_wI_mk, am_wA_mk, am_wR_mk, Nat.reduceAdd, Nat.reduceSub, Nat.reduceLeDiff, Nat.zero_add, Nat.le_refl, not_true_eq_false, not_false_eq_true, forall_const, false_implies, true_implies, implies_true, and_self, Prod.mk.injEq, eq_self, true_or, or_true, false_and, and_false, or_false, false_or, Nat.reduceEqDiff, ↓a_X2_lineFault_64, ↓a_X2_lineFault_63, ↓a_X2_lineFault_50, ↓a_X2_lineFault_48, ↓a_X2_lineFault_0, s0, s2, r7, arr1 s2, l0]
  try simp (disch := omega) only [nm1, nm1', nsub1, np1, npd, nadd, n0m1, m1lt, nlt0, nge0, ngt0, nle0, nlt, nle, neq, neq0, m1n, m4n, vpn, vcl, ne_eq, bI_0, bI_1, bI_01, lit01, lit00, oI_s, oI_n, true_and, and_true, not_true_eq_false, not_false_eq_true, true_implies, false_implies, and_self, implies_true, forall_const, Bool.not_eq_false, Bool.not_eq_true, iu_s, iu_k1, iu_j1, ia_s1, ia_k1, lt2, lt3, lt5, lt6, lt7, lt8, lt9, lt10, lt11, lt12, lt15, lt16, lt17, lt20, lt30, lt32, lt48, lt57, lt71, lt80, lt97, lt98, lt108, lt110, lt126, lt191, lt200, lt227, lt681, lt65535, lt100000, decide_eq_true_eq, decide_eq_false_iff_not, Nat.le_refl, true_or, or_true, eq_self, lt4, hI.n]
  refine ⟨fun h4 => ?_, fun h4 => ?_⟩
  · rw [if_pos (by omega)] at hp
    refine ⟨fun h5 => ?_, fun h5 => ?_⟩
    · rw [if_pos h5] at hp; exact hp
    · rw [if_neg h5] at hp; exact hp
  · rw [if_neg (by omega)] at hp; exact hp
