-- needs: 10 11 12 13 14 20
variable {S : List (Nat × Nat)} {R : Nat → Nat → Option Nat} {I : Nat → Nat → Int32} {X L n : Nat} {tx : Nat → Nat} {a : Lg} {post : am_R}
/-- a number is read: up to d digits more -/
def rd (tx : Nat → Nat) (n : Nat) : Nat → Nat → Nat → Nat × Nat
  | 0, p, v => (v, p)
  | d + 1, p, v => if p < n ∧ 48 ≤ tx p ∧ tx p ≤ 57 then rd tx n d (p + 1) (v * 10 + (tx p - 48)) else (v, p)
theorem rd_b (tx : Nat → Nat) (n : Nat) : ∀ d p v, p ≤ n → (rd tx n d p v).1 + 1 ≤ (v + 1) * 10 ^ d ∧ p ≤ (rd tx n d p v).2 ∧ (rd tx n d p v).2 ≤ n ∧ (rd tx n d p v).2 ≤ p + d
  | 0, p, v, h => by simp [rd]; exact h
  | d + 1, p, v, h => by
    unfold rd
    split
    · rename_i hc
      have ih := rd_b tx n d (p + 1) (v * 10 + (tx p - 48)) (by omega)
      refine ⟨?_, by omega, by omega, by omega⟩
      have h2 : (v * 10 + (tx p - 48) + 1) * 10 ^ d ≤ (v + 1) * 10 * 10 ^ d := Nat.mul_le_mul_right _ (by omega)
      rw [Nat.pow_succ, Nat.mul_comm (10 ^ d) 10, ← Nat.mul_assoc]
      omega
    · refine ⟨?_, by omega, by omega, by omega⟩
      simp only
      have : 1 ≤ 10 ^ (d + 1) := Nat.pow_pos (by decide)
      calc v + 1 = (v + 1) * 1 := by omega
        _ ≤ (v + 1) * 10 ^ (d + 1) := Nat.mul_le_mul_left _ this
/-- r numbers more are read, the next one into place i -/
def rdL (tx : Nat → Nat) (n : Nat) : Nat → Nat → Nat → (Nat → Nat) → Option (Nat × (Nat → Nat))
  | 0, _, p, w => some (p, w)
  | r + 1, i, p, w => if p < (rd tx n 6 p 0).2 ∧ (rd tx n 6 p 0).2 < n ∧ tx (rd tx n 6 p 0).2 = (if r = 0 then 59 else 44) then rdL tx n r (i + 1) ((rd tx n 6 p 0).2 + 1) (fun j => if j = i then (rd tx n 6 p 0).1 else w j) else none
theorem rdL_p (tx : Nat → Nat) (n : Nat) : ∀ r i p w p' w', p ≤ n → rdL tx n r i p w = some (p', w') → p ≤ p' ∧ p' ≤ n ∧ ∀ j, w' j < 1000000 ∨ w' j = w j
  | 0, i, p, w, p', w', h, hs => by cases hs; exact ⟨by omega, h, fun j => Or.inr rfl⟩
  | r + 1, i, p, w, p', w', h, hs => by
    unfold rdL at hs
    by_cases hc : p < (rd tx n 6 p 0).2 ∧ (rd tx n 6 p 0).2 < n ∧ tx (rd tx n 6 p 0).2 = (if r = 0 then 59 else 44)
    · rw [if_pos hc] at hs
      have hb := rd_b tx n 6 p 0 h
      have ih := rdL_p tx n r (i + 1) _ _ p' w' (by omega) hs
      refine ⟨by omega, ih.2.1, fun j => ?_⟩
      rcases ih.2.2 j with h1 | h1
      · exact Or.inl h1
      · by_cases hj : j = i
        · rw [if_pos hj] at h1; left; rw [h1]; have := hb.1; omega
        · rw [if_neg hj] at h1; exact Or.inr h1
    · rw [if_neg hc] at hs; cases hs
/-- how many numbers a letter wants -/
def due (c : Nat) : Nat := if c = 108 then 4 else if c = 98 then 1 else if c = 97 ∨ c = 110 then 2 else 0
/-- an entry at p: where the next one begins, and its numbers -/
def ent (tx : Nat → Nat) (n p : Nat) : Option (Nat × (Nat → Nat)) := if due (tx p) = 0 then none else rdL tx n (due (tx p)) 0 (p + 1) (fun _ => 0)
def kin (c : Nat) : Nat := if c = 98 then 0 else if c = 97 then 1 else 2
/-- why an entry can't be done; 0 if it can -/
def entF (a : Lg) (c : Nat) (w : Nat → Nat) : Nat := if c = 108 then (if w 0 ≤ 100000 ∧ w 1 < 12 ∧ w 2 ≤ 65535 ∧ w 3 ≤ 65535 then (if gn a < 30 then 0 else 4) else 2) else (if w 0 < gn a ∧ (kin c = 0 ∨ w 1 < gn a) then (if gCan a (kin c) (w 0) (if kin c = 0 then 0 else w 1) = true then (if gk a < 12 then 0 else 4) else 3) else 2)
def entD (a : Lg) (c : Nat) (w : Nat → Nat) : Lg := if c = 108 then aL a (w 0) (w 1) (w 2) (w 3) else aF a (kin c) (w 0) (if kin c = 0 then 0 else w 1)
/-- the entries from p on are done: reason, place of the fault, the log, how many -/
def tdo (tx : Nat → Nat) (n : Nat) : Nat → Nat → Lg → Nat → Nat × Nat × Lg × Nat
  | 0, p, a, k => (0, p, a, k)
  | f + 1, p, a, k => if p < n then (match ent tx n p with
    | none => (1, p, a, k)
    | some (p', w) => if entF a (tx p) w = 0 then tdo tx n f p' (entD a (tx p) w) (k + 1) else (entF a (tx p) w, p, a, k)) else (0, p, a, k)
theorem LgB_aL (hB : LgB a) {τ p x y : Nat} (h : gn a < 30) (h1 : τ ≤ 100000) (h2 : p < 12) (h3 : x ≤ 65535) (h4 : y ≤ 65535) : LgB (aL a τ p x y) := by
  have old : ∀ c j, j < gn a → gL (aL a τ p x y) c j = gL a c j := fun c j hj => by simp only [aL_L]; rw [if_neg (by omega)]
  refine ⟨⟨hB.t, by rw [aL_n]; omega, hB.k⟩, hB.2.1, fun j hj => ?_, fun j hj => ?_, hB.s⟩
  · rw [aL_n] at hj
    by_cases hjn : j = gn a
    · simp only [aL_L, hjn, if_true]; exact ⟨h1, h2, h3, h4⟩
    · rw [old 0 j (by omega), old 1 j (by omega), old 2 j (by omega), old 3 j (by omega)]
      exact hB.Ln (by omega)
  · have hF := hB.Fn (j := j) hj
    rw [aL_n]
    refine ⟨hF.1, by have := hF.2.1; simp only [aL_F]; omega, fun h0 => ?_⟩
    have h5 := hF.2.2 h0
    refine ⟨by have := h5.1; simp only [aL_F]; omega, ?_⟩
    have h6 := h5.2
    unfold gE at h6 ⊢
    simp only [aL_F]
    rw [old 0 _ h5.1, old 0 _ hF.2.1]
    exact h6
theorem LgB_aF (hB : LgB a) {k l e : Nat} (h : gk a < 12) (hk : k ≤ 2) (hl : l < gn a) (he : k ≠ 0 → e < gn a ∧ gE a e l) : LgB (aF a k l e) := by
  refine ⟨⟨hB.t, hB.n, by rw [aF_k]; omega⟩, hB.2.1, hB.2.2.1, fun j hj => ?_, hB.s⟩
  rw [aF_k] at hj
  by_cases hjn : j = gk a
  · simp only [aF_F, hjn, if_true]
    exact ⟨hk, hl, he⟩
  · simp only [aF_F, hjn, if_false]
    exact hB.2.2.2.1 j (by omega)
theorem kin_le (c : Nat) : kin c ≤ 2 := by unfold kin; split <;> (try split) <;> omega
theorem gCan_E {k l e : Nat} (h : gCan a k l e = true) (hk : k ≠ 0) : gE a e l := by
  unfold gCan at h
  rw [Bool.and_eq_true, decide_eq_true_eq] at h
  exact h.1.resolve_left hk
theorem LgB_entD (hB : LgB a) {c : Nat} {w : Nat → Nat} (h : entF a c w = 0) : LgB (entD a c w) := by
  unfold entF at h
  unfold entD
  by_cases hc : c = 108
  · rw [if_pos hc] at h ⊢
    by_cases h1 : w 0 ≤ 100000 ∧ w 1 < 12 ∧ w 2 ≤ 65535 ∧ w 3 ≤ 65535
    · rw [if_pos h1] at h
      by_cases h2 : gn a < 30
      · exact LgB_aL hB h2 h1.1 h1.2.1 h1.2.2.1 h1.2.2.2
      · rw [if_neg h2] at h; omega
    · rw [if_neg h1] at h; omega
  · rw [if_neg hc] at h ⊢
    by_cases h1 : w 0 < gn a ∧ (kin c = 0 ∨ w 1 < gn a)
    · rw [if_pos h1] at h
      by_cases h2 : gCan a (kin c) (w 0) (if kin c = 0 then 0 else w 1) = true
      · rw [if_pos h2] at h
        by_cases h3 : gk a < 12
        · refine LgB_aF hB h3 (kin_le c) h1.1 (fun hk => ?_)
          rw [if_neg hk] at h2 ⊢
          exact ⟨h1.2.resolve_left hk, gCan_E h2 hk⟩
        · rw [if_neg h3] at h; omega
      · rw [if_neg h2] at h; omega
    · rw [if_neg h1] at h; omega
def TxtS (S : List (Nat × Nat)) (R : Nat → Nat → Option Nat) (X : Nat) : Prop := S[X]? = some (0, 2) ∧ S[X + 1]? = some (2, 80) ∧ S[X + 2]? = some (1, 4) ∧ R X 1 = some (X + 1) ∧ R X 7 = some (X + 2)
def TxtI (I : Nat → Nat → Int32) (X n : Nat) (tx : Nat → Nat) : Prop := n ≤ 80 ∧ I X 0 = nI n ∧ ∀ j, j < n → I (X + 1) j = nI (tx j) ∧ 32 ≤ tx j ∧ tx j ≤ 126
theorem nar_c : ∀ c, c < 127 → vp_nar .char (nI c) = nI c := by
  have : ∀ c : Fin 127, vp_nar .char (nI c.val) = nI c.val := by decide +kernel
  exact fun c hc => this ⟨c, hc⟩
theorem i2c_c : ∀ c, c < 127 → ((nI c).toUInt32 % 65536).toInt32 = nI c := by
  have : ∀ c : Fin 127, ((nI c.val).toUInt32 % 65536).toInt32 = nI c.val := by decide +kernel
  exact fun c hc => this ⟨c, hc⟩
theorem fit_c : ∀ c, c < 127 → (narrow .char (.int (nI c)) = .int (nI c) ∧ fits .char (.int (nI c)) = true) := by
  have : ∀ c : Fin 127, (narrow .char (.int (nI c.val)) = .int (nI c.val) ∧ fits .char (.int (nI c.val)) = true) := by decide +kernel
  exact fun c hc => this ⟨c, hc⟩
theorem due_le (c : Nat) : due c ≤ 4 := by unfold due; split <;> (try split) <;> (try split) <;> omega
/-- what a call of the text may change: its fields and numbers -/
def FrX (X : Nat) (I I' : Nat → Nat → Int32) : Prop := (∀ k, k ≠ X → k ≠ X + 2 → I' k = I k) ∧ I' X 0 = I X 0 ∧ I' X 2 = I X 2
