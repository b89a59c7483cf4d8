-- needs: 10 11 12 13 14 20 41
variable {S : List (Nat × Nat)} {R : Nat → Nat → Option Nat} {I : Nat → Nat → Int32} {X L n : Nat} {tx : Nat → Nat} {a : Lg} {post : am_R}
theorem due_i {c : Nat} (hd : due c ≠ 0) (hc : c ≠ 108) : (c = 98 ∧ due c = 1 ∧ kin c = 0) ∨ (c ≠ 98 ∧ due c = 2 ∧ kin c ≠ 0) := by
  unfold due at hd ⊢
  unfold kin
  rw [if_neg hc] at hd ⊢
  by_cases h98 : c = 98
  · left; rw [if_pos h98, if_pos h98]; exact ⟨h98, rfl, rfl⟩
  · right
    rw [if_neg h98] at hd ⊢
    rw [if_neg h98]
    by_cases h2 : c = 97 ∨ c = 110
    · rw [if_pos h2]; exact ⟨h98, rfl, by split <;> decide⟩
    · rw [if_neg h2] at hd; exact absurd rfl hd
theorem ent_p {tx : Nat → Nat} {n p p' : Nat} {w : Nat → Nat} (hp : p < n) (h : ent tx n p = some (p', w)) : p < p' ∧ p' ≤ n ∧ due (tx p) ≠ 0 ∧ ∀ j, w j < 1000000 := by
  unfold ent at h
  by_cases hd : due (tx p) = 0
  · rw [if_pos hd] at h; cases h
  · rw [if_neg hd] at h
    have := rdL_p tx n _ _ _ _ _ _ (by omega) h
    refine ⟨by omega, this.2.1, hd, fun j => ?_⟩
    rcases this.2.2 j with h1 | h1
    · exact h1
    · rw [h1]; omega
