-- needs: 10 11 12 13 14 15 20 21 22 40 41 42 50 51 55
variable {S : List (Nat × Nat)} {R : Nat → Nat → Option Nat} {I : Nat → Nat → Int32} {M r : Nat} {a : Lg} {post : am_R}
variable {n : Nat} {tx : Nat → Nat}
def MTx (I : Nat → Nat → Int32) (M n : Nat) (tx : Nat → Nat) : Prop := n ≤ 80 ∧ I M 5 = nI n ∧ ∀ j, j < n → I (M + 4) j = nI (tx j) ∧ 32 ≤ tx j ∧ tx j ≤ 126
/-- what reading may change: fields of the model and its numbers -/
def FrP (M : Nat) (I I' : Nat → Nat → Int32) : Prop := (∀ k, k ≠ M → k ≠ M + 14 → I' k = I k) ∧ (∀ j, j ≠ 16 → j ≠ 17 → I' M j = I M j)
theorem MTx.p {I' : Nat → Nat → Int32} (h : MTx I M n tx) (hf : FrP M I I') : MTx I' M n tx :=
  ⟨h.1, by rw [hf.2 5 (by decide) (by decide)]; exact h.2.1, fun j hj => by rw [hf.1 (M + 4) (by omega) (by omega)]; exact h.2.2 j hj⟩
