-- needs: 10 11 12 13 14 15 20 21 22 40 41 42 50 51 55 59 60
variable {S : List (Nat × Nat)} {R : Nat → Nat → Option Nat} {I : Nat → Nat → Int32} {M r : Nat} {a : Lg} {post : am_R}
variable {n : Nat} {tx : Nat → Nat}
def FrD (M : Nat) (I I' : Nat → Nat → Int32) : Prop := (∀ k, k ≠ M → k ≠ M + 1 → k ≠ M + 14 → I' k = I k) ∧ (∀ j, j ≠ 16 → j ≠ 17 → j ≠ 19 → j ≠ 20 → I' M j = I M j)
theorem entF_le (a : Lg) (c : Nat) (w : Nat → Nat) : entF a c w ≤ 4 := by
  unfold entF
  split <;> split <;> (try split) <;> (try split) <;> (try split) <;> omega
