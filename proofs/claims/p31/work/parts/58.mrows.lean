-- needs: 10 11 12 13 14 20 21 22 23 30 31 32 33 34 35 36 37 38 50 51 52 53 54 56 57
variable {S : List (Nat × Nat)} {R : Nat → Nat → Option Nat} {I : Nat → Nat → Int32} {M r : Nat} {a : Lg} {post : am_R}
/-- the members of a thread in the model's row -/
def RwI (I : Nat → Nat → Int32) (M : Nat) (a : Lg) (th t n : Nat) : Prop := ∀ j, j < n → I (M + 13) j = nI (gRow a th t j)
theorem gWd_le (hB : LgB a) (th t : Nat) : ∀ k, k ≤ gLe a th t (gn a) → gWd a th t k ≤ 100000
  | 0, _ => Nat.zero_le _
  | 1, _ => Nat.zero_le _
  | k + 2, h => by
    have ih := gWd_le hB th t (k + 1) (by omega)
    have := (hB.Ln (gRow_i (a := a) (th := th) (t := t) (i := k + 1) (by omega)).2.1).1
    rw [gWd]; omega
theorem row_le {th t i : Nat} (h : i + 1 < gLe a th t (gn a)) : gL a 0 (gRow a th t i) ≤ gL a 0 (gRow a th t (i + 1)) := by
  obtain ⟨k, h1, h2, h3⟩ := gRow_ex (a := a) (th := th) (t := t) (Nat.le_refl _) (by omega : i < gLe a th t (gn a))
  obtain ⟨k', h1', h2', h3'⟩ := gRow_ex (a := a) (th := th) (t := t) (Nat.le_refl _) h
  have e1 := gRow_at (a := a) h1 h2
  have e2 := gRow_at (a := a) h1' h2'
  rw [h3] at e1
  rw [h3'] at e2
  rw [e1, e2]
  have hk : k < k' := by
    by_cases q : k < k'
    · exact q
    · have := gLe_mono a th t (p := k') (q := k) (by omega); omega
  have := gO_srt (a := a) hk h1'
  unfold gE at this; omega
