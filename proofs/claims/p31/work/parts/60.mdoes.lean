-- needs: 10 11 12 13 14 15 20 21 22 40 41 42 50 51 55 59
variable {S : List (Nat × Nat)} {R : Nat → Nat → Option Nat} {I : Nat → Nat → Int32} {M r : Nat} {a : Lg} {post : am_R}
variable {n : Nat} {tx : Nat → Nat}
theorem WfF_aF (hW : WfF a) {k l e : Nat} (hC : gCan a k l e = true) : WfF (aF a k l e) := by
  unfold gCan at hC
  rw [Bool.and_eq_true, decide_eq_true_eq, decide_eq_true_eq] at hC
  have hn := hC.2
  unfold gX at hn
  rw [ff_none] at hn
  have old : ∀ j, j < gk a → ¬ (gF a 0 j = k ∧ gF a 1 j = l ∧ (k = 0 ∨ gF a 2 j = e)) := fun j hj q => by
    have := hn j (by omega) (by omega)
    rw [decide_eq_false_iff_not] at this
    exact this q
  intro i j hi hj h0 h1 h2
  rw [aF_k] at hi hj
  simp only [aF_F] at h0 h1 h2
  by_cases hik : i = gk a
  · by_cases hjk : j = gk a
    · omega
    · rw [if_pos hik, if_neg hjk] at h0 h1 h2
      rw [if_pos hik] at h2
      simp only [if_true, if_false, Nat.reduceEqDiff, reduceCtorEq] at h0 h1 h2
      exact absurd ⟨h0.symm, h1.symm, h2.elim (fun q => Or.inl q) (fun q => Or.inr q.symm)⟩ (old j (by omega))
  · by_cases hjk : j = gk a
    · rw [if_neg hik, if_pos hjk] at h0 h1 h2
      rw [if_neg hik] at h2
      simp only [if_true, if_false, Nat.reduceEqDiff, reduceCtorEq] at h0 h1 h2
      exact absurd ⟨h0, h1, h2.elim (fun q => Or.inl (by omega)) (fun q => Or.inr q)⟩ (old i (by omega))
    · rw [if_neg hik, if_neg hjk] at h0 h1 h2
      rw [if_neg hik] at h2
      exact hW i j (by omega) (by omega) h0 h1 h2
theorem WfF_entD (hW : WfF a) {c : Nat} {w : Nat → Nat} (h : entF a c w = 0) : WfF (entD a c w) := by
  unfold entF at h
  unfold entD
  by_cases hc : c = 108
  · rw [if_pos hc]; exact hW
  · rw [if_neg hc] at h ⊢
    by_cases h1 : w 0 < gn a ∧ (kin c = 0 ∨ w 1 < gn a)
    · rw [if_pos h1] at h
      by_cases h2 : gCan a (kin c) (w 0) (if kin c = 0 then 0 else w 1) = true
      · exact WfF_aF hW h2
      · rw [if_neg h2] at h; omega
    · rw [if_neg h1] at h; omega
/-- what the doing of an entry may change -/
def FrE (M : Nat) (I I' : Nat → Nat → Int32) : Prop := (∀ k, k ≠ M → k ≠ M + 1 → k ≠ M + 14 → I' k = I k) ∧ (∀ j, j ≠ 16 → j ≠ 17 → I' M j = I M j)
