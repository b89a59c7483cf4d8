-- needs: 10 11 12 13 14 15 20 21 22 23 30 31 32 33 34 35 36 37 38 40 41 42 64 56 57 65 66 67 68 69 70
variable {S : List (Nat × Nat)} {R : Nat → Nat → Option Nat} {I : Nat → Nat → Int32} {q : Nat → Nat} {s : St} {post : am_R}
theorem LogI_aS {L w v : Nat} {a : Lg} (hI : LogI I L a) (hw : w < 8) : LogI (am_u I (L + 11) w (nI v)) L (aS a w v) := by
  refine LogI.mk ?_ ?_ ?_ ?_ ?_ ?_ ?_ ?_ ?_ ?_ ?_ ?_ ?_ ?_
  · rw [iu_k1 (by omega)]; exact hI.t
  · rw [iu_k1 (by omega)]; exact hI.n
  · rw [iu_k1 (by omega)]; exact hI.k
  · intro j hj; rw [iu_k1 (by omega)]; exact hI.T0 hj
  · intro j hj; rw [iu_k1 (by omega)]; exact hI.T1 hj
  · intro j hj; rw [iu_k1 (by omega)]; exact hI.T2 hj
  · intro j hj; rw [iu_k1 (by omega)]; exact hI.L0 hj
  · intro j hj; rw [iu_k1 (by omega)]; exact hI.L1 hj
  · intro j hj; rw [iu_k1 (by omega)]; exact hI.L2 hj
  · intro j hj; rw [iu_k1 (by omega)]; exact hI.L3 hj
  · intro j hj; rw [iu_k1 (by omega)]; exact hI.F0 hj
  · intro j hj; rw [iu_k1 (by omega)]; exact hI.F1 hj
  · intro j hj; rw [iu_k1 (by omega)]; exact hI.F2 hj
  · intro j hj
    rw [iu_i]
    simp only [aS_s]
    by_cases hjw : j = w
    · rw [if_pos hjw, if_pos hjw]
    · rw [if_neg hjw, if_neg hjw]; exact hI.s hj
theorem clI_far {I' : Nat → Nat → Int32} (hS : ClS S R q) (hI : ClI I q s) (e : ∀ k, (k < 86 ∨ 113 < k) → I' k = I k) : ClI I' q s ∧ FrC I I' :=
  ⟨hI.same hS (fun k hk => e k (by omega)) (by rw [e 83 (by omega)]) (by rw [e 84 (by omega)]), fun k hk => e k (by omega)⟩
