-- needs: 10 11 12 13 14 15 20 21 22 23 30 31 32 33 34 35 36 37 38 40 41 42 50 51 55 59 60
variable {a : Lg}
theorem WfF_rmF0 (hW : WfF a) (x : Nat) : WfF (rmF a x) := by
  intro i j hi hj h0 h1 h2
  rw [rmF_k] at hi hj
  have e : ∀ c j, gF (rmF a x) c j = gF a c (if j < x then j else j + 1) := fun c j => by simp only [rmF_F]; split <;> rfl
  rw [e, e] at h0 h1 h2
  rw [e] at h2
  have := hW (if i < x then i else i + 1) (if j < x then j else j + 1) (by split <;> omega) (by split <;> omega) h0 h1 h2
  split at this <;> split at this <;> omega
theorem rmFs_same (x : Nat) : ∀ k a, gt (rmFs x k a) = gt a ∧ gn (rmFs x k a) = gn a ∧ gT (rmFs x k a) = gT a ∧ gL (rmFs x k a) = gL a ∧ gs (rmFs x k a) = gs a
  | 0, a => ⟨rfl, rfl, rfl, rfl, rfl⟩
  | k + 1, a => by
    unfold rmFs
    by_cases h : hit a x k
    · rw [if_pos h]; exact rmFs_same x k (rmF a k)
    · rw [if_neg h]; exact rmFs_same x k a
theorem rmFs_no (x : Nat) : ∀ k a, (∀ j, k ≤ j → j < gk a → ¬ hit a x j) → ∀ j, j < gk (rmFs x k a) → ¬ hit (rmFs x k a) x j
  | 0, a, h, j, hj => h j (Nat.zero_le _) hj
  | k + 1, a, h, j, hj => by
    unfold rmFs at hj ⊢
    by_cases hh : hit a x k
    · rw [if_pos hh] at hj ⊢
      refine rmFs_no x k (rmF a k) (fun i hi hik => ?_) j hj
      rw [rmF_k] at hik
      have e : ∀ c, gF (rmF a k) c i = gF a c (i + 1) := fun c => by simp only [rmF_F]; rw [if_neg (by omega)]
      have := h (i + 1) (by omega) (by omega)
      unfold hit at this ⊢
      rw [e, e, e]; exact this
    · rw [if_neg hh] at hj ⊢
      refine rmFs_no x k a (fun i hi hik => ?_) j hj
      by_cases hik2 : i = k
      · rw [hik2]; exact hh
      · exact h i (by omega) hik
theorem rmFs_W (hW : WfF a) (x : Nat) : ∀ k, WfF (rmFs x k a) := by
  intro k
  induction k generalizing a with
  | zero => exact hW
  | succ k ih =>
    unfold rmFs
    split
    · exact ih (WfF_rmF0 hW k)
    · exact ih hW
theorem dropL_i {x : Nat} (hB : LgB a) (hW : WfF a) (hx : x < gn a) : LgB (dropL a x) ∧ WfF (dropL a x) ∧ gt (dropL a x) = gt a ∧ gT (dropL a x) = gT a ∧ gs (dropL a x) = gs a := by
  have sm := rmFs_same x (gk a) a
  have no := rmFs_no x (gk a) a (fun j h1 h2 => by omega)
  have hBb := rmFs_B hB x (gk a)
  have hWb := rmFs_W hW x (gk a)
  obtain ⟨b, hb⟩ : ∃ b, rmFs x (gk a) a = b := ⟨_, rfl⟩
  have hd : dropL a x = lsN (shL (renF b x (gk b)) x (gn a)) (gn a - 1) := by unfold dropL; rw [hb]
  rw [hb] at sm no hBb hWb
  have bn := hBb.n
  have eK : gk (dropL a x) = gk b := by rw [hd]; rfl
  have eN : gn (dropL a x) = gn a - 1 := by rw [hd]; rfl
  have eL : ∀ c j, gL (dropL a x) c j = if x ≤ j ∧ j + 1 < gn a then gL b c (j + 1) else gL b c j := fun c j => by rw [hd]; rfl
  have eF : ∀ c j, j < gk b → gF (dropL a x) c j = if c = 0 then gF b c j else if x < gF b c j then gF b c j - 1 else gF b c j := fun c j hj => by
    rw [hd]
    show (if j < gk b then (if c = 0 then gF b c j else if x < gF b c j then gF b c j - 1 else gF b c j) else gF b c j) = _
    rw [if_pos hj]
  have e0 : ∀ j, j < gk b → gF (dropL a x) 0 j = gF b 0 j := fun j hj => by rw [eF 0 j hj, if_pos rfl]
  have e1 : ∀ j, j < gk b → gF (dropL a x) 1 j = if x < gF b 1 j then gF b 1 j - 1 else gF b 1 j := fun j hj => by rw [eF 1 j hj, if_neg (by decide)]
  have e2 : ∀ j, j < gk b → gF (dropL a x) 2 j = if x < gF b 2 j then gF b 2 j - 1 else gF b 2 j := fun j hj => by rw [eF 2 j hj, if_neg (by decide)]
  -- a line that stays has its parts at its new number
  have mv : ∀ v, v < gn a → v ≠ x → (if x < v then v - 1 else v) < gn a - 1 ∧ gL (dropL a x) 0 (if x < v then v - 1 else v) = gL b 0 v := by
    intro v hv hvx
    by_cases h : x < v
    · rw [if_pos h, eL, if_pos (by omega), show v - 1 + 1 = v by omega]
      exact ⟨by omega, rfl⟩
    · rw [if_neg h, eL, if_neg (by omega)]
      exact ⟨by omega, rfl⟩
  have nh : ∀ j, j < gk b → gF b 1 j ≠ x ∧ (gF b 0 j ≠ 0 → gF b 2 j ≠ x) := fun j hj => by
    have := no j hj
    unfold hit at this
    exact ⟨fun q => this (Or.inl q), fun h q => this (Or.inr ⟨h, q⟩)⟩
  refine ⟨⟨⟨?_, ?_, ?_⟩, ?_, ?_, ?_, ?_⟩, ?_, ?_, ?_, ?_⟩
  · have := hBb.t; rw [hd]; exact this
  · rw [eN]; omega
  · rw [eK]; exact hBb.k
  · intro j hj; rw [hd] at hj ⊢; exact hBb.2.1 j hj
  · intro j hj
    rw [eN] at hj
    rw [eL, eL, eL, eL]
    by_cases h : x ≤ j ∧ j + 1 < gn a
    · rw [if_pos h, if_pos h, if_pos h, if_pos h]; exact hBb.2.2.1 (j + 1) (by omega)
    · rw [if_neg h, if_neg h, if_neg h, if_neg h]; exact hBb.2.2.1 j (by omega)
  · intro j hj
    rw [eK] at hj
    have hF := hBb.Fn hj
    have hn := nh j hj
    rw [e0 j hj, e1 j hj, e2 j hj, eN]
    have m1 := mv (gF b 1 j) (by omega) hn.1
    refine ⟨hF.1, m1.1, fun h0 => ?_⟩
    have h3 := hF.2.2 h0
    have m2 := mv (gF b 2 j) (by omega) (hn.2 h0)
    refine ⟨m2.1, ?_⟩
    have h4 := h3.2
    have h5 := hn.1
    have h6 := hn.2 h0
    unfold gE at h4 ⊢
    rw [m1.2, m2.2]
    rcases h4 with h4 | h4
    · exact Or.inl h4
    · refine Or.inr ⟨h4.1, ?_⟩
      split <;> split <;> omega
  · have := hBb.2.2.2.2; rw [hd]; exact this
  · intro i j hi hj h0 h1 h2
    rw [eK] at hi hj
    have ni := nh i hi
    have nj := nh j hj
    rw [e0 i hi, e0 j hj] at h0
    rw [e1 i hi, e1 j hj] at h1
    rw [e0 i hi, e2 i hi, e2 j hj] at h2
    have inj : ∀ u v, u ≠ x → v ≠ x → (if x < u then u - 1 else u) = (if x < v then v - 1 else v) → u = v := fun u v hu hv h => by
      split at h <;> split at h <;> omega
    refine hWb i j hi hj h0 (inj _ _ ni.1 nj.1 h1) ?_
    by_cases hz : gF b 0 i = 0
    · exact Or.inl hz
    · exact Or.inr (inj _ _ (ni.2 hz) (nj.2 (by omega)) (h2.resolve_left hz))
  · rw [hd]; exact sm.1
  · rw [hd]; exact sm.2.2.1
  · rw [hd]; exact sm.2.2.2.2

