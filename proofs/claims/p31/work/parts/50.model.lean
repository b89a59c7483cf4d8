-- needs: 10 11 12 13 14 20 21 22
variable {S : List (Nat × Nat)} {R : Nat → Nat → Option Nat} {I : Nat → Nat → Int32} {r M : Nat} {a : Lg} {post : am_R}
theorem RowI.t (h : RowI (I r) a) : I r 8 = nI (gt a) := h.1.1
theorem RowI.n (h : RowI (I r) a) : I r 9 = nI (gn a) := h.1.2.1
theorem RowI.k (h : RowI (I r) a) : I r 10 = nI (gk a) := h.1.2.2
theorem RowI.s (h : RowI (I r) a) {j : Nat} (hj : j < 8) : I r j = nI (gs a j) := h.2.2.2.2 j hj
theorem RowI.T (h : RowI (I r) a) {j w : Nat} (hj : j < gt a) (hw : w < 3) : I r (11 + 3 * j + w) = nI (gT a w j) := by
  have := h.2.1 j hj
  rcases (by omega : w = 0 ∨ w = 1 ∨ w = 2) with rfl | rfl | rfl
  · exact this.1
  · rw [show 11 + 3 * j + 1 = 12 + 3 * j by omega]; exact this.2.1
  · rw [show 11 + 3 * j + 2 = 13 + 3 * j by omega]; exact this.2.2
theorem RowI.L (h : RowI (I r) a) {j w : Nat} (hj : j < gn a) (hw : w < 4) : I r (71 + 4 * j + w) = nI (gL a w j) := by
  have := h.2.2.1 j hj
  rcases (by omega : w = 0 ∨ w = 1 ∨ w = 2 ∨ w = 3) with rfl | rfl | rfl | rfl
  · exact this.1
  · rw [show 71 + 4 * j + 1 = 72 + 4 * j by omega]; exact this.2.1
  · rw [show 71 + 4 * j + 2 = 73 + 4 * j by omega]; exact this.2.2.1
  · rw [show 71 + 4 * j + 3 = 74 + 4 * j by omega]; exact this.2.2.2
theorem RowI.F (h : RowI (I r) a) {j w : Nat} (hj : j < gk a) (hw : w < 2) : I r (191 + 3 * j + w) = nI (gF a w j) := by
  have := h.2.2.2.1 j hj
  rcases (by omega : w = 0 ∨ w = 1) with rfl | rfl
  · exact this.1
  · rw [show 191 + 3 * j + 1 = 192 + 3 * j by omega]; exact this.2.1
theorem RowI.F2 (h : RowI (I r) a) {j : Nat} (hj : j < gk a) : I r (191 + 3 * j + 2) = eI (-4) a j := by
  have := h.2.2.2.1 j hj
  rw [show 191 + 3 * j + 2 = 193 + 3 * j by omega]; exact this.2.2
theorem RowI.mk {ρ : Nat → Int32} (t : ρ 8 = nI (gt a)) (n : ρ 9 = nI (gn a)) (k : ρ 10 = nI (gk a)) (T : ∀ j w, j < gt a → w < 3 → ρ (11 + 3 * j + w) = nI (gT a w j)) (L : ∀ j w, j < gn a → w < 4 → ρ (71 + 4 * j + w) = nI (gL a w j)) (F : ∀ j w, j < gk a → w < 2 → ρ (191 + 3 * j + w) = nI (gF a w j)) (F2 : ∀ j, j < gk a → ρ (191 + 3 * j + 2) = eI (-4) a j) (s : ∀ j, j < 8 → ρ j = nI (gs a j)) : RowI ρ a := by
  refine ⟨⟨t, n, k⟩, fun j hj => ⟨T j 0 hj (by omega), ?_, ?_⟩, fun j hj => ⟨L j 0 hj (by omega), ?_, ?_, ?_⟩, fun j hj => ⟨F j 0 hj (by omega), ?_, ?_⟩, s⟩
  · have := T j 1 hj (by omega); rw [show 11 + 3 * j + 1 = 12 + 3 * j by omega] at this; exact this
  · have := T j 2 hj (by omega); rw [show 11 + 3 * j + 2 = 13 + 3 * j by omega] at this; exact this
  · have := L j 1 hj (by omega); rw [show 71 + 4 * j + 1 = 72 + 4 * j by omega] at this; exact this
  · have := L j 2 hj (by omega); rw [show 71 + 4 * j + 2 = 73 + 4 * j by omega] at this; exact this
  · have := L j 3 hj (by omega); rw [show 71 + 4 * j + 3 = 74 + 4 * j by omega] at this; exact this
  · have := F j 1 hj (by omega); rw [show 191 + 3 * j + 1 = 192 + 3 * j by omega] at this; exact this
  · have := F2 j hj; rw [show 191 + 3 * j + 2 = 193 + 3 * j by omega] at this; exact this
theorem RowI.congr {ρ ρ' : Nat → Int32} (hB : LgB a) (h : RowI ρ a) (e : ∀ j, j < 227 → ρ' j = ρ j) : RowI ρ' a := by
  have bt := hB.t
  have bn := hB.n
  have bk := hB.k
  refine ⟨⟨?_, ?_, ?_⟩, fun j hj => ?_, fun j hj => ?_, fun j hj => ?_, fun j hj => ?_⟩
  · rw [e 8 (by omega)]; exact h.1.1
  · rw [e 9 (by omega)]; exact h.1.2.1
  · rw [e 10 (by omega)]; exact h.1.2.2
  · rw [e _ (by omega), e _ (by omega), e _ (by omega)]; exact h.2.1 j hj
  · rw [e _ (by omega), e _ (by omega), e _ (by omega), e _ (by omega)]; exact h.2.2.1 j hj
  · rw [e _ (by omega), e _ (by omega), e _ (by omega)]; exact h.2.2.2.1 j hj
  · rw [e _ (by omega)]; exact h.2.2.2.2 j hj
/-- the last place below n where f holds -/
def lst (f : Nat → Bool) : Nat → Option Nat
  | 0 => none
  | m + 1 => if f m then some m else lst f m
theorem lst_some {f : Nat → Bool} : ∀ {n x : Nat}, lst f n = some x → x < n ∧ f x = true
  | 0, _, h => by simp [lst] at h
  | n + 1, x, h => by
    unfold lst at h
    by_cases hf : f n = true
    · rw [if_pos hf] at h; cases h; exact ⟨by omega, hf⟩
    · rw [if_neg hf] at h; have := lst_some h; exact ⟨by omega, this.2⟩
theorem lst_none {f : Nat → Bool} : ∀ {n : Nat}, lst f n = none → ∀ x, x < n → f x = false
  | 0, _, x, h => by omega
  | n + 1, h, x, hx => by
    unfold lst at h
    by_cases hf : f n = true
    · rw [if_pos hf] at h; cases h
    · rw [if_neg hf] at h
      by_cases hxn : x = n
      · rw [hxn]; simpa using hf
      · exact lst_none h x (by omega)
/-- where at most one place holds f, the last and the first are the same -/
theorem lst_ff {f : Nat → Bool} {n : Nat} (hu : ∀ x y, x < n → y < n → f x = true → f y = true → x = y) : lst f n = ff f 0 n := by
  cases h1 : lst f n with
  | none =>
    have := lst_none h1
    exact (ff_none.mpr (fun x _ hx => this x (by omega))).symm
  | some x =>
    have hx := lst_some h1
    cases h2 : ff f 0 n with
    | none => rw [ff_none] at h2; rw [h2 x (by omega) (by omega)] at hx; cases hx.2
    | some y =>
      have hy := ff_some h2
      rw [hu x y hx.1 (by omega) hx.2 hy.2.2]
theorem eI4_eq (hB : LgB a) {j x : Nat} (hj : j < gk a) (hx : x < 2147483648) : eI (-4) a j = nI x ↔ (gF a 0 j ≠ 0 ∧ gF a 2 j = x) := by
  unfold eI
  have h := hB.Fn hj
  have h1 := hB.n
  by_cases h0 : gF a 0 j = 0
  · rw [if_pos h0]; exact ⟨fun q => ((m4n hx).mp q.symm).elim, fun q => absurd h0 q.1⟩
  · rw [if_neg h0, neq (by have := h.2.2 h0; omega) hx]; exact ⟨fun q => ⟨h0, q⟩, fun q => q.2⟩
/-- corrections that differ in nothing are the same one -/
def WfF (a : Lg) : Prop := ∀ i j, i < gk a → j < gk a → gF a 0 i = gF a 0 j → gF a 1 i = gF a 1 j → (gF a 0 i = 0 ∨ gF a 2 i = gF a 2 j) → i = j
theorem lst_X (hW : WfF a) (k l e : Nat) : lst (fun x => decide (gF a 0 x = k ∧ gF a 1 x = l ∧ (k = 0 ∨ gF a 2 x = e))) (gk a) = gX a k l e := by
  refine lst_ff (fun x y hx hy h1 h2 => ?_)
  rw [decide_eq_true_eq] at h1 h2
  refine hW x y hx hy (by rw [h1.1, h2.1]) (by rw [h1.2.1, h2.2.1]) ?_
  by_cases h0 : k = 0
  · left; rw [h1.1, h0]
  · right; rw [h1.2.2.resolve_left h0, h2.2.2.resolve_left h0]
