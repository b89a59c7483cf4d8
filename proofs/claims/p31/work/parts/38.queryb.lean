-- needs: 10 11 12 13 14 20 21 22 23 30 31 32 33 34 35 36 37
variable {S : List (Nat × Nat)} {R : Nat → Nat → Option Nat} {I : Nat → Nat → Int32} {T : Nat} {a : Lg} {post : am_R}
/-- the line with number t that has i others of it ahead -/
def gMem (a : Lg) (th t i : Nat) : Option Nat := (ff (fun k => decide (gNu a th (gO a k) = t) && decide (gLe a th t k = i)) 0 (gn a)).map (gO a)
theorem gMem_i {th t i x : Nat} (h : gMem a th t i = some x) : ∃ k, k < gn a ∧ gO a k = x ∧ gNu a th x = t ∧ gLe a th t k = i := by
  unfold gMem at h
  rw [Option.map_eq_some_iff] at h
  obtain ⟨k, hk, rfl⟩ := h
  have := ff_some hk
  rw [Bool.and_eq_true, decide_eq_true_eq, decide_eq_true_eq] at this
  exact ⟨k, by omega, rfl, this.2.2.1, this.2.2.2⟩
/-- the writers of a thread -/
def gWr (a : Lg) (th t : Nat) : Nat := bts (hasV (fun l => decide (gNu a th l = t)) (gL a 1) (gn a)) 12
/-- of a thread's lines at the first p places: the last one, and the greatest gap between neighbours -/
def gGg (a : Lg) (th t : Nat) : Nat → Option Nat × Nat
  | 0 => (none, 0)
  | p + 1 => if gNu a th (gO a p) = t then (some (gO a p), match (gGg a th t p).1 with
    | none => (gGg a th t p).2
    | some b => max (gGg a th t p).2 (gL a 0 (gO a p) - gL a 0 b)) else gGg a th t p
theorem gGg_1 {th t x : Nat} : ∀ {p : Nat}, (gGg a th t p).1 = some x → ∃ i, i < p ∧ gO a i = x
  | 0, h => by simp [gGg] at h
  | p + 1, h => by
    rw [gGg] at h
    split at h
    · exact ⟨p, by omega, by simpa using h⟩
    · obtain ⟨i, hi, h2⟩ := gGg_1 h; exact ⟨i, by omega, h2⟩
theorem gGg_2 (hB : LgB a) {th t : Nat} : ∀ {p : Nat}, p ≤ gn a → (gGg a th t p).2 ≤ 100000
  | 0, _ => Nat.zero_le _
  | p + 1, h => by
    have ih := gGg_2 hB (th := th) (t := t) (p := p) (by omega)
    have b := hB.Ln (gO_lt (a := a) (k := p) (by omega))
    rw [gGg]
    split
    · cases (gGg a th t p).1 with
      | none => exact ih
      | some b => simp only; omega
    · exact ih
theorem nmax {x y : Nat} (hx : x < 2147483648) (hy : y < 2147483648) : (if nI x < nI y then nI y else nI x) = nI (max x y) := by
  by_cases h : x < y
  · rw [if_pos ((nlt hx hy).mpr h), Nat.max_eq_right (by omega)]
  · rw [if_neg (fun q => h ((nlt hx hy).mp q)), Nat.max_eq_left (by omega)]
theorem nmax2 {x y : Nat} : (if x < y then nI y else nI x) = nI (max x y) := by
  by_cases h : x < y
  · rw [if_pos h, Nat.max_eq_right (by omega)]
  · rw [if_neg h, Nat.max_eq_left (by omega)]
theorem gRw_le (hB : LgB a) (th : Nat) : ∀ k, k ≤ gn a → ∀ x, (gSt a th k).2.2 x ≤ k
  | 0, _, x => Nat.le_refl _
  | k + 1, hk, x => by
    have ih := gRw_le hB th k (by omega)
    cases hA : gA a th (gO a k) with
    | none =>
      rw [gSt_n hA]
      simp only [un]
      split
      · omega
      · have := ih x; omega
    | some b =>
      rw [gSt_b hA]
      simp only [un]
      split
      · have := ih b; omega
      · have := ih x; omega
/-- the longest row that ends with one of the first l lines of thread t -/
def gLr (a : Lg) (th t : Nat) : Nat → Nat
  | 0 => 0
  | l + 1 => if gNu a th l = t then max (gLr a th t l) (gRw a th l) else gLr a th t l
theorem gLr_le (hB : LgB a) (th t : Nat) : ∀ l, gLr a th t l ≤ gn a
  | 0 => Nat.zero_le _
  | l + 1 => by
    have ih := gLr_le hB th t l
    have h := gRw_le hB th (gn a) (Nat.le_refl _) l
    have h : gRw a th l ≤ gn a := h
    rw [gLr]
    split <;> omega
/-- whether thread t is busier than thread u -/
def gBu (a : Lg) (th t u : Nat) : Bool := if gLe a th t (gn a) = gLe a th u (gn a) then decide (gE a (gLa a th u (gn a)) (gLa a th t (gn a))) else decide (gLe a th u (gn a) < gLe a th t (gn a))
/-- how many threads are busier than thread t -/
def gAh (a : Lg) (th t : Nat) : Nat := cnt (fun u => gBu a th u t) (gTn a th)
/-- whether a thread is awake at a time -/
def gAw (a : Lg) (th t τ : Nat) : Bool := (ff (fun l => decide (gNu a th l = t) && (decide (gL a 0 l ≤ τ) && decide (τ < gL a 0 l + gs a 0))) 0 (gn a)).isSome
/-- the last line of a thread stands at a place with it, and no line of it is behind -/
theorem gLa_i {th t : Nat} : ∀ {p k : Nat}, k < p → gNu a th (gO a k) = t → ∃ i, i < p ∧ gLa a th t p = gO a i ∧ gNu a th (gO a i) = t ∧ k ≤ i ∧ ∀ j, i < j → j < p → gNu a th (gO a j) ≠ t
  | p + 1, k, h, hk => by
    rw [gLa]
    by_cases hp : gNu a th (gO a p) = t
    · rw [if_pos hp]; exact ⟨p, by omega, rfl, hp, by omega, fun j h1 h2 => by omega⟩
    · rw [if_neg hp]
      have hkp : k ≠ p := fun q => hp (by rw [← q]; exact hk)
      obtain ⟨i, h1, h2, h3, h4, h5⟩ := gLa_i (p := p) (k := k) (by omega) hk
      refine ⟨i, by omega, h2, h3, h4, fun j h6 h7 => ?_⟩
      by_cases hj : j = p
      · rw [hj]; exact hp
      · exact h5 j h6 (by omega)
/-- the span of a thread -/
def gSpan (a : Lg) (th t : Nat) : Nat := match gMem a th t 0 with
  | none => 0
  | some x => gL a 0 (gLa a th t (gn a)) - gL a 0 x
