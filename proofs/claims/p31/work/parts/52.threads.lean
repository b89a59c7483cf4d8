-- needs: 10 11 12 13 14 20 21 22 23 50 51
variable {S : List (Nat × Nat)} {R : Nat → Nat → Option Nat} {I : Nat → Nat → Int32} {M r : Nat} {a : Lg} {post : am_R}
/-- whether line l might answer line e, if the threshold let it; the correction o is left aside -/
def gMayo (a : Lg) (o : Option Nat) (l e : Nat) : Bool := decide (e < gn a) && decide (gE a e l) && decide (gL a 0 l - gL a 0 e ≤ gs a 0) && decide (gX a 2 l e = none ∨ gX a 2 l e = o)
theorem gMayo_none (a : Lg) : gMayo a none = gMay a := by
  funext l e; unfold gMayo gMay; simp
/-- as hv, gVp, gJp, for any row of lines -/
def hvO (O : Nat → Nat) (q : Nat → Bool) (fp : Nat → Nat) : Nat → Nat → Bool
  | 0, _ => false
  | p + 1, v => hvO O q fp p v || (q (O p) && decide (fp (O p) = v))
theorem hvO_i {O : Nat → Nat} {q : Nat → Bool} {fp : Nat → Nat} : ∀ {p v : Nat}, hvO O q fp p v = true ↔ ∃ i, i < p ∧ q (O i) = true ∧ fp (O i) = v
  | 0, v => by simp [hvO]
  | p + 1, v => by
    rw [hvO, Bool.or_eq_true, hvO_i, Bool.and_eq_true, decide_eq_true_eq]
    constructor
    · rintro (⟨i, h1, h2⟩ | h)
      · exact ⟨i, by omega, h2⟩
      · exact ⟨p, by omega, h⟩
    · rintro ⟨i, h1, h2⟩
      by_cases hip : i = p
      · subst hip; exact Or.inr h2
      · exact Or.inl ⟨i, by omega, h2⟩
def gVO (O : Nat → Nat) (q : Nat → Bool) (fp : Nat → Nat) (b p v : Nat) : Bool := decide (v = fp b) || hvO O q fp p v
def gJO (O : Nat → Nat) (n : Nat) (q : Nat → Bool) (fp : Nat → Nat) (b p : Nat) : Nat := cnt (fun v => hvO O q fp p v && decide (v ≠ fp b)) n
theorem gVO_b (O : Nat → Nat) (q : Nat → Bool) (fp : Nat → Nat) (b p : Nat) : gVO O q fp b p (fp b) = true := by unfold gVO; simp
theorem gVO_s (O : Nat → Nat) (q : Nat → Bool) (fp : Nat → Nat) (b p v : Nat) : gVO O q fp b (p + 1) v = (gVO O q fp b p v || (q (O p) && decide (fp (O p) = v))) := by
  unfold gVO; rw [hvO, Bool.or_assoc]
theorem joinO_same {O : Nat → Nat} {n : Nat} {q : Nat → Bool} {fp : Nat → Nat} {b p : Nat} (h : q (O p) = false ∨ gVO O q fp b p (fp (O p)) = true) : (∀ v, gVO O q fp b (p + 1) v = gVO O q fp b p v) ∧ gJO O n q fp b (p + 1) = gJO O n q fp b p := by
  have one : ∀ v, gVO O q fp b (p + 1) v = gVO O q fp b p v := by
    intro v
    rw [gVO_s]
    cases hq : q (O p) with
    | false => simp
    | true =>
      rw [hq] at h
      by_cases hv : fp (O p) = v
      · rw [hv] at h; simp at h; rw [h]; rfl
      · simp [hv]
  refine ⟨one, cnt_congr (fun v _ => ?_)⟩
  by_cases hvb : v = fp b
  · simp [hvb]
  · have := one v
    unfold gVO at this
    simp only [hvb, decide_false, Bool.false_or] at this
    rw [this]
theorem joinO_more {O : Nat → Nat} {n : Nat} {q : Nat → Bool} {fp : Nat → Nat} {b p : Nat} (hq : q (O p) = true) (hn : gVO O q fp b p (fp (O p)) = false) (hl : fp (O p) < n) : gJO O n q fp b (p + 1) = gJO O n q fp b p + 1 := by
  unfold gVO at hn
  rw [Bool.or_eq_false_iff, decide_eq_false_iff_not] at hn
  refine cnt_add hl ?_ ?_ (fun v hne => ?_)
  · rw [hn.2]; rfl
  · rw [hvO, hq]; simp [hn.1]
  · rw [hvO, hq]
    have : ¬ fp (O p) = v := fun q => hne q.symm
    simp [this]
theorem nite2 {x y u v : Nat} (hx : x < 2147483648) (hy : y < 2147483648) : (if nI x = nI y then nI u else nI v) = nI (if x = y then u else v) := by
  by_cases h : x = y
  · rw [if_pos h, if_pos (by rw [h])]
  · rw [if_neg h, if_neg (fun q => h ((neq hx hy).mp q))]
/-- labels of threads while line gO k joins, p of the lines ahead gone through from the last one on -/
def MJn (I : Nat → Nat → Int32) (M : Nat) (a : Lg) (k : Nat) (q : Nat → Bool) (fp t : Nat → Nat) (b p : Nat) : Prop := (∀ x, x < gn a → gR a x < k → I (M + 10) x = nI (if gVO (fun i => gO a (k - 1 - i)) q fp b p (fp x) = true then t b else t x)) ∧ I (M + 10) (gO a k) = nI (t b) ∧ (∀ x, x < gn a → k < gR a x → I (M + 10) x = -1) ∧ I (M + 11) (gO a k) = nI (gJO (fun i => gO a (k - 1 - i)) (gn a) q fp b p)
