-- needs: 10 11 12 13 14 20 21 22
variable {a : Lg}
def un (f : Nat → Nat) (l v : Nat) : Nat → Nat := fun x => if x = l then v else f x
theorem un_s (f : Nat → Nat) (l v : Nat) : un f l v l = v := by simp [un]
theorem un_n {f : Nat → Nat} {l v x : Nat} (h : x ≠ l) : un f l v x = f x := by simp [un, h]
/-- whether a value is that of one of the first n that hold q -/
def hasV (q : Nat → Bool) (fp : Nat → Nat) (n v : Nat) : Bool := (ff (fun e => q e && decide (fp e = v)) 0 n).isSome
theorem hasV_i {q : Nat → Bool} {fp : Nat → Nat} {n v : Nat} : hasV q fp n v = true ↔ ∃ e, e < n ∧ q e = true ∧ fp e = v := by
  unfold hasV
  cases h : ff (fun e => q e && decide (fp e = v)) 0 n with
  | none =>
    rw [ff_none] at h
    constructor
    · intro q; simp at q
    · rintro ⟨e, h1, h2, h3⟩
      have := h e (by omega) (by omega)
      simp [h2, h3] at this
  | some x =>
    have := ff_some h
    simp only [Bool.and_eq_true, decide_eq_true_eq] at this
    exact ⟨fun _ => ⟨x, by omega, this.2.2.1, this.2.2.2⟩, fun _ => rfl⟩
/-- the least value below n that holds V -/
def mn (V : Nat → Bool) (n : Nat) : Nat := (ff V 0 n).getD 0
theorem ff_least {f : Nat → Bool} : ∀ {d i x : Nat}, ff f i d = some x → ∀ y, i ≤ y → y < x → f y = false
  | 0, _, _, h => by simp [ff] at h
  | d + 1, i, x, h => by
    unfold ff at h
    intro y h1 h2
    split at h
    · cases h; omega
    · rename_i hf
      by_cases hy : y = i
      · subst hy; simpa using hf
      · exact ff_least h y (by omega) h2
theorem mn_i {V : Nat → Bool} {n v : Nat} (hv : V v = true) (hn : v < n) : V (mn V n) = true ∧ mn V n < n ∧ ∀ w, V w = true → mn V n ≤ w := by
  unfold mn
  cases h : ff V 0 n with
  | none => rw [ff_none] at h; rw [h v (by omega) (by omega)] at hv; cases hv
  | some x =>
    have h1 := ff_some h
    refine ⟨h1.2.2, by simp; omega, fun w hw => ?_⟩
    simp only [Option.getD_some]
    by_cases hx : x ≤ w
    · exact hx
    · rw [ff_least h w (by omega) (by omega)] at hw; cases hw
theorem mn_eq {V : Nat → Bool} {n v : Nat} (hv : V v = true) (hn : v < n) (hl : ∀ w, V w = true → v ≤ w) : mn V n = v := by
  have := mn_i hv hn
  have h1 := hl _ this.1
  have h2 := this.2.2 v hv
  omega
/-- of the threads that a line with the answer b joins: their first places -/
def gV (n : Nat) (q : Nat → Bool) (fp : Nat → Nat) (b v : Nat) : Bool := decide (v = fp b) || hasV q fp n v
/-- first places, joins and rows of the lines at the first k places -/
def gSt (a : Lg) (th : Nat) : Nat → (Nat → Nat) × (Nat → Nat) × (Nat → Nat)
  | 0 => (fun _ => 0, fun _ => 0, fun _ => 0)
  | k + 1 => match gA a th (gO a k) with
    | none => (un (gSt a th k).1 (gO a k) k, un (gSt a th k).2.1 (gO a k) 0, un (gSt a th k).2.2 (gO a k) 1)
    | some b => (fun x => if x = gO a k ∨ (gR a x < k ∧ gV (gn a) (gQ a th (gO a k)) (gSt a th k).1 b ((gSt a th k).1 x) = true) then mn (gV (gn a) (gQ a th (gO a k)) (gSt a th k).1 b) (gn a) else (gSt a th k).1 x,
        un (gSt a th k).2.1 (gO a k) (cnt (fun v => hasV (gQ a th (gO a k)) (gSt a th k).1 (gn a) v && decide (v ≠ (gSt a th k).1 b)) (gn a)),
        un (gSt a th k).2.2 (gO a k) ((gSt a th k).2.2 b + 1))
/-- the first place of a line's thread, the joins of a line, the length of the row that it ends -/
def gFp (a : Lg) (th l : Nat) : Nat := (gSt a th (gn a)).1 l
def gJn (a : Lg) (th l : Nat) : Nat := (gSt a th (gn a)).2.1 l
def gRw (a : Lg) (th l : Nat) : Nat := (gSt a th (gn a)).2.2 l
/-- how many threads begin at the first k places -/
def gNf (a : Lg) (th k : Nat) : Nat := cnt (fun i => decide (gFp a th (gO a i) = i)) k
/-- the number of a line's thread, and how many threads there are -/
def gNu (a : Lg) (th l : Nat) : Nat := gNf a th (gFp a th l)
def gTn (a : Lg) (th : Nat) : Nat := gNf a th (gn a)
/-- what holds of first places when the first k lines are done: they are places of lines done, not behind the line, and the line there has itself as its thread's first -/
def stI (a : Lg) (k : Nat) (fp : Nat → Nat) : Prop := ∀ x, x < gn a → gR a x < k → fp x ≤ gR a x ∧ fp (gO a (fp x)) = fp x
theorem gQ_i {th l e : Nat} (h : gQ a th l e = true) : e < gn a ∧ gE a e l ∧ gRv a l e = true ∧ (th : Int) ≤ gSc a l e := by
  unfold gQ at h
  rw [Bool.and_eq_true, decide_eq_true_eq] at h
  have := gMay_i.mp (gRv_may h.1).1
  exact ⟨this.1, this.2.1, h.1, h.2⟩
theorem gSt_I (hB : LgB a) (th : Nat) : ∀ k, k ≤ gn a → stI a k (gSt a th k).1
  | 0, _ => fun x _ h => by omega
  | k + 1, hk => by
    have ih := gSt_I hB th k (by omega)
    have hl := gO_lt (a := a) (k := k) (by omega)
    have hr := gR_gO (a := a) (k := k) (by omega)
    intro x hx hxk
    rw [gSt]
    cases hA : gA a th (gO a k) with
    | none =>
      simp only
      by_cases hxl : x = gO a k
      · subst hxl
        rw [un_s, un_s, hr]; exact ⟨Nat.le_refl _, rfl⟩
      · have hxr : gR a x < k := by
          have : gR a x ≠ k := fun q => hxl (gR_inj hx hl (by rw [q, hr]))
          omega
        have h1 := ih x hx hxr
        rw [un_n hxl]
        refine ⟨h1.1, ?_⟩
        by_cases h2 : gO a ((gSt a th k).1 x) = gO a k
        · have := gR_gO (a := a) (k := (gSt a th k).1 x) (by omega)
          rw [h2, hr] at this; omega
        · rw [un_n h2]; exact h1.2
    | some b =>
      simp only
      have hb := gA_i hB hl hA
      have hbr : gR a b < k := by have := (gR_E hb.1 hl).mpr hb.2; omega
      have hfb := ih b hb.1 hbr
      have hvb : gV (gn a) (gQ a th (gO a k)) (gSt a th k).1 b ((gSt a th k).1 b) = true := by unfold gV; simp
      have hm := mn_i hvb (n := gn a) (by omega)
      have hmb := hm.2.2 _ hvb
      have key : ∀ y, y < gn a → gR a y < k → gV (gn a) (gQ a th (gO a k)) (gSt a th k).1 b ((gSt a th k).1 y) = true → mn (gV (gn a) (gQ a th (gO a k)) (gSt a th k).1 b) (gn a) ≤ gR a y := fun y hy hyk hv => Nat.le_trans (hm.2.2 _ hv) (ih y hy hyk).1
      have hmk : mn (gV (gn a) (gQ a th (gO a k)) (gSt a th k).1 b) (gn a) < k := by omega
      -- the line at the least place has it as its own first place, before and after
      have hm0 : (gSt a th k).1 (gO a (mn (gV (gn a) (gQ a th (gO a k)) (gSt a th k).1 b) (gn a))) = mn (gV (gn a) (gQ a th (gO a k)) (gSt a th k).1 b) (gn a) := by
        have hv := hm.1
        unfold gV at hv
        rw [Bool.or_eq_true, decide_eq_true_eq, hasV_i] at hv
        rcases hv with hv | ⟨e, h1, h2, h3⟩
        · unfold gV; rw [hv]; exact hfb.2
        · have he := gQ_i h2
          have her : gR a e < k := by have := (gR_E he.1 hl).mpr he.2.1; omega
          have := (ih e h1 her).2
          rw [h3] at this; exact this
      have hmf : (if gO a (mn (gV (gn a) (gQ a th (gO a k)) (gSt a th k).1 b) (gn a)) = gO a k ∨ (gR a (gO a (mn (gV (gn a) (gQ a th (gO a k)) (gSt a th k).1 b) (gn a))) < k ∧ gV (gn a) (gQ a th (gO a k)) (gSt a th k).1 b ((gSt a th k).1 (gO a (mn (gV (gn a) (gQ a th (gO a k)) (gSt a th k).1 b) (gn a)))) = true) then mn (gV (gn a) (gQ a th (gO a k)) (gSt a th k).1 b) (gn a) else (gSt a th k).1 (gO a (mn (gV (gn a) (gQ a th (gO a k)) (gSt a th k).1 b) (gn a)))) = mn (gV (gn a) (gQ a th (gO a k)) (gSt a th k).1 b) (gn a) := by
        split
        · rfl
        · exact hm0
      by_cases hc : x = gO a k ∨ (gR a x < k ∧ gV (gn a) (gQ a th (gO a k)) (gSt a th k).1 b ((gSt a th k).1 x) = true)
      · rw [if_pos hc]
        refine ⟨?_, hmf⟩
        rcases hc with hc | hc
        · subst hc; rw [hr]; omega
        · exact key x hx hc.1 hc.2
      · rw [if_neg hc]
        have hxr : gR a x < k := by
          have : gR a x ≠ k := fun q => hc (Or.inl (gR_inj hx hl (by rw [q, hr])))
          omega
        have h1 := ih x hx hxr
        refine ⟨h1.1, ?_⟩
        split
        · rename_i h2
          rcases h2 with h2 | h2
          · have := gR_gO (a := a) (k := (gSt a th k).1 x) (by omega)
            rw [h2, hr] at this; omega
          · rw [h1.2] at h2
            exact absurd (Or.inr ⟨hxr, h2.2⟩) hc
        · exact h1.2

