-- needs: 10 11 12 13 14 20 21 22 23 30 31 32 33 34 35 36 37 38 50 52
variable {a : Lg}
theorem gLe_mono (a : Lg) (th t : Nat) {p q : Nat} (h : p ≤ q) : gLe a th t p ≤ gLe a th t q := by
  induction q with
  | zero => rw [Nat.le_zero.mp h]; exact Nat.le_refl _
  | succ q ih =>
    by_cases hq : p = q + 1
    · rw [hq]; exact Nat.le_refl _
    · have := ih (by omega)
      rw [gLe_s]; omega
theorem ff_at {f : Nat → Bool} {n k : Nat} (hk : k < n) (h1 : f k = true) (h2 : ∀ i, i < k → f i = false) : ff f 0 n = some k := by
  cases h : ff f 0 n with
  | none => rw [ff_none] at h; rw [h k (by omega) (by omega)] at h1; cases h1
  | some x =>
    have hx := ff_some h
    have hl := ff_least h
    by_cases hxk : x = k
    · rw [hxk]
    · by_cases hlt : x < k
      · rw [h2 x hlt] at hx; cases hx.2.2
      · rw [hl k (by omega) (by omega)] at h1; cases h1
theorem gMem_at {th t p : Nat} (hp : p < gn a) (h : gNu a th (gO a p) = t) : gMem a th t (gLe a th t p) = some (gO a p) := by
  unfold gMem
  rw [ff_at hp (by simp [h]) (fun i hi => ?_)]
  · rfl
  · by_cases hn : gNu a th (gO a i) = t
    · have h1 := gLe_s a th t i
      rw [if_pos hn] at h1
      have h2 := gLe_mono a th t (p := i + 1) (q := p) (by omega)
      have : ¬ gLe a th t i = gLe a th t p := by omega
      simp [this]
    · simp [hn]
/-- the member of a thread with i others ahead; 0 if there is none -/
def gRow (a : Lg) (th t i : Nat) : Nat := (gMem a th t i).getD 0
theorem gRow_at {th t p : Nat} (hp : p < gn a) (h : gNu a th (gO a p) = t) : gRow a th t (gLe a th t p) = gO a p := by
  unfold gRow; rw [gMem_at hp h]; rfl
/-- below the length of a thread there is a member, and it stands at a place -/
theorem gRow_ex {th t : Nat} : ∀ {p i : Nat}, p ≤ gn a → i < gLe a th t p → ∃ k, k < p ∧ gNu a th (gO a k) = t ∧ gLe a th t k = i
  | 0, i, _, h => by simp [gLe, cnt] at h
  | p + 1, i, hp, h => by
    rw [gLe_s] at h
    by_cases hi : i < gLe a th t p
    · obtain ⟨k, h1, h2⟩ := gRow_ex (p := p) (by omega) hi
      exact ⟨k, by omega, h2⟩
    · by_cases hn : gNu a th (gO a p) = t
      · rw [if_pos hn] at h
        exact ⟨p, by omega, hn, by omega⟩
      · rw [if_neg hn] at h; omega
theorem gRow_i {th t i : Nat} (h : i < gLe a th t (gn a)) : gMem a th t i = some (gRow a th t i) ∧ gRow a th t i < gn a ∧ gNu a th (gRow a th t i) = t := by
  obtain ⟨k, h1, h2, h3⟩ := gRow_ex (Nat.le_refl _) h
  have h4 := gMem_at h1 h2
  rw [h3] at h4
  have h5 : gRow a th t i = gO a k := by unfold gRow; rw [h4]; rfl
  rw [h5]; exact ⟨h4, gO_lt h1, h2⟩
theorem gMem_none {th t i : Nat} (h : gLe a th t (gn a) ≤ i) : gMem a th t i = none := by
  cases hm : gMem a th t i with
  | none => rfl
  | some x =>
    obtain ⟨k, h1, h2, h3, h4⟩ := gMem_i hm
    have h5 := gLe_s a th t k
    rw [h2, if_pos h3] at h5
    have h6 := gLe_mono a th t (p := k + 1) (q := gn a) (by omega)
    omega
/-- every thread has a line -/
theorem gNf_ex (a : Lg) (th : Nat) : ∀ {p t : Nat}, t < gNf a th p → ∃ k, k < p ∧ gFp a th (gO a k) = k ∧ gNf a th k = t
  | 0, t, h => by simp [gNf, cnt] at h
  | p + 1, t, h => by
    rw [gNf_s] at h
    by_cases ht : t < gNf a th p
    · obtain ⟨k, h1, h2⟩ := gNf_ex a th ht
      exact ⟨k, by omega, h2⟩
    · by_cases hf : gFp a th (gO a p) = p
      · rw [if_pos hf] at h
        exact ⟨p, by omega, hf, by omega⟩
      · rw [if_neg hf] at h; omega
theorem gLe_pos {th t : Nat} (h : t < gTn a th) : 0 < gLe a th t (gn a) := by
  obtain ⟨k, h1, h2, h3⟩ := gNf_ex a th h
  have hn : gNu a th (gO a k) = t := by unfold gNu; rw [h2]; exact h3
  have h5 := gLe_s a th t k
  rw [if_pos hn] at h5
  have h6 := gLe_mono a th t (p := k + 1) (q := gn a) (by omega)
  omega
/-- the last line of a thread is its last member -/
theorem gLa_row {th t : Nat} : ∀ {p : Nat}, p ≤ gn a → 0 < gLe a th t p → gLa a th t p = gRow a th t (gLe a th t p - 1)
  | 0, _, h => by simp [gLe, cnt] at h
  | p + 1, hp, h => by
    rw [gLa, gLe_s]
    rw [gLe_s] at h
    by_cases hn : gNu a th (gO a p) = t
    · rw [if_pos hn, if_pos hn, Nat.add_sub_cancel, gRow_at (by omega) hn]
    · rw [if_neg hn] at h ⊢
      rw [if_neg hn]
      exact gLa_row (by omega) h
/-- the greatest gap between neighbours of the first k members -/
def gWd (a : Lg) (th t : Nat) : Nat → Nat
  | 0 => 0
  | 1 => 0
  | k + 2 => max (gWd a th t (k + 1)) (gL a 0 (gRow a th t (k + 1)) - gL a 0 (gRow a th t k))
theorem gGg_row {th t : Nat} : ∀ {p : Nat}, p ≤ gn a → gGg a th t p = (if gLe a th t p = 0 then none else some (gRow a th t (gLe a th t p - 1)), gWd a th t (gLe a th t p))
  | 0, _ => by simp [gGg, gLe, cnt, gWd]
  | p + 1, hp => by
    have ih := gGg_row (th := th) (t := t) (p := p) (by omega)
    rw [gGg, gLe_s, ih]
    by_cases hn : gNu a th (gO a p) = t
    · rw [if_pos hn, if_pos hn]
      have hr := gRow_at (a := a) (th := th) (t := t) (p := p) (by omega) hn
      cases hl : gLe a th t p with
      | zero =>
        rw [hl] at hr
        simp [hr, gWd]
      | succ m =>
        rw [hl] at hr
        simp only [Nat.add_sub_cancel, Nat.succ_ne_zero, if_false, Nat.reduceAdd]
        rw [show m + 1 + 1 = m + 2 from rfl, gWd, hr]
    · rw [if_neg hn, if_neg hn]; rfl
/-- a greatest number: no member is above it, and it is one's, or 0 if there is none -/
theorem max_eq {f g : Nat → Nat} {P : Nat → Prop} {m m' : Nat} (h1 : ∀ l, P l → f l ≤ m) (h2 : m = 0 ∨ ∃ l, P l ∧ f l = m) (h1' : ∀ l, P l → f l ≤ m') (h2' : m' = 0 ∨ ∃ l, P l ∧ f l = m') : m = m' := by
  rcases h2 with h2 | ⟨l, h3, h4⟩
  · rcases h2' with h2' | ⟨l', h3', h4'⟩
    · omega
    · have := h1 l' h3'; omega
  · have h5 := h1' l h3
    rcases h2' with h2' | ⟨l', h3', h4'⟩
    · omega
    · have := h1 l' h3'; omega
theorem gLr_i (th t : Nat) : ∀ n, (∀ l, l < n ∧ gNu a th l = t → gRw a th l ≤ gLr a th t n) ∧ (gLr a th t n = 0 ∨ ∃ l, (l < n ∧ gNu a th l = t) ∧ gRw a th l = gLr a th t n)
  | 0 => ⟨fun l h => by omega, Or.inl rfl⟩
  | n + 1 => by
    have ih := gLr_i th t n
    rw [gLr]
    by_cases hn : gNu a th n = t
    · rw [if_pos hn]
      refine ⟨fun l h => ?_, ?_⟩
      · by_cases hl : l = n
        · subst hl; omega
        · have := ih.1 l ⟨by omega, h.2⟩; omega
      · by_cases hm : gLr a th t n ≤ gRw a th n
        · right; exact ⟨n, ⟨by omega, hn⟩, by omega⟩
        · rcases ih.2 with h | ⟨l, h1, h2⟩
          · omega
          · right; exact ⟨l, ⟨by omega, h1.2⟩, by omega⟩
    · rw [if_neg hn]
      refine ⟨fun l h => ?_, ?_⟩
      · by_cases hl : l = n
        · subst hl; exact absurd h.2 hn
        · exact ih.1 l ⟨by omega, h.2⟩
      · rcases ih.2 with h | ⟨l, h1, h2⟩
        · exact Or.inl h
        · right; exact ⟨l, ⟨by omega, h1.2⟩, h2⟩
/-- the greatest row of the first k members -/
def gLm (a : Lg) (th t : Nat) : Nat → Nat
  | 0 => 0
  | k + 1 => max (gLm a th t k) (gRw a th (gRow a th t k))
theorem gLm_i (th t : Nat) : ∀ k, (∀ i, i < k → gRw a th (gRow a th t i) ≤ gLm a th t k) ∧ (gLm a th t k = 0 ∨ ∃ i, i < k ∧ gRw a th (gRow a th t i) = gLm a th t k)
  | 0 => ⟨fun i h => by omega, Or.inl rfl⟩
  | k + 1 => by
    have ih := gLm_i th t k
    rw [gLm]
    refine ⟨fun i h => ?_, ?_⟩
    · by_cases hi : i = k
      · subst hi; omega
      · have := ih.1 i (by omega); omega
    · by_cases hm : gLm a th t k ≤ gRw a th (gRow a th t k)
      · right; exact ⟨k, by omega, by omega⟩
      · rcases ih.2 with h | ⟨i, h1, h2⟩
        · omega
        · right; exact ⟨i, by omega, by omega⟩
theorem row_of {th t l : Nat} (hl : l < gn a) (hn : gNu a th l = t) : ∃ i, i < gLe a th t (gn a) ∧ gRow a th t i = l := by
  have h1 := gO_gR hl
  have h2 := gR_lt hl
  have hn' : gNu a th (gO a (gR a l)) = t := by rw [h1]; exact hn
  have h3 := gLe_s a th t (gR a l)
  rw [if_pos hn'] at h3
  have h4 := gLe_mono a th t (p := gR a l + 1) (q := gn a) (by omega)
  exact ⟨gLe a th t (gR a l), by omega, by rw [gRow_at h2 hn', h1]⟩
theorem gLm_gLr (th t : Nat) : gLm a th t (gLe a th t (gn a)) = gLr a th t (gn a) := by
  have h1 := gLm_i (a := a) th t (gLe a th t (gn a))
  have h2 := gLr_i (a := a) th t (gn a)
  refine max_eq (f := gRw a th) (g := gRw a th) (P := fun l => l < gn a ∧ gNu a th l = t) (fun l h => ?_) ?_ h2.1 h2.2
  · obtain ⟨i, h3, h4⟩ := row_of h.1 h.2
    have := h1.1 i h3
    rw [h4] at this; exact this
  · rcases h1.2 with h | ⟨i, h3, h4⟩
    · exact Or.inl h
    · have h5 := gRow_i h3
      right; exact ⟨gRow a th t i, h5.2, h4⟩
/-- the row that a line ends: one more than its answer's -/
theorem gSt_rw (hB : LgB a) (th : Nat) : ∀ k, k ≤ gn a → ∀ x, x < gn a → gR a x < k → (gSt a th k).2.2 x = gRw a th x
  | k, hk, x, hx, hxk => by
    have step : ∀ m, k ≤ m → m ≤ gn a → (gSt a th m).2.2 x = (gSt a th k).2.2 x := by
      intro m hkm
      induction m with
      | zero => intro _; rw [show k = 0 by omega]
      | succ m ih =>
        intro hm
        by_cases hmk : k = m + 1
        · rw [hmk]
        · have ih := ih (by omega) (by omega)
          have hne : x ≠ gO a m := fun q => by
            have := gR_gO (a := a) (k := m) (by omega)
            rw [← q] at this; omega
          cases hA : gA a th (gO a m) with
          | none => rw [gSt_n hA]; simp only [un_n hne]; exact ih
          | some b => rw [gSt_b hA]; simp only [un_n hne]; exact ih
    unfold gRw
    rw [step (gn a) hk (Nat.le_refl _)]
theorem gRw_eq (hB : LgB a) (th : Nat) {l : Nat} (hl : l < gn a) : gRw a th l = match gA a th l with
    | none => 1
    | some b => gRw a th b + 1 := by
  have hr := gR_lt hl
  have h1 := gSt_rw hB th (gR a l + 1) (by omega) l hl (by omega)
  have hO := gO_gR hl
  rw [← h1]
  cases hA : gA a th l with
  | none =>
    rw [gSt_n (by rw [hO]; exact hA), hO]
    simp only [un_s]
  | some b =>
    have hb := gA_i hB hl hA
    have hbr := (gR_E hb.1 hl).mpr hb.2
    rw [gSt_b (b := b) (by rw [hO]; exact hA), hO]
    simp only [un_s]
    rw [gSt_rw hB th (gR a l) (by omega) b hb.1 hbr]
theorem gRw_pos (hB : LgB a) (th : Nat) {l : Nat} (hl : l < gn a) : 1 ≤ gRw a th l := by
  have h := gRw_eq hB th hl
  cases hA : gA a th l with
  | none => rw [hA] at h; simp only at h; omega
  | some b => rw [hA] at h; simp only at h; omega
/-- a correction of the kind 2 that is left aside: what it says then -/
theorem gX_at (hW : WfF a) {x l e : Nat} (hx : x < gk a) (h2 : gF a 0 x = 2) (hl : gF a 1 x = l) : gX a 2 l e = some x ↔ gF a 2 x = e := by
  constructor
  · intro h
    have := (ff_some h).2.2
    rw [decide_eq_true_eq] at this
    exact this.2.2.resolve_left (by decide)
  · intro h
    cases hg : gX a 2 l e with
    | none =>
      unfold gX at hg
      rw [ff_none] at hg
      have := hg x (by omega) (by omega)
      rw [decide_eq_false_iff_not] at this
      exact absurd ⟨h2, hl, Or.inr h⟩ this
    | some y =>
      have hy := ff_some hg
      rw [decide_eq_true_eq] at hy
      have : x = y := hW x y hx (by omega) (by rw [h2, hy.2.2.1]) (by rw [hl, hy.2.2.2.1]) (Or.inr (by rw [h, hy.2.2.2.2.resolve_left (by decide)]))
      rw [this]
theorem gMat_o (hB : LgB a) (hW : WfF a) {th x : Nat} (hx : x < gk a) (h2 : gF a 0 x = 2) : gMat a th x = decide (gC a (gF a 1 x) (gk a) = none ∧ gB (fun e => gMayo a (some x) (gF a 1 x) e && decide ((th : Int) ≤ gSc a (gF a 1 x) e)) (gSc a (gF a 1 x)) (gO a) (gR a (gF a 1 x)) = some (gF a 2 x)) := by
  have bF := hB.Fn hx
  have he := bF.2.2 (by omega)
  have hl := bF.2.1
  have hrl := gR_lt hl
  unfold gMat
  rw [if_pos h2, gB_th]
  by_cases hw : gL a 0 (gF a 1 x) - gL a 0 (gF a 2 x) ≤ gs a 0
  · have hwin : gWin a (gF a 1 x) (gF a 2 x) = true := by unfold gWin; rw [decide_eq_true hw]
    rw [hwin, Bool.true_and]
    have eB : gB (gMayo a (some x) (gF a 1 x)) (gSc a (gF a 1 x)) (gO a) (gR a (gF a 1 x)) = gB (fun e => gMay a (gF a 1 x) e || decide (gF a 2 x = e)) (gSc a (gF a 1 x)) (gO a) (gR a (gF a 1 x)) := by
      refine gB_congr (fun i hi => ⟨rfl, ?_, rfl⟩)
      have hO := gO_lt (a := a) (k := i) (by omega)
      have hE : gE a (gO a i) (gF a 1 x) := (gR_E hO hl).mp (by rw [gR_gO (by omega)]; exact hi)
      have ha := gX_at (e := gO a i) hW hx h2 rfl
      unfold gMayo gMay
      rw [decide_eq_true hO, decide_eq_true hE]
      by_cases hx2 : gF a 2 x = gO a i
      · rw [← hx2, decide_eq_true hw, decide_eq_true (Or.inr ((gX_at hW hx h2 rfl).mpr rfl) : gX a 2 (gF a 1 x) (gF a 2 x) = none ∨ gX a 2 (gF a 1 x) (gF a 2 x) = some x)]
        simp
      · have : ¬ gX a 2 (gF a 1 x) (gO a i) = some x := fun q => hx2 (ha.mp q)
        simp [this, hx2]
    rw [eB, Bool.eq_iff_iff, decide_eq_true_eq]
    simp only [Bool.and_eq_true, decide_eq_true_eq]
    cases hb : gB (fun e => gMay a (gF a 1 x) e || decide (gF a 2 x = e)) (gSc a (gF a 1 x)) (gO a) (gR a (gF a 1 x)) with
    | none => simp
    | some b =>
      constructor
      · rintro ⟨h3, h4, h5⟩
        cases h5
        exact ⟨h3, by simp [h4]⟩
      · rintro ⟨h3, h4⟩
        simp only at h4
        by_cases h5 : (th : Int) ≤ gSc a (gF a 1 x) b
        · rw [if_pos h5] at h4; cases h4; exact ⟨h3, h5, rfl⟩
        · rw [if_neg h5] at h4; cases h4
  · have hwin : gWin a (gF a 1 x) (gF a 2 x) = false := by unfold gWin; rw [decide_eq_false hw]
    rw [hwin, Bool.false_and, Bool.and_false]
    symm
    rw [decide_eq_false_iff_not]
    rintro ⟨-, h4⟩
    cases hb : gB (gMayo a (some x) (gF a 1 x)) (gSc a (gF a 1 x)) (gO a) (gR a (gF a 1 x)) with
    | none => rw [hb] at h4; cases h4
    | some b =>
      rw [hb] at h4
      simp only at h4
      by_cases h5 : (th : Int) ≤ gSc a (gF a 1 x) b
      · rw [if_pos h5] at h4
        cases h4
        have := (gB_some hb).1
        unfold gMayo at this
        rw [decide_eq_false hw] at this
        simp at this
      · rw [if_neg h5] at h4; cases h4

