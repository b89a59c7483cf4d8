-- needs: 10 11 12
variable {a : Lg}
theorem cnt_s (f : Nat → Bool) (n : Nat) : cnt f (n + 1) = cnt f n + if f n then 1 else 0 := rfl
theorem cnt_add {f g : Nat → Bool} {x : Nat} : ∀ {n : Nat}, x < n → f x = false → g x = true → (∀ i, i ≠ x → f i = g i) → cnt g n = cnt f n + 1
  | 0, h, _, _, _ => absurd h (Nat.not_lt_zero _)
  | n + 1, h, hf, hg, he => by
    rw [cnt_s, cnt_s]
    by_cases hx : x = n
    · subst hx
      rw [hf, hg, cnt_congr (f := g) (g := f) (fun i hi => (he i (by omega)).symm)]; simp
    · rw [cnt_add (n := n) (by omega) hf hg he, he n (by omega)]; omega
theorem cnt_false {f : Nat → Bool} : ∀ {n : Nat}, (∀ i, i < n → f i = false) → cnt f n = 0
  | 0, _ => rfl
  | n + 1, h => by rw [cnt_s, cnt_false (fun i hi => h i (by omega)), h n (by omega)]; rfl
theorem cnt_true {f : Nat → Bool} : ∀ {n : Nat}, (∀ i, i < n → f i = true) → cnt f n = n
  | 0, _ => rfl
  | n + 1, h => by rw [cnt_s, cnt_true (fun i hi => h i (by omega)), h n (by omega)]; rfl
/-- a set that holds with every number all before it is a beginning -/
theorem cnt_down {f : Nat → Bool} : ∀ {n : Nat}, (∀ i j, i < j → j < n → f j = true → f i = true) → ∀ i, i < n → (f i = true ↔ i < cnt f n)
  | 0, _, i, hi => absurd hi (Nat.not_lt_zero _)
  | n + 1, h, i, hi => by
    rw [cnt_s]
    have hl := cnt_le f n
    by_cases hn : f n = true
    · have h2 : cnt f n = n := cnt_true (fun k hk => h k n hk (by omega) hn)
      rw [hn, h2]
      constructor
      · intro _; simp; omega
      · intro _
        by_cases hin : i = n
        · subst hin; exact hn
        · exact h i n (by omega) (by omega) hn
    · have hn' : f n = false := by simpa using hn
      rw [hn']
      simp only [Bool.false_eq_true, if_false, Nat.add_zero]
      by_cases hin : i = n
      · subst hin; rw [hn']; exact ⟨fun q => (by cases q), fun q => by omega⟩
      · exact cnt_down (n := n) (fun x y hxy hy => h x y hxy (by omega)) i (by omega)
/-- numbers below n that are one of the first k values of a function without doubles: k of them -/
theorem cnt_img {f : Nat → Nat} {n : Nat} : ∀ {k : Nat} {g : Nat → Bool}, (∀ i j, i < j → j < k → f i ≠ f j) → (∀ i, i < k → f i < n) → (∀ x, x < n → (g x = true ↔ ∃ i, i < k ∧ f i = x)) → cnt g n = k
  | 0, g, _, _, hg => cnt_false (fun i hi => by
      cases h : g i
      · rfl
      · obtain ⟨j, hj, _⟩ := (hg i hi).mp h; omega)
  | k + 1, g, hi, hl, hg => by
    have ih := cnt_img (k := k) (g := fun x => g x && !decide (x = f k)) (fun i j h1 h2 => hi i j h1 (by omega)) (fun i h => hl i (by omega)) (fun x hx => by
      rw [Bool.and_eq_true, hg x hx]
      constructor
      · rintro ⟨⟨i, h1, h2⟩, h3⟩
        refine ⟨i, ?_, h2⟩
        by_cases hik : i = k
        · subst hik; simp [h2] at h3
        · omega
      · rintro ⟨i, h1, h2⟩
        refine ⟨⟨i, by omega, h2⟩, ?_⟩
        have := hi i k h1 (by omega)
        simp; omega)
    have hk := hl k (by omega)
    rw [cnt_add (f := fun x => g x && !decide (x = f k)) (g := g) hk (by simp) ((hg _ hk).mpr ⟨k, by omega, rfl⟩) (fun i hne => by simp [hne]), ih]
theorem gE_irr (x : Nat) : ¬ gE a x x := by unfold gE; omega
theorem gE_tr {x y z : Nat} (h : gE a x y) (h' : gE a y z) : gE a x z := by unfold gE at *; omega
theorem gE_tot {x y : Nat} (h : x ≠ y) : gE a x y ∨ gE a y x := by unfold gE; omega
theorem gE_as {x y : Nat} (h : gE a x y) : ¬ gE a y x := by unfold gE at *; omega
/-- the first m lines in order: the line at a place; a new one goes in behind all that are ahead of it -/
def gOm (a : Lg) : Nat → Nat → Nat
  | 0 => fun _ => 0
  | m + 1 => fun k => if k < cnt (fun i => decide (gE a (gOm a m i) m)) m then gOm a m k else if k = cnt (fun i => decide (gE a (gOm a m i) m)) m then m else gOm a m (k - 1)
/-- where line m goes among those before it -/
def gW (a : Lg) (m : Nat) : Nat := cnt (fun i => decide (gE a (gOm a m i) m)) m
theorem gOm_s (a : Lg) (m k : Nat) : gOm a (m + 1) k = if k < gW a m then gOm a m k else if k = gW a m then m else gOm a m (k - 1) := rfl
theorem gW_le (a : Lg) (m : Nat) : gW a m ≤ m := cnt_le _ _
theorem gOm_lt (a : Lg) : ∀ m k, k < m → gOm a m k < m
  | 0, k, h => by omega
  | m + 1, k, h => by
    rw [gOm_s]
    have := gW_le a m
    split
    · have := gOm_lt a m k (by omega); omega
    · split
      · omega
      · have := gOm_lt a m (k - 1) (by omega); omega
theorem gOm_cov (a : Lg) : ∀ m l, l < m → ∃ k, k < m ∧ gOm a m k = l
  | 0, l, h => by omega
  | m + 1, l, h => by
    have hw := gW_le a m
    by_cases hl : l = m
    · exact ⟨gW a m, by omega, by rw [gOm_s, if_neg (by omega), if_pos rfl]; omega⟩
    · obtain ⟨k, hk, he⟩ := gOm_cov a m l (by omega)
      by_cases hkw : k < gW a m
      · exact ⟨k, by omega, by rw [gOm_s, if_pos hkw]; exact he⟩
      · exact ⟨k + 1, by omega, by rw [gOm_s, if_neg (by omega), if_neg (by omega)]; exact he⟩
theorem gOm_srt (a : Lg) : ∀ m, (∀ i j, i < j → j < m → gE a (gOm a m i) (gOm a m j)) ∧ ∀ i, i < m → (gE a (gOm a m i) m ↔ i < gW a m)
  | 0 => ⟨fun i j h h' => by omega, fun i h => by omega⟩
  | m + 1 => by
    have ih := gOm_srt a m
    have hw := gW_le a m
    have one : ∀ i j, i < j → j < m + 1 → gE a (gOm a (m + 1) i) (gOm a (m + 1) j) := by
      intro i j hij hj
      rw [gOm_s, gOm_s]
      by_cases h1 : j < gW a m
      · rw [if_pos h1, if_pos (by omega)]; exact ih.1 i j hij (by omega)
      · by_cases h2 : j = gW a m
        · rw [if_neg h1, if_pos h2, if_pos (by omega)]; exact (ih.2 i (by omega)).mpr (by omega)
        · rw [if_neg h1, if_neg h2]
          by_cases h3 : i < gW a m
          · rw [if_pos h3]
            exact ih.1 i (j - 1) (by omega) (by omega)
          · by_cases h4 : i = gW a m
            · rw [if_neg h3, if_pos h4]
              have h5 : ¬ gE a (gOm a m (j - 1)) m := fun q => by have := (ih.2 (j - 1) (by omega)).mp q; omega
              have h6 := gOm_lt a m (j - 1) (by omega)
              exact (gE_tot (by omega)).resolve_right h5
            · rw [if_neg h3, if_neg h4]; exact ih.1 (i - 1) (j - 1) (by omega) (by omega)
    refine ⟨one, fun i hi => ?_⟩
    have := cnt_down (f := fun i => decide (gE a (gOm a (m + 1) i) (m + 1))) (n := m + 1) (fun x y hxy hy hf => by
      rw [decide_eq_true_eq] at hf ⊢
      exact gE_tr (one x y hxy hy) hf) i hi
    rw [decide_eq_true_eq] at this
    exact this
/-- the line at place k -/
def gO (a : Lg) (k : Nat) : Nat := gOm a (gn a) k
/-- the place of line l -/
def gR (a : Lg) (l : Nat) : Nat := cnt (fun k => decide (gE a k l)) (gn a)
theorem gO_lt {k : Nat} (h : k < gn a) : gO a k < gn a := gOm_lt a _ _ h
theorem gO_srt {i j : Nat} (h : i < j) (hj : j < gn a) : gE a (gO a i) (gO a j) := (gOm_srt a _).1 i j h hj
theorem gR_gO {k : Nat} (h : k < gn a) : gR a (gO a k) = k := by
  refine cnt_img (f := gO a) (fun i j hij hj he => ?_) (fun i hi => gO_lt (by omega)) (fun x hx => ?_)
  · have := gO_srt (a := a) hij (by omega); rw [he] at this; exact gE_irr _ this
  · rw [decide_eq_true_eq]
    constructor
    · intro hE
      obtain ⟨i, hi, rfl⟩ := gOm_cov a _ x hx
      refine ⟨i, ?_, rfl⟩
      by_cases hik : i < k
      · exact hik
      · by_cases he : i = k
        · subst he; exact absurd hE (gE_irr _)
        · exact absurd hE (gE_as (gO_srt (a := a) (by omega : k < i) hi))
    · rintro ⟨i, hi, rfl⟩
      exact gO_srt hi h
theorem gO_gR {l : Nat} (h : l < gn a) : gO a (gR a l) = l := by
  obtain ⟨k, hk, he⟩ := gOm_cov a _ l h
  have he : gO a k = l := he
  rw [← he, gR_gO hk]
theorem gR_lt {l : Nat} (h : l < gn a) : gR a l < gn a := by
  obtain ⟨k, hk, he⟩ := gOm_cov a _ l h
  have he : gO a k = l := he
  rw [← he, gR_gO hk]; exact hk
theorem gR_E {x y : Nat} (hx : x < gn a) (hy : y < gn a) : gR a x < gR a y ↔ gE a x y := by
  have h1 := gO_gR hx
  have h2 := gO_gR hy
  have l1 := gR_lt hx
  have l2 := gR_lt hy
  constructor
  · intro h; have := gO_srt (a := a) h l2; rw [h1, h2] at this; exact this
  · intro h
    by_cases q : gR a x < gR a y
    · exact q
    · by_cases e : gR a x = gR a y
      · rw [e, h2] at h1; rw [h1] at h; exact absurd h (gE_irr _)
      · have := gO_srt (a := a) (by omega : gR a y < gR a x) l1
        rw [h1, h2] at this; exact absurd h (gE_as this)
theorem gR_inj {x y : Nat} (hx : x < gn a) (hy : y < gn a) (h : gR a x = gR a y) : x = y := by
  have h1 := gO_gR hx
  rw [h, gO_gR hy] at h1; exact h1.symm

