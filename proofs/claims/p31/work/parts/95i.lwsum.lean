-- needs: 10 11 12 13 14 15 20 21 22 23 30 31 32 33 34 35 36 37
variable {a : Lg}
theorem sm_congr {f g : Nat → Nat} : ∀ {n : Nat}, (∀ i, i < n → f i = g i) → sm f n = sm g n
  | 0, _ => rfl
  | n + 1, h => by rw [sm, sm, sm_congr (n := n) (fun i hi => h i (by omega)), h n (by omega)]
/-- one more goes in at place w: the sum is greater by it -/
theorem sm_ins {g : Nat → Nat} {w x : Nat} : ∀ d, sm (fun k => if k < w then g k else if k = w then x else g (k - 1)) (w + d + 1) = sm g (w + d) + x
  | 0 => by
    show sm _ w + (if w < w then g w else if w = w then x else g (w - 1)) = sm g w + x
    rw [if_neg (Nat.lt_irrefl _), if_pos rfl, sm_congr (g := g) (fun i hi => by rw [if_pos hi])]
  | d + 1 => by
    have ih := sm_ins (g := g) (w := w) (x := x) d
    show sm _ (w + d + 1) + (if w + d + 1 < w then g (w + d + 1) else if w + d + 1 = w then x else g (w + d + 1 - 1)) = (sm g (w + d) + g (w + d)) + x
    rw [ih, if_neg (by omega), if_neg (by omega), show w + d + 1 - 1 = w + d by omega]; omega
theorem sm_Om (f : Nat → Nat) : ∀ m, sm (fun k => f (gOm a m k)) m = sm f m
  | 0 => rfl
  | m + 1 => by
    have ih := sm_Om f m
    have hw := gW_le a m
    obtain ⟨d, hd⟩ : ∃ d, m = gW a m + d := ⟨m - gW a m, by omega⟩
    have h := sm_ins (g := fun k => f (gOm a m k)) (w := gW a m) (x := f m) d
    rw [← hd, ih] at h
    rw [show sm f (m + 1) = sm f m + f m from rfl, ← h]
    refine sm_congr (fun k _ => ?_)
    rw [gOm_s]
    split
    · rfl
    · split <;> rfl
/-- a sum over the places is the sum over the lines -/
theorem sm_gO (f : Nat → Nat) : sm (fun k => f (gO a k)) (gn a) = sm f (gn a) := sm_Om f (gn a)
theorem cnt_sm (f : Nat → Bool) : ∀ n, cnt f n = sm (fun i => if f i then 1 else 0) n
  | 0 => rfl
  | n + 1 => by rw [cnt_s, cnt_sm f n]; rfl
theorem cnt_gO (f : Nat → Bool) : cnt (fun k => f (gO a k)) (gn a) = cnt f (gn a) := by
  rw [cnt_sm, cnt_sm, ← sm_gO (a := a) (fun i => if f i then 1 else 0)]
theorem cnt_and (f g : Nat → Bool) : ∀ n, cnt f n = cnt (fun i => f i && g i) n + cnt (fun i => f i && !g i) n
  | 0 => rfl
  | n + 1 => by
    rw [cnt_s, cnt_s, cnt_s, cnt_and f g n]
    cases f n <;> cases g n <;> simp <;> omega
theorem cnt_more {f : Nat → Bool} {k : Nat} : ∀ {n : Nat}, k ≤ n → (∀ v, k ≤ v → f v = false) → cnt f n = cnt f k
  | 0, h, _ => by rw [show k = 0 by omega]
  | n + 1, h, hf => by
    by_cases hk : k = n + 1
    · rw [hk]
    · rw [cnt_s, hf n (by omega), cnt_more (n := n) (by omega) hf]; rfl
/-- lines that begin by themselves, of the first k: as many as threads and joins of theirs together -/
theorem thr_k (hB : LgB a) (th : Nat) : ∀ k, k ≤ gn a → cnt (fun i => decide (gA a th (gO a i) = none)) k = cnt (fun v => decide ((gSt a th k).1 (gO a v) = v)) k + sm (fun i => (gSt a th k).2.1 (gO a i)) k
  | 0, _ => rfl
  | k + 1, hk => by
    have ih := thr_k hB th k (by omega)
    have hl := gO_lt (a := a) (k := k) (by omega)
    have hRk := gR_gO (a := a) (k := k) (by omega)
    have hst := gSt_I hB th k (by omega)
    have ne : ∀ i, i < k → gO a i ≠ gO a k := fun i hi q => by
      have h1 := gR_gO (a := a) (k := i) (by omega)
      rw [q, hRk] at h1; omega
    have rO : ∀ i, i < k → gO a i < gn a ∧ gR a (gO a i) < k := fun i hi => ⟨gO_lt (by omega), by rw [gR_gO (by omega)]; exact hi⟩
    rw [cnt_s, ih]
    cases hA : gA a th (gO a k) with
    | none =>
      have eS := gSt_n hA
      have e1 : cnt (fun v => decide ((gSt a th (k + 1)).1 (gO a v) = v)) (k + 1) = cnt (fun v => decide ((gSt a th k).1 (gO a v) = v)) k + 1 := by
        have v1 : ∀ i, i < k → (gSt a th (k + 1)).1 (gO a i) = (gSt a th k).1 (gO a i) := fun i hi => by
          rw [eS]; exact un_n (ne i hi)
        have v2 : (gSt a th (k + 1)).1 (gO a k) = k := by
          rw [eS]; exact un_s _ _ _
        rw [cnt_s, decide_eq_true v2, if_pos rfl]
        congr 1
        exact cnt_congr (fun i hi => by rw [v1 i hi])
      have e2 : sm (fun i => (gSt a th (k + 1)).2.1 (gO a i)) (k + 1) = sm (fun i => (gSt a th k).2.1 (gO a i)) k := by
        rw [eS]
        show sm (fun i => un (gSt a th k).2.1 (gO a k) 0 (gO a i)) k + un (gSt a th k).2.1 (gO a k) 0 (gO a k) = _
        rw [un_s, Nat.add_zero]
        exact sm_congr (fun i hi => by rw [un_n (ne i hi)])
      rw [e1, e2]
      simp; omega
    | some b =>
      have eS := gSt_b hA
      have hb := gA_i hB hl hA
      have hbr : gR a b < k := by have := (gR_E hb.1 hl).mpr hb.2; omega
      have hfb := hst b hb.1 hbr
      obtain ⟨fp, hfp⟩ : ∃ fp, (gSt a th k).1 = fp := ⟨_, rfl⟩
      obtain ⟨V, hV⟩ : ∃ V, gV (gn a) (gQ a th (gO a k)) fp b = V := ⟨_, rfl⟩
      obtain ⟨J, hJ⟩ : ∃ J, cnt (fun v => hasV (gQ a th (gO a k)) fp (gn a) v && decide (v ≠ fp b)) (gn a) = J := ⟨_, rfl⟩
      obtain ⟨m, hm⟩ : ∃ m, mn V (gn a) = m := ⟨_, rfl⟩
      rw [hfp] at eS hfb hst
      have Vb : V (fp b) = true := by rw [← hV]; unfold gV; simp
      have hmm := mn_i Vb (n := gn a) (by omega)
      rw [hm] at hmm
      -- what is joined are first places of lines done
      have Vi : ∀ v, V v = true → v < k ∧ fp (gO a v) = v := by
        intro v hv
        rw [← hV] at hv
        unfold gV at hv
        rw [Bool.or_eq_true, decide_eq_true_eq, hasV_i] at hv
        rcases hv with hv | ⟨e, h1, h2, h3⟩
        · rw [hv]; exact ⟨by omega, hfb.2⟩
        · have he := gQ_i h2
          have her : gR a e < k := by have := (gR_E he.1 hl).mpr he.2.1; omega
          have := hst e h1 her
          rw [h3] at this
          exact ⟨by omega, this.2⟩
      have e1 : cnt (fun v => decide ((gSt a th (k + 1)).1 (gO a v) = v)) (k + 1) = cnt (fun v => decide (fp (gO a v) = v) && !V v) k + 1 := by
        have v2 : (gSt a th (k + 1)).1 (gO a k) = m := by
          rw [eS]
          show (if gO a k = gO a k ∨ _ then mn (gV (gn a) (gQ a th (gO a k)) fp b) (gn a) else fp (gO a k)) = m
          rw [if_pos (Or.inl rfl), hV, hm]
        have v1 : ∀ v, v < k → (gSt a th (k + 1)).1 (gO a v) = if V (fp (gO a v)) = true then m else fp (gO a v) := by
          intro v hv
          rw [eS]
          show (if gO a v = gO a k ∨ (gR a (gO a v) < k ∧ gV (gn a) (gQ a th (gO a k)) fp b (fp (gO a v)) = true) then mn (gV (gn a) (gQ a th (gO a k)) fp b) (gn a) else fp (gO a v)) = _
          rw [hV, hm]
          by_cases hc : V (fp (gO a v)) = true
          · rw [if_pos (Or.inr ⟨(rO v hv).2, hc⟩), if_pos hc]
          · rw [if_neg (fun q => q.elim (ne v hv) (fun q => hc q.2)), if_neg hc]
        rw [cnt_s, decide_eq_false (by rw [v2]; have := (Vi m hmm.1).1; omega)]
        simp only [Bool.false_eq_true, if_false, Nat.add_zero]
        rw [cnt_congr (g := fun v => decide (v = m) || (decide (fp (gO a v) = v) && !V v)) (fun v hv => ?_)]
        · refine cnt_add (x := m) (Vi m hmm.1).1 ?_ ?_ (fun i hi => ?_)
          · rw [hmm.1]; simp
          · simp
          · simp [hi]
        · have hr := rO v hv
          have hx := hst _ hr.1 hr.2
          rw [gR_gO (by omega)] at hx
          rw [v1 v hv]
          by_cases hVf : V (fp (gO a v)) = true
          · rw [if_pos hVf]
            by_cases hvm : v = m
            · rw [decide_eq_true hvm.symm, decide_eq_true hvm]; rfl
            · rw [decide_eq_false (fun q => hvm q.symm), decide_eq_false hvm, Bool.false_or]
              by_cases hfv : fp (gO a v) = v
              · rw [hfv] at hVf; rw [hVf]; simp
              · rw [decide_eq_false hfv]; rfl
          · rw [if_neg hVf]
            have hvm : v ≠ m := fun q => by
              have := (Vi m hmm.1).2
              rw [← q] at this
              rw [this, q] at hVf
              exact hVf hmm.1
            rw [decide_eq_false hvm, Bool.false_or]
            by_cases hfv : fp (gO a v) = v
            · rw [hfv] at hVf
              have hVf : V v = false := by simpa using hVf
              rw [hVf]; simp
            · rw [decide_eq_false hfv]; rfl
      have e2 : sm (fun i => (gSt a th (k + 1)).2.1 (gO a i)) (k + 1) = sm (fun i => (gSt a th k).2.1 (gO a i)) k + J := by
        rw [eS]
        show sm (fun i => un (gSt a th k).2.1 (gO a k) _ (gO a i)) k + un (gSt a th k).2.1 (gO a k) _ (gO a k) = _
        rw [un_s, hJ]
        congr 1
        exact sm_congr (fun i hi => by rw [un_n (ne i hi)])
      have e3 : cnt V (gn a) = J + 1 := by
        rw [← hJ]
        refine cnt_add (x := fp b) (by omega) (by simp) Vb (fun i hi => ?_)
        rw [← hV]
        unfold gV
        simp [hi]
      have e4 : cnt V (gn a) = cnt V k := cnt_more (by omega) (fun v hv => by
        cases h : V v
        · rfl
        · have := (Vi v h).1; omega)
      have e5 : cnt (fun v => decide (fp (gO a v) = v) && V v) k = cnt V k := cnt_congr (fun v _ => by
        cases h : V v
        · simp
        · rw [(Vi v h).2]; simp)
      have e6 := cnt_and (fun v => decide (fp (gO a v) = v)) V k
      rw [e1, e2, hfp, e6, e5, ← e4, e3]
      simp; omega
/-- lines that begin by themselves are as many as threads and joins together -/
theorem thr_all (hB : LgB a) (th : Nat) : cnt (fun i => decide (gA a th (gO a i) = none)) (gn a) = gTn a th + sm (fun i => gJn a th (gO a i)) (gn a) := thr_k hB th (gn a) (Nat.le_refl _)
