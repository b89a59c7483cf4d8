-- needs: 10 11 12 13 14 15 20 21 22 23 30 31 32 33 34 35 36 37 38 40 41 42 50 51 55 59 60
/-- all that the calls are about: the log, the states kept, the text -/
abbrev St : Type := Lg × Nat × (Nat → Lg) × Nat × (Nat → Nat)
abbrev St.a (s : St) : Lg := s.1
abbrev St.c (s : St) : Nat := s.2.1
abbrev St.h (s : St) : Nat → Lg := s.2.2.1
abbrev St.n (s : St) : Nat := s.2.2.2.1
abbrev St.x (s : St) : Nat → Nat := s.2.2.2.2
/-- a change: the state before is kept -/
def psh (s : St) (b : Lg) : St := (b, pushC s.c, pushH s.c s.h s.a, s.n, s.x)
/-- takes stand by their times, and at any time a name is one person's at most -/
def WfT (a : Lg) : Prop := (∀ i j, i < j → j < gt a → gT a 2 i ≤ gT a 2 j) ∧ ∀ τ nm p p', gN a p τ (gt a) = some nm → gN a p' τ (gt a) = some nm → p = p'
def WfS (s : St) : Prop := (LgB s.a ∧ WfF s.a ∧ WfT s.a) ∧ ∀ j, j < s.c → LgB (s.h j) ∧ WfF (s.h j) ∧ WfT (s.h j)
abbrev pN (x : Int32) : Nat := x.toNatClampNeg
theorem pN_i {x : Int32} (h : 0 ≤ x) : x = nI (pN x) ∧ pN x < 2147483648 := by
  have h2 : 0 ≤ x.toInt := by
    have := Int32.le_iff_toInt_le.mp h
    simpa using this
  have h3 := Int32.toInt_lt x
  have h4 : ((pN x : Nat) : Int) = x.toInt := by
    unfold pN Int32.toNatClampNeg
    omega
  have h5 : pN x < 2147483648 := by omega
  refine ⟨?_, h5⟩
  rw [← Int32.toInt_inj, nI_toInt h5, h4]
theorem pN_lt {x : Int32} {n : Nat} (h : 0 ≤ x) (h2 : x < nI n) (hn : n < 2147483648) : ∃ p, p < n ∧ x = nI p := by
  have h3 := pN_i h
  refine ⟨pN x, ?_, h3.1⟩
  rw [h3.1, nlt h3.2 hn] at h2; exact h2
theorem pN_le {x : Int32} {n : Nat} (h : 0 ≤ x) (h2 : x ≤ nI n) (hn : n < 2147483648) : ∃ p, p ≤ n ∧ x = nI p := by
  have h3 := pN_i h
  refine ⟨pN x, ?_, h3.1⟩
  rw [h3.1, nle h3.2 hn] at h2; exact h2
theorem pN_n {p : Nat} (h : p < 2147483648) : pN (nI p) = p := vcl h
abbrev isP (x : Int32) : Prop := 0 ≤ x ∧ x < 12
abbrev isN (x : Int32) : Prop := 0 ≤ x ∧ x < 16
abbrev isT (x : Int32) : Prop := 0 ≤ x ∧ x ≤ 100000
abbrev isB (x : Int32) : Prop := 0 ≤ x ∧ x ≤ 65535
abbrev isL (a : Lg) (x : Int32) : Prop := 0 ≤ x ∧ x < nI (gn a)
abbrev isF (a : Lg) (x : Int32) : Prop := 0 ≤ x ∧ x < nI (gk a)
abbrev isR (a : Lg) (x : Int32) : Prop := 0 ≤ x ∧ x < nI (gTn a (gs a 1))
abbrev isW (x y : Int32) : Prop := 0 ≤ x ∧ x < 8 ∧ am_t1 (pN x) ≤ y ∧ y ≤ am_t2 (pN x)
/-- the calls: what each answers and what it leaves -/
def tk (s : St) (p nm τ : Nat) : Int32 × St := if τ < gl s.a ∨ (gH s.a nm τ ≠ none ∧ gH s.a nm τ ≠ some p) then (-2, s) else if 20 ≤ gt s.a then (-3, s) else (nI (gt s.a + 1), psh s (aT s.a p nm τ))
def o_takes (s : St) (x y z : Int32) : Int32 × St := if isP x ∧ isN y ∧ isT z then tk s (pN x) (pN y) (pN z) else (-1, s)
def q_nameOf (s : St) (x y : Int32) : Int32 := if isP x ∧ isT y then oI (-4) (gN s.a (pN x) (pN y) (gt s.a)) else -1
def q_whoHas (s : St) (x y : Int32) : Int32 := if isN x ∧ isT y then oI (-4) (gH s.a (pN x) (pN y)) else -1
def o_line (s : St) (x y z w : Int32) : Int32 × St := if isT x ∧ isP y ∧ isB z ∧ isB w then (if 30 ≤ gn s.a then (-3, s) else (nI (gn s.a), psh s (aL s.a (pN x) (pN y) (pN z) (pN w)))) else (-1, s)
def o_drop (s : St) (x : Int32) : Int32 × St := if isL s.a x then (nI (gk (dropL s.a (pN x))), psh s (dropL s.a (pN x))) else (-1, s)
def lo (a : Lg) (l : Nat) (y : Nat) : Int32 := if y < 4 then nI (gL a y l) else if y = 4 then nI (gR a l) else if y = 5 then nI (gNu a (gs a 1) l) else if y = 6 then oI (-4) (gA a (gs a 1) l) else if y = 7 then nI (gAto a (gs a 1) (some l)) else if y = 8 then nI (gJn a (gs a 1) l) else nI (gP a l)
def q_lineOf (s : St) (x y : Int32) : Int32 := if isL s.a x ∧ 0 ≤ y ∧ y ≤ 9 then lo s.a (pN x) (pN y) else -1
def q_inOrder (s : St) (x : Int32) : Int32 := if x < 0 then -1 else if x < nI (gn s.a) then nI (gO s.a (pN x)) else -4
def q_score (s : St) (x y : Int32) : Int32 := if isL s.a x ∧ isL s.a y then (if gE s.a (pN y) (pN x) then zI (100000 + gSc s.a (pN x) (pN y)) else -2) else -1
def q_reason (s : St) (x y : Int32) : Int32 := if isL s.a x ∧ isL s.a y then nI (gReason s.a (gs s.a 1) (pN x) (pN y)) else -1
def o_set (s : St) (x y : Int32) : Int32 × St := if isW x y then (nI (gs s.a (pN x)), psh s (aS s.a (pN x) (pN y))) else (-1, s)
def gFx (a : Lg) : Nat := cnt (fun l => decide (gC a l (gk a) ≠ none)) (gn a)
def q_count (s : St) (x : Int32) : Int32 := if x = 0 then nI (gn s.a) else if x = 1 then nI (gk s.a) else if x = 2 then nI (gTn s.a (gs s.a 1)) else if x = 3 then nI (gAto s.a (gs s.a 1) none) else if x = 4 then nI (sm (gJn s.a (gs s.a 1)) (gn s.a)) else if x = 5 then nI (gFx s.a) else if x = 6 then nI (gt s.a) else if x = 7 then nI s.c else if x = 8 then nI s.n else if 10 ≤ x ∧ x ≤ 17 then nI (gs s.a (pN x - 10)) else -1
def o_undo (s : St) : Int32 × St := if s.c = 0 then (-2, s) else (nI (s.c - 1), (s.h (s.c - 1), s.c - 1, s.h, s.n, s.x))
def o_correct (s : St) (k x y : Int32) : Int32 × St := if (0 ≤ k ∧ k ≤ 2) ∧ isL s.a x ∧ (k = 0 ∨ isL s.a y) then (if gCan s.a (pN k) (pN x) (if k = 0 then 0 else pN y) = true then (if 12 ≤ gk s.a then (-3, s) else (nI (gk s.a + 1), psh s (aF s.a (pN k) (pN x) (if k = 0 then 0 else pN y)))) else (-2, s)) else (-1, s)
def o_withdraw (s : St) (x : Int32) : Int32 × St := if isF s.a x then (nI (gk s.a - 1), psh s (rmF s.a (pN x))) else (-1, s)
def q_correction (s : St) (x y : Int32) : Int32 := if isF s.a x ∧ 0 ≤ y ∧ y ≤ 3 then (if y = 0 then nI (gF s.a 0 (pN x)) else if y = 1 then nI (gF s.a 1 (pN x)) else if y = 2 then eI (-4) s.a (pN x) else bI (gMat s.a (gs s.a 1) (pN x))) else -1
def tho (a : Lg) (t y : Nat) : Int32 := if y = 0 then nI (gLe a (gs a 1) t (gn a)) else if y = 1 then nI (gWr a (gs a 1) t) else if y = 2 then oI (-4) (gMem a (gs a 1) t 0) else if y = 3 then nI (gLa a (gs a 1) t (gn a)) else if y = 4 then nI (gSpan a (gs a 1) t) else if y = 5 then nI (gGg a (gs a 1) t (gn a)).2 else nI (gLr a (gs a 1) t (gn a))
def q_threadOf (s : St) (x y : Int32) : Int32 := if isR s.a x ∧ 0 ≤ y ∧ y ≤ 6 then tho s.a (pN x) (pN y) else -1
def q_lineIn (s : St) (x y : Int32) : Int32 := if isR s.a x ∧ 0 ≤ y then oI (-4) (gMem s.a (gs s.a 1) (pN x) (pN y)) else -1
def gRank (a : Lg) (r : Nat) : Option Nat := ff (fun t => decide (gAh a (gs a 1) t = r)) 0 (gTn a (gs a 1))
def q_busiest (s : St) (x : Int32) : Int32 := if x < 0 then -1 else oI (-4) (gRank s.a (pN x))
def q_answers (s : St) (x y : Int32) : Int32 := if isP x ∧ isP y then nI (gAbt s.a (gs s.a 1) (pN x) (pN y)) else -1
/-- the partner: the person with most answers, the first of several -/
def gPt (a : Lg) (p : Nat) : Nat → Option Nat × Nat
  | 0 => (none, 0)
  | o + 1 => if (gPt a p o).2 < (if o = p then 0 else gAbt a (gs a 1) p o) then (some o, gAbt a (gs a 1) p o) else gPt a p o
def q_partner (s : St) (x : Int32) : Int32 := if isP x then oI (-4) (gPt s.a (pN x) 12).1 else -1
def q_awake (s : St) (x : Int32) : Int32 := if isT x then nI (cnt (fun t => gAw s.a (gs s.a 1) t (pN x)) (gTn s.a (gs s.a 1))) else -1
def q_threadsWith (s : St) (x y : Int32) : Int32 := if isW x y then nI (gTn (aS s.a (pN x) (pN y)) (gs (aS s.a (pN x) (pN y)) 1)) else -1
def q_threadsWithout (s : St) (x : Int32) : Int32 := if isL s.a x then nI (gTn (dropL s.a (pN x)) (gs s.a 1)) else -1
/-- the least threshold at which two lines' threads are told apart -/
def gPart (a : Lg) (l o : Nat) : Option Nat := ff (fun v => decide (gNu (aS a 1 v) v l ≠ gNu (aS a 1 v) v o)) 0 201
def q_parting (s : St) (x y : Int32) : Int32 := if isL s.a x ∧ isL s.a y ∧ x ≠ y then oI (-4) (gPart s.a (pN x) (pN y)) else -1
def o_type (s : St) (x : Int32) : Int32 × St := if 32 ≤ x ∧ x ≤ 126 then (if 80 ≤ s.n then (-3, s) else (nI (s.n + 1), (s.a, s.c, s.h, s.n + 1, fun j => if j = s.n then pN x else s.x j))) else (-1, s)
def o_clearText (s : St) : Int32 × St := (nI s.n, (s.a, s.c, s.h, 0, s.x))
abbrev dn0 (s : St) : Nat × Nat × Lg × Nat := tdo s.x s.n 80 0 s.a 0
def q_fault (s : St) (x : Int32) : Int32 := if 0 ≤ x ∧ x ≤ 1 then (if (dn0 s).1 = 0 then -4 else if x = 0 then nI (dn0 s).2.1 else nI (dn0 s).1) else -1
def o_load (s : St) : Int32 × St := if (dn0 s).1 = 0 then (nI (dn0 s).2.2.2, psh s (dn0 s).2.2.1) else (-2, s)
/-- what is kept well stays well kept -/
theorem WfS_psh {s : St} (hW : WfS s) {b : Lg} (hc : s.c ≤ 4) (h1 : LgB b) (h2 : WfF b) (h3 : WfT b) : WfS (psh s b) := by
  refine ⟨⟨h1, h2, h3⟩, fun j hj => ?_⟩
  have hj : j < pushC s.c := hj
  show LgB (pushH s.c s.h s.a j) ∧ WfF (pushH s.c s.h s.a j) ∧ WfT (pushH s.c s.h s.a j)
  unfold pushC at hj
  unfold pushH
  by_cases h4 : s.c = 4
  · rw [if_pos h4] at hj ⊢
    by_cases hj3 : j = 3
    · rw [if_pos hj3]; exact hW.1
    · rw [if_neg hj3]; exact hW.2 (j + 1) (by omega)
  · rw [if_neg h4] at hj ⊢
    by_cases hj3 : j = s.c
    · rw [if_pos hj3]; exact hW.1
    · rw [if_neg hj3]; exact hW.2 j (by omega)
variable {a : Lg}
theorem gN_all {p τ τ' : Nat} : ∀ {m : Nat}, m ≤ gt a → (∀ j, j < m → gT a 2 j ≤ τ ∧ gT a 2 j ≤ τ') → gN a p τ m = gN a p τ' m
  | 0, _, _ => rfl
  | m + 1, hm, h => by
    have ih := gN_all (p := p) (τ := τ) (τ' := τ') (m := m) (by omega) (fun j hj => h j (by omega))
    have h2 := h m (by omega)
    rw [gN, gN, ih]
    by_cases hp : gT a 0 m = p
    · rw [if_pos ⟨hp, h2.1⟩, if_pos ⟨hp, h2.2⟩]
    · rw [if_neg (fun q => hp q.1), if_neg (fun q => hp q.1)]
theorem gN_aT {p nm τ0 p' τ : Nat} : ∀ {m : Nat}, m ≤ gt a → gN (aT a p nm τ0) p' τ m = gN a p' τ m
  | 0, _ => rfl
  | m + 1, hm => by
    have e : ∀ c, gT (aT a p nm τ0) c m = gT a c m := fun c => by simp only [aT_T]; rw [if_neg (by omega)]
    rw [gN, gN, gN_aT (m := m) (by omega), e, e, e]
theorem WfT_aT (hW : WfT a) {p nm τ0 : Nat} (hl : ¬ τ0 < gl a) (hh : ¬ (gH a nm τ0 ≠ none ∧ gH a nm τ0 ≠ some p)) (hB : LgB a) (hp12 : p < 12) : WfT (aT a p nm τ0) := by
  have hlast : ∀ j, j < gt a → gT a 2 j ≤ τ0 := by
    intro j hj
    unfold gl at hl
    rw [if_neg (by omega)] at hl
    by_cases hjl : j = gt a - 1
    · rw [hjl]; omega
    · have := hW.1 j (gt a - 1) (by omega) (by omega); omega
  -- nobody else has the name then
  have others : ∀ p' τ, p' ≠ p → τ0 ≤ τ → gN a p' τ (gt a) ≠ some nm := by
    intro p' τ hne hτ hg
    rw [gN_all (τ' := τ0) (Nat.le_refl _) (fun j hj => ⟨by have := hlast j hj; omega, hlast j hj⟩)] at hg
    have hp' : p' < 12 := by
      -- whoever has a name took it
      have : ∀ m, m ≤ gt a → gN a p' τ0 m ≠ none → p' < 12 := by
        intro m
        induction m with
        | zero => intro _ h; exact absurd rfl h
        | succ m ih =>
          intro hm h
          rw [gN] at h
          by_cases hc : gT a 0 m = p' ∧ gT a 2 m ≤ τ0
          · have := (hB.Tn (j := m) (by omega)).1; omega
          · rw [if_neg hc] at h; exact ih (by omega) h
      exact this (gt a) (Nat.le_refl _) (by rw [hg]; exact Option.some_ne_none _)
    apply hh
    have hsome : gH a nm τ0 = some p' := by
      unfold gH
      cases hf : ff (fun p => decide (gN a p τ0 (gt a) = some nm)) 0 12 with
      | none => rw [ff_none] at hf; have := hf p' (by omega) (by omega); rw [decide_eq_true hg] at this; cases this
      | some y =>
        have hy := (ff_some hf).2.2
        rw [decide_eq_true_eq] at hy
        rw [hW.2 τ0 nm y p' hy hg]
    rw [hsome]
    exact ⟨Option.some_ne_none _, fun q => hne (by cases q; rfl)⟩
  refine ⟨fun i j hij hj => ?_, fun τ nm' p1 p2 h1 h2 => ?_⟩
  · rw [aT_t] at hj
    simp only [aT_T]
    rw [if_neg (by omega : ¬ i = gt a)]
    by_cases hjt : j = gt a
    · rw [if_pos hjt]
      have := hlast i (by omega)
      simpa using this
    · rw [if_neg hjt]; exact hW.1 i j hij (by omega)
  · have e : ∀ q, gN (aT a p nm τ0) q τ (gt a + 1) = if p = q ∧ τ0 ≤ τ then some nm else gN a q τ (gt a) := by
      intro q
      rw [gN, gN_aT (Nat.le_refl _)]
      simp only [aT_T, if_true, Nat.reduceEqDiff, if_false, reduceCtorEq]
    rw [aT_t, e] at h1 h2
    by_cases c1 : p = p1 ∧ τ0 ≤ τ
    · rw [if_pos c1] at h1
      cases h1
      by_cases c2 : p = p2 ∧ τ0 ≤ τ
      · omega
      · rw [if_neg c2] at h2
        have : p2 ≠ p := fun q => c2 ⟨q.symm, c1.2⟩
        exact absurd h2 (others p2 τ this c1.2)
    · rw [if_neg c1] at h1
      by_cases c2 : p = p2 ∧ τ0 ≤ τ
      · rw [if_pos c2] at h2
        cases h2
        have : p1 ≠ p := fun q => c1 ⟨q.symm, c2.2⟩
        exact absurd h1 (others p1 τ this c2.2)
      · rw [if_neg c2] at h2
        exact hW.2 τ nm' p1 p2 h1 h2
theorem WfT_same {b : Lg} (hW : WfT a) (h1 : gt b = gt a) (h2 : gT b = gT a) : WfT b := by
  have e : ∀ p τ m, gN b p τ m = gN a p τ m := by
    intro p τ m
    induction m with
    | zero => rfl
    | succ m ih => rw [gN, gN, ih, h2]
  refine ⟨fun i j hij hj => by rw [h2]; rw [h1] at hj; exact hW.1 i j hij hj, fun τ nm p p' h3 h4 => ?_⟩
  rw [h1, e] at h3 h4
  exact hW.2 τ nm p p' h3 h4
theorem gH_lst (hW : WfT a) (nm τ : Nat) : lst (fun p => decide (gN a p τ (gt a) = some nm)) 12 = gH a nm τ := by
  refine lst_ff (fun x y _ _ h1 h2 => ?_)
  rw [decide_eq_true_eq] at h1 h2
  exact hW.2 τ nm x y h1 h2
theorem LgB_aT (hB : LgB a) {p nm τ : Nat} (h : gt a < 20) (h1 : p < 12) (h2 : nm < 16) (h3 : τ ≤ 100000) : LgB (aT a p nm τ) := by
  refine ⟨⟨by rw [aT_t]; omega, hB.n, hB.k⟩, fun j hj => ?_, hB.2.2.1, hB.2.2.2.1, hB.s⟩
  rw [aT_t] at hj
  simp only [aT_T]
  by_cases hjt : j = gt a
  · simp only [hjt, if_true, if_false, Nat.reduceEqDiff, reduceCtorEq]; exact ⟨h1, h2, h3⟩
  · simp only [hjt, if_false]; exact hB.2.1 j (by omega)
theorem WfF_rmF (hW : WfF a) (x : Nat) : WfF (rmF a x) := by
  intro i j hi hj h0 h1 h2
  rw [rmF_k] at hi hj
  have e : ∀ c j, gF (rmF a x) c j = gF a c (if j < x then j else j + 1) := fun c j => by simp only [rmF_F]; split <;> rfl
  rw [e, e] at h0 h1 h2
  rw [e] at h2
  have := hW (if i < x then i else i + 1) (if j < x then j else j + 1) (by split <;> omega) (by split <;> omega) h0 h1 h2
  split at this <;> split at this <;> omega

