-- needs: 10 11 12 13 14 20 21
variable {a : Lg}
def zI (x : Int) : Int32 := Int32.ofInt x
theorem nz (n : Nat) : nI n = zI (n : Int) := Int32.ofInt_eq_ofNat.symm
theorem zadd (x y : Int) : zI x + zI y = zI (x + y) := (Int32.ofInt_add x y).symm
theorem zsub (x y : Int) : zI x - zI y = zI (x - y) := (Int32.ofInt_sub x y).symm
theorem z_int {x : Int} (h : -2147483648 ≤ x) (h' : x < 2147483648) : (zI x).toInt = x := Int32.toInt_ofInt_of_le h h'
theorem zlt {x y : Int} (h : -2147483648 ≤ x) (h' : x < 2147483648) (k : -2147483648 ≤ y) (k' : y < 2147483648) : zI x < zI y ↔ x < y := by
  rw [Int32.lt_iff_toInt_lt, z_int h h', z_int k k']
theorem zle {x y : Int} (h : -2147483648 ≤ x) (h' : x < 2147483648) (k : -2147483648 ≤ y) (k' : y < 2147483648) : zI x ≤ zI y ↔ x ≤ y := by
  rw [Int32.le_iff_toInt_le, z_int h h', z_int k k']
theorem zeq {x y : Int} (h : -2147483648 ≤ x) (h' : x < 2147483648) (k : -2147483648 ≤ y) (k' : y < 2147483648) : zI x = zI y ↔ x = y := by
  rw [← Int32.toInt_inj, z_int h h', z_int k k']
theorem ones_le (x : Nat) : ones x ≤ 16 := cnt_le _ _
/-- what a score counts up -/
def gUp (a : Lg) (l e : Nat) : Nat := ((if (gP a l).testBit (gL a 1 e) then gs a 2 else 0) + (if (gP a e).testBit (gL a 1 l) then gs a 3 else 0)) + gs a 4 * ones (gL a 3 l &&& gL a 3 e) + (if gL a 1 l = gL a 1 e then gs a 5 else 0)
/-- the score of line l for an earlier line e -/
def gSc (a : Lg) (l e : Nat) : Int := (gUp a l e : Int) - (((gL a 0 l - gL a 0 e) / gs a 6 : Nat) : Int)
theorem gUp_le (hB : LgB a) (l e : Nat) : gUp a l e ≤ 1100 := by
  obtain ⟨-, -, h2, h3, h4, h5, -⟩ := hB.s
  have h6 := ones_le (gL a 3 l &&& gL a 3 e)
  have h7 : gs a 4 * ones (gL a 3 l &&& gL a 3 e) ≤ 50 * 16 := Nat.mul_le_mul h4 h6
  unfold gUp
  split <;> split <;> split <;> omega
theorem gSc_b (hB : LgB a) {l : Nat} (e : Nat) (hl : l < gn a) : -100000 ≤ gSc a l e ∧ gSc a l e ≤ 1100 := by
  have h1 := gUp_le hB l e
  have h2 := (hB.Ln hl).1
  have h3 : (gL a 0 l - gL a 0 e) / gs a 6 ≤ gL a 0 l - gL a 0 e := Nat.div_le_self _ _
  unfold gSc
  generalize (gL a 0 l - gL a 0 e) / gs a 6 = q at *
  omega
/-- whether line l might answer line e, if the threshold let it -/
def gMay (a : Lg) (l e : Nat) : Bool := decide (e < gn a) && decide (gE a e l) && decide (gL a 0 l - gL a 0 e ≤ gs a 0) && decide (gX a 2 l e = none)
theorem gMay_i {l e : Nat} : gMay a l e = true ↔ e < gn a ∧ gE a e l ∧ gL a 0 l - gL a 0 e ≤ gs a 0 ∧ gX a 2 l e = none := by
  unfold gMay; simp only [Bool.and_eq_true, decide_eq_true_eq, and_assoc]
/-- of the lines at the first places that hold ok the one with the greatest score, the latest of several -/
def bet (sc : Nat → Int) (o : Option Nat) (e : Nat) : Bool := match o with
  | none => true
  | some b => decide (sc b ≤ sc e)
def gB (ok : Nat → Bool) (sc : Nat → Int) (O : Nat → Nat) : Nat → Option Nat
  | 0 => none
  | k + 1 => if (ok (O k) && bet sc (gB ok sc O k) (O k)) = true then some (O k) else gB ok sc O k
theorem gB_some {ok : Nat → Bool} {sc : Nat → Int} {O : Nat → Nat} : ∀ {k b : Nat}, gB ok sc O k = some b → ok b = true ∧ ∃ i, i < k ∧ O i = b
  | 0, _, h => by simp [gB] at h
  | k + 1, b, h => by
    unfold gB at h
    split at h
    · rename_i hc; cases h; rw [Bool.and_eq_true] at hc; exact ⟨hc.1, k, by omega, rfl⟩
    · obtain ⟨h1, i, hi, h2⟩ := gB_some h; exact ⟨h1, i, by omega, h2⟩
theorem gB_none {ok : Nat → Bool} {sc : Nat → Int} {O : Nat → Nat} : ∀ {k : Nat}, gB ok sc O k = none → ∀ i, i < k → ok (O i) = false
  | 0, _, i, h => by omega
  | k + 1, h, i, hi => by
    unfold gB at h
    split at h
    · cases h
    · rename_i hc
      by_cases hik : i = k
      · subst hik
        rw [h] at hc
        simpa [bet] using hc
      · exact gB_none h i (by omega)
theorem gB_max {ok : Nat → Bool} {sc : Nat → Int} {O : Nat → Nat} : ∀ {k b : Nat}, gB ok sc O k = some b → ∀ i, i < k → ok (O i) = true → sc (O i) ≤ sc b
  | 0, _, h, _, _, _ => by simp [gB] at h
  | k + 1, b, h, i, hi, ho => by
    unfold gB at h
    split at h
    · rename_i hc
      cases h
      by_cases hik : i = k
      · subst hik; exact Int.le_refl _
      · cases hb : gB ok sc O k with
        | none => have := gB_none hb i (by omega); rw [this] at ho; cases ho
        | some b' =>
          rw [hb] at hc
          simp only [bet, Bool.and_eq_true, decide_eq_true_eq] at hc
          exact Int.le_trans (gB_max hb i (by omega) ho) hc.2
    · rename_i hc
      by_cases hik : i = k
      · subst hik
        rw [h] at hc
        have : ¬ sc b ≤ sc (O i) := fun q => hc (by simp [bet, ho, q])
        omega
      · exact gB_max h i (by omega) ho
/-- first the best one and then the threshold, or the other way round: it is the same -/
theorem gB_th {ok : Nat → Bool} {sc : Nat → Int} {O : Nat → Nat} {th : Int} : ∀ {k : Nat}, gB (fun e => ok e && decide (th ≤ sc e)) sc O k = match gB ok sc O k with
    | none => none
    | some b => if th ≤ sc b then some b else none
  | 0 => rfl
  | k + 1 => by
    have ih := gB_th (ok := ok) (sc := sc) (O := O) (th := th) (k := k)
    rw [gB, gB, ih]
    cases ho : ok (O k) with
    | false => simp
    | true =>
      cases hb : gB ok sc O k with
      | none => by_cases ht : th ≤ sc (O k) <;> simp [ht, bet]
      | some b =>
        by_cases ht : th ≤ sc (O k) <;> by_cases hl : sc b ≤ sc (O k) <;> by_cases h2 : th ≤ sc b <;> simp [ht, hl, h2, bet] <;> omega
theorem gB_congr {ok ok' : Nat → Bool} {sc sc' : Nat → Int} {O O' : Nat → Nat} : ∀ {k : Nat}, (∀ i, i < k → O i = O' i ∧ ok (O i) = ok' (O i) ∧ sc (O i) = sc' (O i)) → gB ok sc O k = gB ok' sc' O' k
  | 0, _ => rfl
  | k + 1, h => by
    have ih := gB_congr (k := k) (fun i hi => h i (by omega))
    obtain ⟨e1, e2, e3⟩ := h k (by omega)
    rw [gB, gB, ← ih, ← e1, ← e2]
    cases hb : gB ok sc O k with
    | none => rfl
    | some b =>
      obtain ⟨-, i, hi, h2⟩ := gB_some hb
      have := (h i (by omega)).2.2
      rw [h2] at this
      rw [show bet sc (some b) (O k) = bet sc' (some b) (O k) from decide_eq_decide.mpr (by rw [this, e3])]
/-- the earlier line that line l answers best, if no correction counts for it -/
def gBest (a : Lg) (l : Nat) : Option Nat := if gC a l (gk a) = none then gB (gMay a l) (gSc a l) (gO a) (gR a l) else none
/-- whether line l joins the thread of line e with its own, if the threshold lets it -/
def gRv (a : Lg) (l e : Nat) : Bool := match gBest a l with
  | none => false
  | some b => (gP a l).testBit (gL a 1 b) && (gMay a l e && (decide (gSc a l b - (gs a 7 : Int) ≤ gSc a l e) && ((gP a l).testBit (gL a 1 e) && decide (gL a 1 e ≠ gL a 1 b))))
/-- what line l answers, at threshold th -/
def gA (a : Lg) (th l : Nat) : Option Nat := match gC a l (gk a) with
  | some x => if gF a 0 x = 0 then none else some (gF a 2 x)
  | none => match gBest a l with
    | none => none
    | some b => if (th : Int) ≤ gSc a l b then some b else none
/-- whether line l joins the thread of line e with its own, at threshold th -/
def gQ (a : Lg) (th l e : Nat) : Bool := gRv a l e && decide ((th : Int) ≤ gSc a l e)
theorem gC_i {l x : Nat} : ∀ {m : Nat}, gC a l m = some x → x < m ∧ gF a 1 x = l ∧ gF a 0 x ≠ 2
  | 0, h => by simp [gC] at h
  | m + 1, h => by
    unfold gC at h
    split at h
    · rename_i hc; cases h; exact ⟨by omega, hc⟩
    · have := gC_i h; exact ⟨by omega, this.2⟩
theorem gBest_i {l b : Nat} (hl : l < gn a) (h : gBest a l = some b) : gMay a l b = true ∧ gC a l (gk a) = none := by
  unfold gBest at h
  split at h
  · rename_i hc; exact ⟨(gB_some h).1, hc⟩
  · cases h
theorem gA_i (hB : LgB a) {th l b : Nat} (hl : l < gn a) (h : gA a th l = some b) : b < gn a ∧ gE a b l := by
  unfold gA at h
  cases hc : gC a l (gk a) with
  | some x =>
    rw [hc] at h
    obtain ⟨h1, h2, h3⟩ := gC_i hc
    simp only at h
    split at h
    · cases h
    · rename_i h0
      cases h
      have := (hB.Fn h1).2.2 h0
      rw [h2] at this; exact this
  | none =>
    rw [hc] at h
    simp only at h
    cases hb : gBest a l with
    | none => rw [hb] at h; cases h
    | some b' =>
      rw [hb] at h
      simp only at h
      split at h
      · cases h
        have := gMay_i.mp (gBest_i hl hb).1
        exact ⟨this.1, this.2.1⟩
      · cases h
theorem gRv_may {l e : Nat} (h : gRv a l e = true) : gMay a l e = true ∧ ∃ b, gBest a l = some b := by
  unfold gRv at h
  cases hb : gBest a l with
  | none => rw [hb] at h; cases h
  | some b =>
    rw [hb] at h
    simp only [Bool.and_eq_true] at h
    exact ⟨h.2.1, b, rfl⟩
theorem gRv_b {l e b : Nat} (h : gRv a l e = true) (hb : gBest a l = some b) : gSc a l b - (gs a 7 : Int) ≤ gSc a l e ∧ (gP a l).testBit (gL a 1 e) = true ∧ gL a 1 e ≠ gL a 1 b ∧ (gP a l).testBit (gL a 1 b) = true := by
  unfold gRv at h
  rw [hb] at h
  simp only [Bool.and_eq_true, decide_eq_true_eq] at h
  exact ⟨h.2.2.1, h.2.2.2.1, h.2.2.2.2, h.1⟩

