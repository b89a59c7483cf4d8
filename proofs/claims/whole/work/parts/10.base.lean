set_option linter.unusedVariables false
/-! ===== the pure side: memory as (shapes, numbers, references) ===== -/
def am_u (I : Nat → Nat → Int32) (k j : Nat) (x : Int32) : Nat → Nat → Int32 := va_up I k (upd (I k) j x)
def am_ua (I : Nat → Nat → Int32) (k : Nat) (f : Nat → Int32) : Nat → Nat → Int32 := va_up I k f
def am_ur (R : Nat → Nat → Option Nat) (k j q : Nat) : Nat → Nat → Option Nat := va_up R k (va_up (R k) j (some q))
theorem am_wI_mk (S : List (Nat × Nat)) (I : Nat → Nat → Int32) (R : Nat → Nat → Option Nat) (k j : Nat) (x : Int32) : am_wI (S, I, R) k j x = (S, am_u I k j x, R) := rfl
theorem am_wA_mk (S : List (Nat × Nat)) (I : Nat → Nat → Int32) (R : Nat → Nat → Option Nat) (k : Nat) (f : Nat → Int32) : am_wA (S, I, R) k f = (S, am_ua I k f, R) := rfl
theorem am_wR_mk (S : List (Nat × Nat)) (I : Nat → Nat → Int32) (R : Nat → Nat → Option Nat) (k j q : Nat) : am_wR (S, I, R) k j q = (S, I, am_ur R k j q) := rfl
theorem iu_s (I : Nat → Nat → Int32) (k j : Nat) (x : Int32) : am_u I k j x k j = x := by simp [am_u, va_up, upd]
theorem iu_k {I : Nat → Nat → Int32} {k j k' : Nat} {x : Int32} (h : k' ≠ k) : am_u I k j x k' = I k' := by simp [am_u, va_up, h]
theorem iu_j {I : Nat → Nat → Int32} {k j j' : Nat} {x : Int32} (h : j' ≠ j) : am_u I k j x k j' = I k j' := by simp [am_u, va_up, upd, h]
theorem ia_s (I : Nat → Nat → Int32) (k : Nat) (f : Nat → Int32) : am_ua I k f k = f := by simp [am_ua, va_up]
theorem ia_k {I : Nat → Nat → Int32} {k k' : Nat} {f : Nat → Int32} (h : k' ≠ k) : am_ua I k f k' = I k' := by simp [am_ua, va_up, h]
theorem arr1 {S : List (Nat × Nat)} {I : Nat → Nat → Int32} {R : Nat → Nat → Option Nat} {a n : Nat} {i : Int32} (h : S[a]? = some (1, n)) : am_arr (S, I, R) a i ↔ vp_in i n := by
  simp [am_arr, h]
theorem arr4 {S : List (Nat × Nat)} {I : Nat → Nat → Int32} {R : Nat → Nat → Option Nat} {a n : Nat} {i : Int32} (h : S[a]? = some (4, n)) : am_arr (S, I, R) a i ↔ vp_in i n := by
  simp [am_arr, h]
theorem arrE {S : List (Nat × Nat)} {a n k : Nat} {P : Nat → Prop} (h : S[a]? = some (k, n)) : (∃ m, S[a]? = some (k, m) ∧ P m) ↔ P n := by
  simp [h]
theorem arrE2 {S : List (Nat × Nat)} {a n k : Nat} {P : Nat → Prop} (h : S[a]? = some (1, n)) : (∃ m, (S[a]? = some (1, m) ∨ S[a]? = some (4, m)) ∧ P m) ↔ P n := by
  simp [h]
theorem vpn {j n : Nat} (h : j < n) (hn : n < 2147483648) : vp_in (nI j) n ↔ True := iff_true_intro (vp_in_nI h hn)
theorem vcl {j : Nat} (h : j < 2147483648) : (nI j).toNatClampNeg = j := nI_clamp h
theorem nlt {a b : Nat} (ha : a < 2147483648) (hb : b < 2147483648) : nI a < nI b ↔ a < b := nI_ltI ha hb
theorem nle {a b : Nat} (ha : a < 2147483648) (hb : b < 2147483648) : nI a ≤ nI b ↔ a ≤ b := nI_leI ha hb
theorem neq {a b : Nat} (ha : a < 2147483648) (hb : b < 2147483648) : nI a = nI b ↔ a = b := nI_eq ha hb
theorem nlt0 {a : Nat} (ha : a < 2147483648) : nI a < 0 ↔ False := ⟨fun h => nI_pos ha h, False.elim⟩
theorem nge0 {a : Nat} (ha : a < 2147483648) : 0 ≤ nI a ↔ True := iff_true_intro (nI_pos' ha)
theorem nle0 {a : Nat} (ha : a < 2147483648) : nI a ≤ 0 ↔ a = 0 := by
  rw [show (0 : Int32) = nI 0 from rfl, nle ha (by decide)]; omega
theorem ngt0 {a : Nat} (ha : a < 2147483648) : 0 < nI a ↔ 0 < a := by
  rw [show (0 : Int32) = nI 0 from rfl, nlt (by decide) ha]
theorem neq0 {a : Nat} (ha : a < 2147483648) : nI a = 0 ↔ a = 0 := by
  rw [show (0 : Int32) = nI 0 from rfl, neq ha (by decide)]
theorem nm1 (n : Nat) : nI (n + 1) - 1 = nI n := nI_pred n
theorem nm1' (n : Nat) : nI (n + 1) + -1 = nI n := pk_m1 n
theorem np1 (n : Nat) : nI n + 1 = nI (n + 1) := nI_1 n
theorem nsub1 (n : Nat) : nI n + -1 = nI n - 1 := by rw [Int32.sub_eq_add_neg]
theorem n0m1 : nI 0 - 1 = -1 := by decide
theorem m1lt : ((-1 : Int32) < 0) ↔ True := by decide
theorem nadd (a b : Nat) : nI a + nI b = nI (a + b) := nI_add a b
theorem nmul (a b : Nat) : nI a * nI b = nI (a * b) := pk_mul a b
theorem nsub {a b : Nat} (h : b ≤ a) : nI a - nI b = nI (a - b) := pk_sub h
/-- truth as a number -/
def bI (b : Bool) : Int32 := if b then 1 else 0
theorem bI_t : bI true = 1 := rfl
theorem bI_f : bI false = 0 := rfl
theorem bI_0 (b : Bool) : bI b = 0 ↔ b = false := by cases b <;> decide
theorem bI_1 (b : Bool) : bI b = 1 ↔ b = true := by cases b <;> decide
theorem bI_01 (b : Bool) : (bI b = 0 ∨ bI b = 1) ↔ True := by cases b <;> decide
theorem lit01 : ((1 : Int32) = 0 ∨ (1 : Int32) = 1) ↔ True := by decide
theorem lit00 : ((0 : Int32) = 0 ∨ (0 : Int32) = 1) ↔ True := by decide
theorem bN {P : Prop} (b : Bool) (f : b = false → P) (t : b = true → P) : P := by
  cases b
  · exact f rfl
  · exact t rfl
/-- an optional number; z where there is none -/
def oI (z : Int32) (o : Option Nat) : Int32 := match o with
  | none => z
  | some x => nI x
theorem oI_s (z : Int32) (x : Nat) : oI z (some x) = nI x := rfl
theorem oI_n (z : Int32) : oI z none = z := rfl
theorem m1n {a : Nat} (ha : a < 2147483648) : nI a = -1 ↔ False := ⟨fun h => by
  have h2 := congrArg Int32.toInt h
  rw [nI_toInt ha] at h2
  have : (-1 : Int32).toInt = -1 := by decide
  omega, False.elim⟩
theorem m4n {a : Nat} (ha : a < 2147483648) : nI a = -4 ↔ False := ⟨fun h => by
  have h2 := congrArg Int32.toInt h
  rw [nI_toInt ha] at h2
  have : (-4 : Int32).toInt = -4 := by decide
  omega, False.elim⟩
/-- any number is below 0, beyond n, or a place below n -/
theorem ix3 (x : Int32) (n : Nat) (hn : n < 2147483648) : x < 0 ∨ nI n ≤ x ∨ ∃ j : Nat, j < n ∧ x = nI j := pk_ix x hn
/-- a log: how many takes, lines, corrections; their parts by kind and place; the settings -/
abbrev Lg : Type := Nat × Nat × Nat × (Nat → Nat → Nat) × (Nat → Nat → Nat) × (Nat → Nat → Nat) × (Nat → Nat)
def gt (a : Lg) : Nat := a.1
def gn (a : Lg) : Nat := a.2.1
def gk (a : Lg) : Nat := a.2.2.1
def gT (a : Lg) : Nat → Nat → Nat := a.2.2.2.1
def gL (a : Lg) : Nat → Nat → Nat := a.2.2.2.2.1
def gF (a : Lg) : Nat → Nat → Nat := a.2.2.2.2.2.1
def gs (a : Lg) : Nat → Nat := a.2.2.2.2.2.2
/-- line x is ahead of line y -/
def gE (a : Lg) (x y : Nat) : Prop := gL a 0 x < gL a 0 y ∨ (gL a 0 x = gL a 0 y ∧ x < y)
/-- the name that person p took last, of the first m takes, by time τ -/
def gN (a : Lg) (p τ : Nat) : Nat → Option Nat
  | 0 => none
  | m + 1 => if gT a 0 m = p ∧ gT a 2 m ≤ τ then some (gT a 1 m) else gN a p τ m
/-- the places of a log that stands at L, and what its fields refer to -/
def LogS (S : List (Nat × Nat)) (R : Nat → Nat → Option Nat) (L : Nat) : Prop := (S[L]? = some (0, 1) ∧ S[L + 1]? = some (1, 20) ∧ S[L + 2]? = some (1, 20) ∧ S[L + 3]? = some (1, 20) ∧ S[L + 4]? = some (1, 30) ∧ S[L + 5]? = some (1, 30) ∧ S[L + 6]? = some (1, 30) ∧ S[L + 7]? = some (1, 30) ∧ S[L + 8]? = some (1, 12) ∧ S[L + 9]? = some (1, 12) ∧ S[L + 10]? = some (1, 12) ∧ S[L + 11]? = some (1, 8)) ∧ (R L 1 = some (L + 1) ∧ R L 2 = some (L + 2) ∧ R L 3 = some (L + 3) ∧ R L 5 = some (L + 4) ∧ R L 6 = some (L + 5) ∧ R L 7 = some (L + 6) ∧ R L 8 = some (L + 7) ∧ R L 10 = some (L + 8) ∧ R L 11 = some (L + 9) ∧ R L 12 = some (L + 10) ∧ R L 13 = some (L + 11))
/-- the numbers of a log that stands at L -/
def LogI (I : Nat → Nat → Int32) (L : Nat) (a : Lg) : Prop := (I L 0 = nI (gt a) ∧ I L 4 = nI (gn a) ∧ I L 9 = nI (gk a)) ∧ (∀ j, j < gt a → I (L + 1) j = nI (gT a 0 j) ∧ I (L + 2) j = nI (gT a 1 j) ∧ I (L + 3) j = nI (gT a 2 j)) ∧ (∀ j, j < gn a → I (L + 4) j = nI (gL a 0 j) ∧ I (L + 5) j = nI (gL a 1 j) ∧ I (L + 6) j = nI (gL a 2 j) ∧ I (L + 7) j = nI (gL a 3 j)) ∧ (∀ j, j < gk a → I (L + 8) j = nI (gF a 0 j) ∧ I (L + 9) j = nI (gF a 1 j) ∧ I (L + 10) j = if gF a 0 j = 0 then -1 else nI (gF a 2 j)) ∧ ∀ j, j < 8 → I (L + 11) j = nI (gs a j)
/-- the numbers of a log in a row -/
def RowI (r : Nat → Int32) (a : Lg) : Prop := (r 8 = nI (gt a) ∧ r 9 = nI (gn a) ∧ r 10 = nI (gk a)) ∧ (∀ j, j < gt a → r (11 + 3 * j) = nI (gT a 0 j) ∧ r (12 + 3 * j) = nI (gT a 1 j) ∧ r (13 + 3 * j) = nI (gT a 2 j)) ∧ (∀ j, j < gn a → r (71 + 4 * j) = nI (gL a 0 j) ∧ r (72 + 4 * j) = nI (gL a 1 j) ∧ r (73 + 4 * j) = nI (gL a 2 j) ∧ r (74 + 4 * j) = nI (gL a 3 j)) ∧ (∀ j, j < gk a → r (191 + 3 * j) = nI (gF a 0 j) ∧ r (192 + 3 * j) = nI (gF a 1 j) ∧ r (193 + 3 * j) = if gF a 0 j = 0 then -4 else nI (gF a 2 j)) ∧ ∀ j, j < 8 → r j = nI (gs a j)
/-- bounds of a log's numbers -/
def LgB (a : Lg) : Prop := (gt a ≤ 20 ∧ gn a ≤ 30 ∧ gk a ≤ 12) ∧ (∀ j, j < gt a → gT a 0 j < 12 ∧ gT a 1 j < 16 ∧ gT a 2 j ≤ 100000) ∧ (∀ j, j < gn a → gL a 0 j ≤ 100000 ∧ gL a 1 j < 12 ∧ gL a 2 j ≤ 65535 ∧ gL a 3 j ≤ 65535) ∧ (∀ j, j < gk a → gF a 0 j ≤ 2 ∧ gF a 1 j < gn a ∧ (gF a 0 j ≠ 0 → gF a 2 j < gn a ∧ gE a (gF a 2 j) (gF a 1 j))) ∧ (gs a 0 ≤ 100000 ∧ gs a 1 ≤ 200 ∧ gs a 2 ≤ 100 ∧ gs a 3 ≤ 100 ∧ gs a 4 ≤ 50 ∧ gs a 5 ≤ 100 ∧ 1 ≤ gs a 6 ∧ gs a 6 ≤ 1000 ∧ gs a 7 ≤ 100)
