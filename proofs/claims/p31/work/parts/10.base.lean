/-! ===== the pure side: memory as (shapes, numbers, references) ===== -/
def am_u (I : Nat → Nat → Int32) (k j : Nat) (x : Int32) : Nat → Nat → Int32 := va_up I k (upd (I k) j x)
def am_ua (I : Nat → Nat → Int32) (k : Nat) (f : Nat → Int32) : Nat → Nat → Int32 := va_up I k f
def am_ur (R : Nat → Nat → Option Nat) (k j q : Nat) : Nat → Nat → Option Nat := va_up R k (va_up (R k) j (some q))
theorem am_wI_mk (S : List (Nat × Nat)) (I : Nat → Nat → Int32) (R : Nat → Nat → Option Nat) (k j : Nat) (x : Int32) : am_wI (S, I, R) k j x = (S, am_u I k j x, R) := rfl
theorem am_wA_mk (S : List (Nat × Nat)) (I : Nat → Nat → Int32) (R : Nat → Nat → Option Nat) (k : Nat) (f : Nat → Int32) : am_wA (S, I, R) k f = (S, am_ua I k f, R) := rfl
theorem am_wR_mk (S : List (Nat × Nat)) (I : Nat → Nat → Int32) (R : Nat → Nat → Option Nat) (k j q : Nat) : am_wR (S, I, R) k j q = (S, I, am_ur R k j q) := rfl
theorem iu_s (I : Nat → Nat → Int32) (k j : Nat) (x : Int32) : am_u I k j x k j = x := by simp [am_u, va_up, upd]
theorem iu_k {I : Nat → Nat → Int32} {k j k' : Nat} {x : Int32} (h : k' ≠ k) : am_u I k j x k' = I k' := by simp [am_u, va_up, h]
theorem iu_j {I : Nat → Nat → Int32} {k j j' : Nat} {x : Int32} (h : j' ≠ j) : am_u I k j x k j' = I k j' := by simp [am_u, va_up, upd, h]
theorem ia_s (I : Nat → Nat → Int32) (k : Nat) (f : Nat → Int32) : am_ua I k f k = f := by simp [am_ua, va_up]
theorem ia_k {I : Nat → Nat → Int32} {k k' : Nat} {f : Nat → Int32} (h : k' ≠ k) : am_ua I k f k' = I k' := by simp [am_ua, va_up, h]
theorem iu_k1 {I : Nat → Nat → Int32} {k j k' j' : Nat} {x : Int32} (h : k' ≠ k) : am_u I k j x k' j' = I k' j' := by rw [iu_k h]
theorem iu_j1 {I : Nat → Nat → Int32} {k j j' : Nat} {x : Int32} (h : j' ≠ j) : am_u I k j x k j' = I k j' := iu_j h
theorem iu_i (I : Nat → Nat → Int32) (k j j' : Nat) (x : Int32) : am_u I k j x k j' = if j' = j then x else I k j' := by simp [am_u, va_up, upd]
theorem ia_s1 (I : Nat → Nat → Int32) (k j : Nat) (f : Nat → Int32) : am_ua I k f k j = f j := by rw [ia_s]
theorem ia_k1 {I : Nat → Nat → Int32} {k k' j : Nat} {f : Nat → Int32} (h : k' ≠ k) : am_ua I k f k' j = I k' j := by rw [ia_k h]
theorem lt2 : (2 : Int32) = nI 2 := rfl
theorem lt3 : (3 : Int32) = nI 3 := rfl
theorem lt4 : (4 : Int32) = nI 4 := rfl
theorem lt5 : (5 : Int32) = nI 5 := rfl
theorem lt6 : (6 : Int32) = nI 6 := rfl
theorem lt7 : (7 : Int32) = nI 7 := rfl
theorem lt8 : (8 : Int32) = nI 8 := rfl
theorem lt9 : (9 : Int32) = nI 9 := rfl
theorem lt10 : (10 : Int32) = nI 10 := rfl
theorem lt11 : (11 : Int32) = nI 11 := rfl
theorem lt12 : (12 : Int32) = nI 12 := rfl
theorem lt13 : (13 : Int32) = nI 13 := rfl
theorem lt15 : (15 : Int32) = nI 15 := rfl
theorem lt16 : (16 : Int32) = nI 16 := rfl
theorem lt17 : (17 : Int32) = nI 17 := rfl
theorem lt20 : (20 : Int32) = nI 20 := rfl
theorem lt26 : (26 : Int32) = nI 26 := rfl
theorem lt30 : (30 : Int32) = nI 30 := rfl
theorem lt32 : (32 : Int32) = nI 32 := rfl
theorem lt36 : (36 : Int32) = nI 36 := rfl
theorem lt50 : (50 : Int32) = nI 50 := rfl
theorem lt60 : (60 : Int32) = nI 60 := rfl
theorem lt64 : (64 : Int32) = nI 64 := rfl
theorem lt100 : (100 : Int32) = nI 100 := rfl
theorem lt300 : (300 : Int32) = nI 300 := rfl
theorem lt400 : (400 : Int32) = nI 400 := rfl
theorem lt500 : (500 : Int32) = nI 500 := rfl
theorem lt1000 : (1000 : Int32) = nI 1000 := rfl
theorem lt65536 : (65536 : Int32) = nI 65536 := rfl
theorem lt100001 : (100001 : Int32) = nI 100001 := rfl
theorem lt10000000 : (10000000 : Int32) = nI 10000000 := rfl
theorem lt48 : (48 : Int32) = nI 48 := rfl
theorem lt57 : (57 : Int32) = nI 57 := rfl
theorem lt71 : (71 : Int32) = nI 71 := rfl
theorem lt80 : (80 : Int32) = nI 80 := rfl
theorem lt97 : (97 : Int32) = nI 97 := rfl
theorem lt98 : (98 : Int32) = nI 98 := rfl
theorem lt108 : (108 : Int32) = nI 108 := rfl
theorem lt110 : (110 : Int32) = nI 110 := rfl
theorem lt126 : (126 : Int32) = nI 126 := rfl
theorem lt191 : (191 : Int32) = nI 191 := rfl
theorem lt200 : (200 : Int32) = nI 200 := rfl
theorem lt227 : (227 : Int32) = nI 227 := rfl
theorem lt681 : (681 : Int32) = nI 681 := rfl
theorem lt832 : (832 : Int32) = nI 832 := rfl
theorem lt7919 : (7919 : Int32) = nI 7919 := rfl
theorem lt1000000 : (1000000 : Int32) = nI 1000000 := rfl
theorem lt18 : (18 : Int32) = nI 18 := rfl
theorem lt45 : (45 : Int32) = nI 45 := rfl
theorem lt65535 : (65535 : Int32) = nI 65535 := rfl
theorem lt100000 : (100000 : Int32) = nI 100000 := rfl
theorem arr1 {S : List (Nat × Nat)} {I : Nat → Nat → Int32} {R : Nat → Nat → Option Nat} {a n : Nat} {i : Int32} (h : S[a]? = some (1, n)) : am_arr (S, I, R) a i ↔ vp_in i n := by
  simp [am_arr, h]
theorem arr4 {S : List (Nat × Nat)} {I : Nat → Nat → Int32} {R : Nat → Nat → Option Nat} {a n : Nat} {i : Int32} (h : S[a]? = some (4, n)) : am_arr (S, I, R) a i ↔ vp_in i n := by
  simp [am_arr, h]
theorem arrE {S : List (Nat × Nat)} {a n k : Nat} {P : Nat → Prop} (h : S[a]? = some (k, n)) : (∃ m, S[a]? = some (k, m) ∧ P m) ↔ P n := by
  simp [h]
theorem arrE2 {S : List (Nat × Nat)} {a n k : Nat} {P : Nat → Prop} (h : S[a]? = some (1, n)) : (∃ m, (S[a]? = some (1, m) ∨ S[a]? = some (4, m)) ∧ P m) ↔ P n := by
  simp [h]
theorem vpn {j n : Nat} (h : j < n) (hn : n < 2147483648) : vp_in (nI j) n ↔ True := iff_true_intro (vp_in_nI h hn)
theorem vcl {j : Nat} (h : j < 2147483648) : (nI j).toNatClampNeg = j := nI_clamp h
theorem vpn0 {n : Nat} (h : 0 < n) (hn : n < 2147483648) : vp_in 0 n ↔ True := vpn h hn
theorem vcl0 : (0 : Int32).toNatClampNeg = 0 := by decide
theorem vpn1 {n : Nat} (h : 1 < n) (hn : n < 2147483648) : vp_in 1 n ↔ True := vpn h hn
theorem vcl1 : (1 : Int32).toNatClampNeg = 1 := by decide
theorem nlt {a b : Nat} (ha : a < 2147483648) (hb : b < 2147483648) : nI a < nI b ↔ a < b := nI_ltI ha hb
theorem nle {a b : Nat} (ha : a < 2147483648) (hb : b < 2147483648) : nI a ≤ nI b ↔ a ≤ b := nI_leI ha hb
theorem neq {a b : Nat} (ha : a < 2147483648) (hb : b < 2147483648) : nI a = nI b ↔ a = b := nI_eq ha hb
theorem nlt0 {a : Nat} (ha : a < 2147483648) : nI a < 0 ↔ False := ⟨fun h => nI_pos ha h, False.elim⟩
theorem nge0 {a : Nat} (ha : a < 2147483648) : 0 ≤ nI a ↔ True := iff_true_intro (nI_pos' ha)
theorem nle0 {a : Nat} (ha : a < 2147483648) : nI a ≤ 0 ↔ a = 0 := by
  rw [show (0 : Int32) = nI 0 from rfl, nle ha (by decide)]; omega
theorem ngt0 {a : Nat} (ha : a < 2147483648) : 0 < nI a ↔ 0 < a := by
  rw [show (0 : Int32) = nI 0 from rfl, nlt (by decide) ha]
theorem neq0 {a : Nat} (ha : a < 2147483648) : nI a = 0 ↔ a = 0 := by
  rw [show (0 : Int32) = nI 0 from rfl, neq ha (by decide)]
theorem nm1 (n : Nat) : nI (n + 1) - 1 = nI n := nI_pred n
theorem nm1' (n : Nat) : nI (n + 1) + -1 = nI n := pk_m1 n
theorem np1 (n : Nat) : nI n + 1 = nI (n + 1) := nI_1 n
theorem npd {n : Nat} (h : 1 ≤ n) : nI n - 1 = nI (n - 1) := by
  obtain ⟨k, rfl⟩ : ∃ k, n = k + 1 := ⟨n - 1, by omega⟩
  exact nm1 k
theorem nsub1 (n : Nat) : nI n + -1 = nI n - 1 := by rw [Int32.sub_eq_add_neg]
theorem n0m1 : nI 0 - 1 = -1 := by decide
theorem m1lt : ((-1 : Int32) < 0) ↔ True := by decide
theorem nadd (a b : Nat) : nI a + nI b = nI (a + b) := nI_add a b
theorem nmul (a b : Nat) : nI a * nI b = nI (a * b) := pk_mul a b
theorem nsub {a b : Nat} (h : b ≤ a) : nI a - nI b = nI (a - b) := pk_sub h
/-- truth as a number -/
def bI (b : Bool) : Int32 := if b then 1 else 0
theorem bI_t : bI true = 1 := rfl
theorem bI_f : bI false = 0 := rfl
theorem bI_0 (b : Bool) : bI b = 0 ↔ b = false := by cases b <;> decide
theorem bI_1 (b : Bool) : bI b = 1 ↔ b = true := by cases b <;> decide
theorem bI_01 (b : Bool) : (bI b = 0 ∨ bI b = 1) ↔ True := by cases b <;> decide
theorem lit01 : ((1 : Int32) = 0 ∨ (1 : Int32) = 1) ↔ True := by decide
theorem lit00 : ((0 : Int32) = 0 ∨ (0 : Int32) = 1) ↔ True := by decide
theorem bN {P : Prop} (b : Bool) (f : b = false → P) (t : b = true → P) : P := by
  cases b
  · exact f rfl
  · exact t rfl
/-- an optional number; z where there is none -/
def oI (z : Int32) (o : Option Nat) : Int32 := match o with
  | none => z
  | some x => nI x
theorem oI_s (z : Int32) (x : Nat) : oI z (some x) = nI x := rfl
theorem oI_n (z : Int32) : oI z none = z := rfl
theorem m1n {a : Nat} (ha : a < 2147483648) : nI a = -1 ↔ False := ⟨fun h => by
  have h2 := congrArg Int32.toInt h
  rw [nI_toInt ha] at h2
  have : (-1 : Int32).toInt = -1 := by decide
  omega, False.elim⟩
theorem m4n {a : Nat} (ha : a < 2147483648) : nI a = -4 ↔ False := ⟨fun h => by
  have h2 := congrArg Int32.toInt h
  rw [nI_toInt ha] at h2
  have : (-4 : Int32).toInt = -4 := by decide
  omega, False.elim⟩
/-- any number is below 0, beyond n, or a place below n -/
theorem ix3 (x : Int32) (n : Nat) (hn : n < 2147483648) : x < 0 ∨ nI n ≤ x ∨ ∃ j : Nat, j < n ∧ x = nI j := pk_ix x hn
/-- a log: how many takes, lines, corrections; their parts by kind and place; the settings -/
abbrev Lg : Type := Nat × Nat × Nat × (Nat → Nat → Nat) × (Nat → Nat → Nat) × (Nat → Nat → Nat) × (Nat → Nat)
def gt (a : Lg) : Nat := a.1
def gn (a : Lg) : Nat := a.2.1
def gk (a : Lg) : Nat := a.2.2.1
def gT (a : Lg) : Nat → Nat → Nat := a.2.2.2.1
def gL (a : Lg) : Nat → Nat → Nat := a.2.2.2.2.1
def gF (a : Lg) : Nat → Nat → Nat := a.2.2.2.2.2.1
def gs (a : Lg) : Nat → Nat := a.2.2.2.2.2.2
/-- line x is ahead of line y -/
abbrev gE (a : Lg) (x y : Nat) : Prop := gL a 0 x < gL a 0 y ∨ (gL a 0 x = gL a 0 y ∧ x < y)
/-- the name that person p took last, of the first m takes, by time τ -/
def gN (a : Lg) (p τ : Nat) : Nat → Option Nat
  | 0 => none
  | m + 1 => if gT a 0 m = p ∧ gT a 2 m ≤ τ then some (gT a 1 m) else gN a p τ m
/-- the places of a log that stands at L, and what its fields refer to -/
def LogS (S : List (Nat × Nat)) (R : Nat → Nat → Option Nat) (L : Nat) : Prop := (S[L]? = some (0, 1) ∧ S[L + 1]? = some (1, 20) ∧ S[L + 2]? = some (1, 20) ∧ S[L + 3]? = some (1, 20) ∧ S[L + 4]? = some (1, 30) ∧ S[L + 5]? = some (1, 30) ∧ S[L + 6]? = some (1, 30) ∧ S[L + 7]? = some (1, 30) ∧ S[L + 8]? = some (1, 12) ∧ S[L + 9]? = some (1, 12) ∧ S[L + 10]? = some (1, 12) ∧ S[L + 11]? = some (1, 8)) ∧ (R L 1 = some (L + 1) ∧ R L 2 = some (L + 2) ∧ R L 3 = some (L + 3) ∧ R L 5 = some (L + 4) ∧ R L 6 = some (L + 5) ∧ R L 7 = some (L + 6) ∧ R L 8 = some (L + 7) ∧ R L 10 = some (L + 8) ∧ R L 11 = some (L + 9) ∧ R L 12 = some (L + 10) ∧ R L 13 = some (L + 11))
/-- the numbers of a log that stands at L -/
def LogI (I : Nat → Nat → Int32) (L : Nat) (a : Lg) : Prop := (I L 0 = nI (gt a) ∧ I L 4 = nI (gn a) ∧ I L 9 = nI (gk a)) ∧ (∀ j, j < gt a → I (L + 1) j = nI (gT a 0 j) ∧ I (L + 2) j = nI (gT a 1 j) ∧ I (L + 3) j = nI (gT a 2 j)) ∧ (∀ j, j < gn a → I (L + 4) j = nI (gL a 0 j) ∧ I (L + 5) j = nI (gL a 1 j) ∧ I (L + 6) j = nI (gL a 2 j) ∧ I (L + 7) j = nI (gL a 3 j)) ∧ (∀ j, j < gk a → I (L + 8) j = nI (gF a 0 j) ∧ I (L + 9) j = nI (gF a 1 j) ∧ I (L + 10) j = if gF a 0 j = 0 then -1 else nI (gF a 2 j)) ∧ ∀ j, j < 8 → I (L + 11) j = nI (gs a j)
/-- the numbers of a log in a row -/
def RowI (r : Nat → Int32) (a : Lg) : Prop := (r 8 = nI (gt a) ∧ r 9 = nI (gn a) ∧ r 10 = nI (gk a)) ∧ (∀ j, j < gt a → r (11 + 3 * j) = nI (gT a 0 j) ∧ r (12 + 3 * j) = nI (gT a 1 j) ∧ r (13 + 3 * j) = nI (gT a 2 j)) ∧ (∀ j, j < gn a → r (71 + 4 * j) = nI (gL a 0 j) ∧ r (72 + 4 * j) = nI (gL a 1 j) ∧ r (73 + 4 * j) = nI (gL a 2 j) ∧ r (74 + 4 * j) = nI (gL a 3 j)) ∧ (∀ j, j < gk a → r (191 + 3 * j) = nI (gF a 0 j) ∧ r (192 + 3 * j) = nI (gF a 1 j) ∧ r (193 + 3 * j) = if gF a 0 j = 0 then -4 else nI (gF a 2 j)) ∧ ∀ j, j < 8 → r j = nI (gs a j)
/-- bounds of a log's numbers -/
def LgB (a : Lg) : Prop := (gt a ≤ 20 ∧ gn a ≤ 30 ∧ gk a ≤ 12) ∧ (∀ j, j < gt a → gT a 0 j < 12 ∧ gT a 1 j < 16 ∧ gT a 2 j ≤ 100000) ∧ (∀ j, j < gn a → gL a 0 j ≤ 100000 ∧ gL a 1 j < 12 ∧ gL a 2 j ≤ 65535 ∧ gL a 3 j ≤ 65535) ∧ (∀ j, j < gk a → gF a 0 j ≤ 2 ∧ gF a 1 j < gn a ∧ (gF a 0 j ≠ 0 → gF a 2 j < gn a ∧ gE a (gF a 2 j) (gF a 1 j))) ∧ (gs a 0 ≤ 100000 ∧ gs a 1 ≤ 200 ∧ gs a 2 ≤ 100 ∧ gs a 3 ≤ 100 ∧ gs a 4 ≤ 50 ∧ gs a 5 ≤ 100 ∧ 1 ≤ gs a 6 ∧ gs a 6 ≤ 1000 ∧ gs a 7 ≤ 100)
/-- the first place from i on, of d places, where f holds -/
def ff (f : Nat → Bool) : Nat → Nat → Option Nat
  | _, 0 => none
  | i, d + 1 => if f i then some i else ff f (i + 1) d
/-- how many places below n hold f -/
def cnt (f : Nat → Bool) : Nat → Nat
  | 0 => 0
  | n + 1 => cnt f n + if f n then 1 else 0
theorem cnt_le (f : Nat → Bool) (n : Nat) : cnt f n ≤ n := by
  induction n with
  | zero => exact Nat.le_refl _
  | succ n ih => unfold cnt; split <;> omega
theorem cnt_congr {f g : Nat → Bool} {n : Nat} (h : ∀ i, i < n → f i = g i) : cnt f n = cnt g n := by
  induction n with
  | zero => rfl
  | succ n ih => unfold cnt; rw [ih (fun i hi => h i (by omega)), h n (by omega)]
/-- a set as a number -/
def bts (f : Nat → Bool) : Nat → Nat
  | 0 => 0
  | n + 1 => bts f n ||| if f n then 2 ^ n else 0
theorem bts_t (f : Nat → Bool) (n i : Nat) : (bts f n).testBit i = (decide (i < n) && f i) := by
  induction n with
  | zero => simp [bts]
  | succ n ih =>
    unfold bts
    rw [Nat.testBit_or, ih]
    by_cases hf : f n = true
    · rw [if_pos hf, Nat.testBit_two_pow]
      by_cases hi : n = i
      · subst hi; simp [hf]
      · have h2 : (decide (i < n + 1)) = decide (i < n) := by
          rw [decide_eq_decide]; omega
        rw [h2]; simp [hi]
    · rw [if_neg hf, Nat.zero_testBit, Bool.or_false]
      by_cases hi : n = i
      · subst hi; simp [hf]
      · have h2 : (decide (i < n + 1)) = decide (i < n) := by
          rw [decide_eq_decide]; omega
        rw [h2]
theorem bts_lt (f : Nat → Bool) (n : Nat) : bts f n < 2 ^ n := by
  induction n with
  | zero => simp [bts]
  | succ n ih =>
    unfold bts
    refine Nat.or_lt_two_pow (by rw [Nat.pow_succ]; omega) ?_
    split
    · rw [Nat.pow_succ]; have := Nat.two_pow_pos n; omega
    · exact Nat.two_pow_pos _
/-- sets below 2 ^ n with the same members are the same -/
theorem bts_eq {x n : Nat} {f : Nat → Bool} (hx : x < 2 ^ n) (h : ∀ i, i < n → x.testBit i = f i) : x = bts f n := by
  apply Nat.eq_of_testBit_eq
  intro i
  rw [bts_t]
  by_cases hi : i < n
  · simp [hi, h i hi]
  · simp only [hi, decide_false, Bool.false_and]
    exact Nat.testBit_lt_two_pow (Nat.lt_of_lt_of_le hx (Nat.pow_le_pow_right (by decide) (by omega)))
theorem nb_tn {n : Nat} (h : n < 2147483648) : (nI n).toBitVec.toNat = n := pk_tn (by omega)
theorem nb_shr {x j : Nat} (hx : x < 2147483648) (hj : j < 32) : nI x >>> (nI j &&& 31) = nI (x >>> j) := by
  have h1 : nI j &&& 31 = nI (j % 2 ^ 5) := pk_andN (by omega) 5 (by decide)
  have h2 : j % 2 ^ 5 = j := Nat.mod_eq_of_lt (by omega)
  rw [h1, h2, pk_shrN (k := j) (by omega) (nI j) ?_, Nat.shiftRight_eq_div_pow]
  have : ∀ j : Fin 32, ((nI j.val).toBitVec.smod 32).toNat = j.val := by decide +kernel
  exact this ⟨j, hj⟩
theorem nb_bv (n : Nat) : (nI n).toBitVec = BitVec.ofNat 32 n := rfl
theorem nb_and (a b : Nat) : nI a &&& nI b = nI (a &&& b) := by
  apply Int32.toBitVec_inj.mp
  rw [Int32.toBitVec_and, nb_bv, nb_bv, nb_bv]
  apply BitVec.eq_of_toNat_eq
  simp only [BitVec.toNat_and, BitVec.toNat_ofNat]
  exact (Nat.and_mod_two_pow).symm
theorem nb_or (a b : Nat) : nI a ||| nI b = nI (a ||| b) := by
  apply Int32.toBitVec_inj.mp
  rw [Int32.toBitVec_or, nb_bv, nb_bv, nb_bv]
  apply BitVec.eq_of_toNat_eq
  simp only [BitVec.toNat_or, BitVec.toNat_ofNat]
  exact (Nat.or_mod_two_pow).symm
theorem nb_1shl {j : Nat} (hj : j < 31) : (1 : Int32) <<< (nI j &&& 31) = nI (2 ^ j) := by
  have : ∀ j : Fin 31, (1 : Int32) <<< (nI j.val &&& 31) = nI (2 ^ j.val) := by decide +kernel
  exact this ⟨j, hj⟩
theorem nb_bit {x j : Nat} (hx : x < 2147483648) (hj : j < 32) : ((nI x >>> (nI j &&& 31)) &&& 1) = bI (x.testBit j) := by
  rw [nb_shr hx hj, show (1 : Int32) = nI 1 from rfl, nb_and, Nat.and_one_is_mod, Nat.shiftRight_eq_div_pow]
  rw [Nat.testBit_eq_decide_div_mod_eq]
  rcases Nat.mod_two_eq_zero_or_one (x / 2 ^ j) with h | h
  · rw [h]; rfl
  · rw [h]; rfl
theorem f_isIn {M : am_M} {x j : Nat} {post : am_R} (hx : x < 2147483648) (hj : j < 32) (hp : post (some (.inl (bI (x.testBit j)))) M) : sp_X4_isIn [.inl (nI x), .inl (nI j)] M post := by
  refine ⟨Nat.le_of_ble_eq_true rfl, am_fold ?_⟩
  rw [h_X4_isIn_0]
  simp only [↓ap_cc, ↓ap_const, ↓ap_iload, ↓ap_aload, ↓ap_istore, ↓ap_astore, ↓ap_iinc, ↓ap_bin, ↓ap_idiv, ↓ap_irem, ↓ap_callSA, ↓ap_iretA, ↓ap_zretA, ↓ap_i2c, ↓ap_dup, ↓ap_dup2, ↓ap_nn, ↓ap_ic, ↓ap_if, ↓ap_sw, ↓ap_head, ↓ap_getI, ↓ap_getR, ↓ap_putI, ↓ap_putN, ↓ap_putR, ↓ap_iald, ↓ap_cald, ↓ap_iast, ↓ap_cast, ↓ap_aald, ↓ap_aast, ↓ap_alen, ↓ap_stat, ↓ap_pop, ↓ap_mm, ↓ap_copy, ↓ap_ret, ↓ap_iret, ↓ap_zret, ↓ap_aret, ↓ap_retA, ↓ap_new, ↓ap_newa, ↓ap_callV, ↓ap_callS, ↓ap_callI, am_in, List.map_cons, List.map_nil, List.getElem?_cons_zero, List.getElem?_cons_succ, List.set_cons_zero, List.set_cons_succ, List.take_succ_cons, List.take_zero, List.drop_succ_cons, List.drop_zero, List.reverse_cons, List.reverse_nil, List.nil_append, List.cons_append, List.append_nil, List.length_cons, List.length_nil, List.replicate_succ, List.replicate_zero, Option.toList_some, Option.toList_none, true_and, and_true, Option.some.injEq, exists_eq_left', am_wI_mk, am_wA_mk, am_wR_mk, Nat.reduceAdd, Nat.reduceSub, Nat.reduceLeDiff, Nat.zero_add, Nat.le_refl, not_true_eq_false, not_false_eq_true, forall_const, false_implies, true_implies, implies_true, and_self, Prod.mk.injEq, eq_self, true_or, or_true, false_and, and_false, or_false, false_or, Nat.reduceEqDiff, ↓a_X4_isIn_14, ↓a_X4_isIn_13, ↓a_X4_isIn_0, nb_bit hx hj]
  cases hb : x.testBit j with
  | false => rw [hb] at hp; simp [bI]; exact hp
  | true => rw [hb] at hp; simp [bI]; exact hp
theorem f_isPerson {M : am_M} {x : Int32} {post : am_R} (hp : post (some (.inl (bI (decide (0 ≤ x ∧ x < 12))))) M) : sp_X4_isPerson [.inl x] M post := by
  refine ⟨Nat.le_of_ble_eq_true rfl, am_fold ?_⟩
  rw [h_X4_isPerson_0]
  simp only [↓ap_cc, ↓ap_const, ↓ap_iload, ↓ap_aload, ↓ap_istore, ↓ap_astore, ↓ap_iinc, ↓ap_bin, ↓ap_idiv, ↓ap_irem, ↓ap_callSA, ↓ap_iretA, ↓ap_zretA, ↓ap_i2c, ↓ap_dup, ↓ap_dup2, ↓ap_nn, ↓ap_ic, ↓ap_if, ↓ap_sw, ↓ap_head, ↓ap_getI, ↓ap_getR, ↓ap_putI, ↓ap_putN, ↓ap_putR, ↓ap_iald, ↓ap_cald, ↓ap_iast, ↓ap_cast, ↓ap_aald, ↓ap_aast, ↓ap_alen, ↓ap_stat, ↓ap_pop, ↓ap_mm, ↓ap_copy, ↓ap_ret, ↓ap_iret, ↓ap_zret, ↓ap_aret, ↓ap_retA, ↓ap_new, ↓ap_newa, ↓ap_callV, ↓ap_callS, ↓ap_callI, am_in, List.map_cons, List.map_nil, List.getElem?_cons_zero, List.getElem?_cons_succ, List.set_cons_zero, List.set_cons_succ, List.take_succ_cons, List.take_zero, List.drop_succ_cons, List.drop_zero, List.reverse_cons, List.reverse_nil, List.nil_append, List.cons_append, List.append_nil, List.length_cons, List.length_nil, List.replicate_succ, List.replicate_zero, Option.toList_some, Option.toList_none, true_and, and_true, Option.some.injEq, exists_eq_left', am_wI_mk, am_wA_mk, am_wR_mk, Nat.reduceAdd, Nat.reduceSub, Nat.reduceLeDiff, Nat.zero_add, Nat.le_refl, not_true_eq_false, not_false_eq_true, forall_const, false_implies, true_implies, implies_true, and_self, Prod.mk.injEq, eq_self, true_or, or_true, false_and, and_false, or_false, false_or, Nat.reduceEqDiff, ↓a_X4_isPerson_15, ↓a_X4_isPerson_14, ↓a_X4_isPerson_0]
  refine ⟨fun h => ?_, fun h => ⟨fun h2 => ?_, fun h2 => ?_⟩⟩
  · rw [decide_eq_false (fun q => absurd q.1 (Int32.not_le.mpr h))] at hp; exact hp
  · rw [decide_eq_false (fun q => absurd q.2 (Int32.not_lt.mpr h2))] at hp; exact hp
  · rw [decide_eq_true ⟨Int32.not_lt.mp h, Int32.not_le.mp h2⟩] at hp; exact hp
theorem f_isName {M : am_M} {x : Int32} {post : am_R} (hp : post (some (.inl (bI (decide (0 ≤ x ∧ x < 16))))) M) : sp_X4_isName [.inl x] M post := by
  refine ⟨Nat.le_of_ble_eq_true rfl, am_fold ?_⟩
  rw [h_X4_isName_0]
  simp only [↓ap_cc, ↓ap_const, ↓ap_iload, ↓ap_aload, ↓ap_istore, ↓ap_astore, ↓ap_iinc, ↓ap_bin, ↓ap_idiv, ↓ap_irem, ↓ap_callSA, ↓ap_iretA, ↓ap_zretA, ↓ap_i2c, ↓ap_dup, ↓ap_dup2, ↓ap_nn, ↓ap_ic, ↓ap_if, ↓ap_sw, ↓ap_head, ↓ap_getI, ↓ap_getR, ↓ap_putI, ↓ap_putN, ↓ap_putR, ↓ap_iald, ↓ap_cald, ↓ap_iast, ↓ap_cast, ↓ap_aald, ↓ap_aast, ↓ap_alen, ↓ap_stat, ↓ap_pop, ↓ap_mm, ↓ap_copy, ↓ap_ret, ↓ap_iret, ↓ap_zret, ↓ap_aret, ↓ap_retA, ↓ap_new, ↓ap_newa, ↓ap_callV, ↓ap_callS, ↓ap_callI, am_in, List.map_cons, List.map_nil, List.getElem?_cons_zero, List.getElem?_cons_succ, List.set_cons_zero, List.set_cons_succ, List.take_succ_cons, List.take_zero, List.drop_succ_cons, List.drop_zero, List.reverse_cons, List.reverse_nil, List.nil_append, List.cons_append, List.append_nil, List.length_cons, List.length_nil, List.replicate_succ, List.replicate_zero, Option.toList_some, Option.toList_none, true_and, and_true, Option.some.injEq, exists_eq_left', am_wI_mk, am_wA_mk, am_wR_mk, Nat.reduceAdd, Nat.reduceSub, Nat.reduceLeDiff, Nat.zero_add, Nat.le_refl, not_true_eq_false, not_false_eq_true, forall_const, false_implies, true_implies, implies_true, and_self, Prod.mk.injEq, eq_self, true_or, or_true, false_and, and_false, or_false, false_or, Nat.reduceEqDiff, ↓a_X4_isName_15, ↓a_X4_isName_14, ↓a_X4_isName_0]
  refine ⟨fun h => ?_, fun h => ⟨fun h2 => ?_, fun h2 => ?_⟩⟩
  · rw [decide_eq_false (fun q => absurd q.1 (Int32.not_le.mpr h))] at hp; exact hp
  · rw [decide_eq_false (fun q => absurd q.2 (Int32.not_lt.mpr h2))] at hp; exact hp
  · rw [decide_eq_true ⟨Int32.not_lt.mp h, Int32.not_le.mp h2⟩] at hp; exact hp
theorem f_isTime {M : am_M} {x : Int32} {post : am_R} (hp : post (some (.inl (bI (decide (0 ≤ x ∧ x ≤ 100000))))) M) : sp_X4_isTime [.inl x] M post := by
  refine ⟨Nat.le_of_ble_eq_true rfl, am_fold ?_⟩
  rw [h_X4_isTime_0]
  simp only [↓ap_cc, ↓ap_const, ↓ap_iload, ↓ap_aload, ↓ap_istore, ↓ap_astore, ↓ap_iinc, ↓ap_bin, ↓ap_idiv, ↓ap_irem, ↓ap_callSA, ↓ap_iretA, ↓ap_zretA, ↓ap_i2c, ↓ap_dup, ↓ap_dup2, ↓ap_nn, ↓ap_ic, ↓ap_if, ↓ap_sw, ↓ap_head, ↓ap_getI, ↓ap_getR, ↓ap_putI, ↓ap_putN, ↓ap_putR, ↓ap_iald, ↓ap_cald, ↓ap_iast, ↓ap_cast, ↓ap_aald, ↓ap_aast, ↓ap_alen, ↓ap_stat, ↓ap_pop, ↓ap_mm, ↓ap_copy, ↓ap_ret, ↓ap_iret, ↓ap_zret, ↓ap_aret, ↓ap_retA, ↓ap_new, ↓ap_newa, ↓ap_callV, ↓ap_callS, ↓ap_callI, am_in, List.map_cons, List.map_nil, List.getElem?_cons_zero, List.getElem?_cons_succ, List.set_cons_zero, List.set_cons_succ, List.take_succ_cons, List.take_zero, List.drop_succ_cons, List.drop_zero, List.reverse_cons, List.reverse_nil, List.nil_append, List.cons_append, List.append_nil, List.length_cons, List.length_nil, List.replicate_succ, List.replicate_zero, Option.toList_some, Option.toList_none, true_and, and_true, Option.some.injEq, exists_eq_left', am_wI_mk, am_wA_mk, am_wR_mk, Nat.reduceAdd, Nat.reduceSub, Nat.reduceLeDiff, Nat.zero_add, Nat.le_refl, not_true_eq_false, not_false_eq_true, forall_const, false_implies, true_implies, implies_true, and_self, Prod.mk.injEq, eq_self, true_or, or_true, false_and, and_false, or_false, false_or, Nat.reduceEqDiff, ↓a_X4_isTime_15, ↓a_X4_isTime_14, ↓a_X4_isTime_0]
  refine ⟨fun h => ?_, fun h => ⟨fun h2 => ?_, fun h2 => ?_⟩⟩
  · rw [decide_eq_false (fun q => absurd q.1 (Int32.not_le.mpr h))] at hp; exact hp
  · rw [decide_eq_false (fun q => absurd q.2 (Int32.not_le.mpr h2))] at hp; exact hp
  · rw [decide_eq_true ⟨Int32.not_lt.mp h, Int32.not_lt.mp h2⟩] at hp; exact hp
theorem f_isSet {M : am_M} {x : Int32} {post : am_R} (hp : post (some (.inl (bI (decide (0 ≤ x ∧ x ≤ 65535))))) M) : sp_X4_isSet [.inl x] M post := by
  refine ⟨Nat.le_of_ble_eq_true rfl, am_fold ?_⟩
  rw [h_X4_isSet_0]
  simp only [↓ap_cc, ↓ap_const, ↓ap_iload, ↓ap_aload, ↓ap_istore, ↓ap_astore, ↓ap_iinc, ↓ap_bin, ↓ap_idiv, ↓ap_irem, ↓ap_callSA, ↓ap_iretA, ↓ap_zretA, ↓ap_i2c, ↓ap_dup, ↓ap_dup2, ↓ap_nn, ↓ap_ic, ↓ap_if, ↓ap_sw, ↓ap_head, ↓ap_getI, ↓ap_getR, ↓ap_putI, ↓ap_putN, ↓ap_putR, ↓ap_iald, ↓ap_cald, ↓ap_iast, ↓ap_cast, ↓ap_aald, ↓ap_aast, ↓ap_alen, ↓ap_stat, ↓ap_pop, ↓ap_mm, ↓ap_copy, ↓ap_ret, ↓ap_iret, ↓ap_zret, ↓ap_aret, ↓ap_retA, ↓ap_new, ↓ap_newa, ↓ap_callV, ↓ap_callS, ↓ap_callI, am_in, List.map_cons, List.map_nil, List.getElem?_cons_zero, List.getElem?_cons_succ, List.set_cons_zero, List.set_cons_succ, List.take_succ_cons, List.take_zero, List.drop_succ_cons, List.drop_zero, List.reverse_cons, List.reverse_nil, List.nil_append, List.cons_append, List.append_nil, List.length_cons, List.length_nil, List.replicate_succ, List.replicate_zero, Option.toList_some, Option.toList_none, true_and, and_true, Option.some.injEq, exists_eq_left', am_wI_mk, am_wA_mk, am_wR_mk, Nat.reduceAdd, Nat.reduceSub, Nat.reduceLeDiff, Nat.zero_add, Nat.le_refl, not_true_eq_false, not_false_eq_true, forall_const, false_implies, true_implies, implies_true, and_self, Prod.mk.injEq, eq_self, true_or, or_true, false_and, and_false, or_false, false_or, Nat.reduceEqDiff, ↓a_X4_isSet_16, ↓a_X4_isSet_15, ↓a_X4_isSet_0]
  refine ⟨fun h => ?_, fun h => ⟨fun h2 => ?_, fun h2 => ?_⟩⟩
  · rw [decide_eq_false (fun q => absurd q.1 (Int32.not_le.mpr h))] at hp; exact hp
  · rw [decide_eq_false (fun q => absurd q.2 (Int32.not_le.mpr h2))] at hp; exact hp
  · rw [decide_eq_true ⟨Int32.not_lt.mp h, Int32.not_lt.mp h2⟩] at hp; exact hp
theorem f_orNotFound {M : am_M} {x : Int32} {post : am_R} (hp : post (some (.inl (if x = -1 then -4 else x))) M) : sp_X4_orNotFound [.inl x] M post := by
  refine ⟨Nat.le_of_ble_eq_true rfl, am_fold ?_⟩
  rw [h_X4_orNotFound_0]
  simp only [↓ap_cc, ↓ap_const, ↓ap_iload, ↓ap_aload, ↓ap_istore, ↓ap_astore, ↓ap_iinc, ↓ap_bin, ↓ap_idiv, ↓ap_irem, ↓ap_callSA, ↓ap_iretA, ↓ap_zretA, ↓ap_i2c, ↓ap_dup, ↓ap_dup2, ↓ap_nn, ↓ap_ic, ↓ap_if, ↓ap_sw, ↓ap_head, ↓ap_getI, ↓ap_getR, ↓ap_putI, ↓ap_putN, ↓ap_putR, ↓ap_iald, ↓ap_cald, ↓ap_iast, ↓ap_cast, ↓ap_aald, ↓ap_aast, ↓ap_alen, ↓ap_stat, ↓ap_pop, ↓ap_mm, ↓ap_copy, ↓ap_ret, ↓ap_iret, ↓ap_zret, ↓ap_aret, ↓ap_retA, ↓ap_new, ↓ap_newa, ↓ap_callV, ↓ap_callS, ↓ap_callI, am_in, List.map_cons, List.map_nil, List.getElem?_cons_zero, List.getElem?_cons_succ, List.set_cons_zero, List.set_cons_succ, List.take_succ_cons, List.take_zero, List.drop_succ_cons, List.drop_zero, List.reverse_cons, List.reverse_nil, List.nil_append, List.cons_append, List.append_nil, List.length_cons, List.length_nil, List.replicate_succ, List.replicate_zero, Option.toList_some, Option.toList_none, true_and, and_true, Option.some.injEq, exists_eq_left', am_wI_mk, am_wA_mk, am_wR_mk, Nat.reduceAdd, Nat.reduceSub, Nat.reduceLeDiff, Nat.zero_add, Nat.le_refl, not_true_eq_false, not_false_eq_true, forall_const, false_implies, true_implies, implies_true, and_self, Prod.mk.injEq, eq_self, true_or, or_true, false_and, and_false, or_false, false_or, Nat.reduceEqDiff, ↓a_X4_orNotFound_11, ↓a_X4_orNotFound_10, ↓a_X4_orNotFound_0]
  by_cases h : x = -1
  · rw [if_pos h] at hp; simp [h]; exact hp
  · rw [if_neg h] at hp; simp [h]; exact hp

