-- needs: 10 11 12 13 14 15 20 21 22 40 50 51
variable {S : List (Nat × Nat)} {R : Nat → Nat → Option Nat} {I : Nat → Nat → Int32} {M r : Nat} {a : Lg} {post : am_R}
def PastI (I : Nat → Nat → Int32) (M c : Nat) (h : Nat → Lg) : Prop := c ≤ 4 ∧ I M 3 = nI c ∧ ∀ j, j < c → RowI (fun k => I (M + 3) (227 * j + k)) (h j) ∧ LgB (h j)
