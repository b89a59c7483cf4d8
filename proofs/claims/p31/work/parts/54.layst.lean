-- needs: 10 11 12 13 14 20 21 22 23 30 31 32 33 34 35 36 37 50 51 52 53
variable {S : List (Nat × Nat)} {R : Nat → Nat → Option Nat} {I : Nat → Nat → Int32} {M r : Nat} {a : Lg} {post : am_R}
theorem LogMo {lo hi : Nat} {I' : Nat → Nat → Int32} (hI : RowI (I r) a) (hr : M + 1 ≤ r ∧ r ≤ M + 2) (hf : FrT M lo hi I I') (hL : M + 2 < lo) : RowI (I' r) a := by
  rw [hf.1 r (by omega) (by omega)]; exact hI
theorem MOrd.frT {I' : Nat → Nat → Int32} {lo hi : Nat} (h : MOrd I M a) (hf : FrT M lo hi I I') (hL : M + 7 < lo) : MOrd I' M a := by
  obtain ⟨J, f1, f2⟩ := hf.sp
  exact (h.fr f1 (by omega)).fr f2 (by omega)
