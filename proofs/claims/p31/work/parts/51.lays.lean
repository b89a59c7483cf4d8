-- needs: 10 11 12 13 14 20 21 22 50
variable {S : List (Nat × Nat)} {R : Nat → Nat → Option Nat} {I : Nat → Nat → Int32} {M r : Nat} {a : Lg} {post : am_R}
/-- the places of a model at M, and what its fields refer to -/
def MoS (S : List (Nat × Nat)) (R : Nat → Nat → Option Nat) (M : Nat) : Prop := (S[M]? = some (0, 5) ∧ S[M + 1]? = some (1, 227) ∧ S[M + 2]? = some (1, 227) ∧ S[M + 3]? = some (1, 908) ∧ S[M + 4]? = some (1, 80) ∧ S[M + 5]? = some (1, 30) ∧ S[M + 6]? = some (1, 30) ∧ S[M + 7]? = some (1, 30) ∧ S[M + 8]? = some (1, 900) ∧ S[M + 9]? = some (1, 30) ∧ S[M + 10]? = some (1, 30) ∧ S[M + 11]? = some (1, 30) ∧ S[M + 12]? = some (1, 30) ∧ S[M + 13]? = some (1, 30) ∧ S[M + 14]? = some (1, 4)) ∧ (R M 0 = some (M + 1) ∧ R M 1 = some (M + 2) ∧ R M 2 = some (M + 3) ∧ R M 4 = some (M + 4) ∧ R M 6 = some (M + 5) ∧ R M 7 = some (M + 6) ∧ R M 8 = some (M + 7) ∧ R M 9 = some (M + 8) ∧ R M 10 = some (M + 9) ∧ R M 11 = some (M + 10) ∧ R M 12 = some (M + 11) ∧ R M 13 = some (M + 12) ∧ R M 15 = some (M + 13) ∧ R M 18 = some (M + 14))
def MOrd (I : Nat → Nat → Int32) (M : Nat) (a : Lg) : Prop := (∀ k, k < gn a → I (M + 5) k = nI (gO a k)) ∧ (∀ l, l < gn a → I (M + 6) l = nI (gR a l)) ∧ ∀ l, l < gn a → I (M + 7) l = nI (gP a l)
def MSco (I : Nat → Nat → Int32) (M : Nat) (a : Lg) : Prop := ∀ l e, l < gn a → e < gn a → I (M + 8) (30 * l + e) = if gE a e l then zI (gSc a l e) else 0
theorem MOrd.fr {I' : Nat → Nat → Int32} {lo hi : Nat} (h : MOrd I M a) (hf : Fr lo hi I I') (hL : M + 7 < lo ∨ hi < M + 5) : MOrd I' M a :=
  ⟨fun k hk => by rw [hf (M + 5) (by omega)]; exact h.1 k hk, fun l hl => by rw [hf (M + 6) (by omega)]; exact h.2.1 l hl, fun l hl => by rw [hf (M + 7) (by omega)]; exact h.2.2 l hl⟩
theorem MSco.fr {I' : Nat → Nat → Int32} {lo hi : Nat} (h : MSco I M a) (hf : Fr lo hi I I') (hL : M + 8 < lo ∨ hi < M + 8) : MSco I' M a :=
  fun l e hl he => by rw [hf (M + 8) (by omega)]; exact h l e hl he
theorem rowfr {I' : Nat → Nat → Int32} {lo hi : Nat} (h : RowI (I r) a) (hf : Fr lo hi I I') (hL : r < lo ∨ hi < r) : RowI (I' r) a := by
  rw [hf r hL]; exact h
theorem gP_lt' (a : Lg) (l : Nat) : gP a l < 4096 := bts_lt _ 12
theorem bmul (b : Bool) (w : Nat) : bI b * nI w = nI (if b then w else 0) := by
  cases b
  · rw [bI_f, Int32.zero_mul]; rfl
  · rw [bI_t, Int32.one_mul]; rfl
