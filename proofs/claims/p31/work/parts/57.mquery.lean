-- needs: 10 11 12 13 14 20 21 22 23 30 31 32 33 34 35 36 37 38 50 51 52 53 54 56
variable {S : List (Nat × Nat)} {R : Nat → Nat → Option Nat} {I : Nat → Nat → Int32} {M r : Nat} {a : Lg} {post : am_R}
theorem oI4_eq {o : Option Nat} {x : Nat} (ho : ∀ y, o = some y → y < 2147483648) (hx : x < 2147483648) : oI (-4) o = nI x ↔ o = some x := by
  cases o with
  | none => exact ⟨fun h => ((m4n hx).mp h.symm).elim, fun h => by cases h⟩
  | some y => rw [oI_s, neq (ho y rfl) hx, Option.some.injEq]
theorem gA_lt (hB : LgB a) {th l : Nat} (hl : l < gn a) : ∀ y, gA a th l = some y → y < 2147483648 := fun y h => by
  have := gA_i hB hl h
  have := hB.n
  omega
