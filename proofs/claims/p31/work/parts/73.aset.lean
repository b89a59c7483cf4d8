-- needs: 10 11 12 13 14 15 20 21 22 23 30 31 32 33 34 35 36 37 38 65
variable {a : Lg}
/-- what doesn't look at the threshold is the same at any -/
theorem as1_N (v p τ : Nat) : ∀ m, gN (aS a 1 v) p τ m = gN a p τ m
  | 0 => rfl
  | m + 1 => by rw [gN, gN, as1_N v p τ m]; rfl
theorem as1_Pb (v l p m : Nat) : gPb (aS a 1 v) l p m = gPb a l p m := by
  unfold gPb
  rw [as1_N]; rfl
theorem as1_P (v l : Nat) : gP (aS a 1 v) l = gP a l := by
  unfold gP
  congr 1
  funext p
  rw [as1_Pb]; rfl
theorem as1_Om (v : Nat) : ∀ m, gOm (aS a 1 v) m = gOm a m
  | 0 => rfl
  | m + 1 => by
    funext k
    rw [gOm, gOm, as1_Om v m]; rfl
theorem as1_O (v : Nat) : gO (aS a 1 v) = gO a := by
  funext k
  unfold gO
  rw [as1_Om]; rfl
theorem as1_R (v : Nat) : gR (aS a 1 v) = gR a := rfl
theorem as1_X (v : Nat) : gX (aS a 1 v) = gX a := rfl
theorem as1_C (v l : Nat) : ∀ m, gC (aS a 1 v) l m = gC a l m
  | 0 => rfl
  | m + 1 => by rw [gC, gC, as1_C v l m]; rfl
theorem as1_s (v : Nat) {j : Nat} (h : j ≠ 1) : gs (aS a 1 v) j = gs a j := by
  simp only [aS_s]; rw [if_neg h]
theorem as1_s1 (v : Nat) : gs (aS a 1 v) 1 = v := by
  simp only [aS_s, if_true]
theorem as1_Up (v l e : Nat) : gUp (aS a 1 v) l e = gUp a l e := by
  unfold gUp
  rw [as1_P, as1_P, as1_s v (by decide), as1_s v (by decide), as1_s v (by decide), as1_s v (by decide)]; rfl
theorem as1_Sc (v : Nat) : gSc (aS a 1 v) = gSc a := by
  funext l e
  unfold gSc
  rw [as1_Up, as1_s v (by decide)]; rfl
theorem as1_May (v : Nat) : gMay (aS a 1 v) = gMay a := by
  funext l e
  unfold gMay
  rw [as1_X, as1_s v (by decide)]; rfl
theorem as1_Best (v l : Nat) : gBest (aS a 1 v) l = gBest a l := by
  unfold gBest
  rw [as1_C, as1_May, as1_Sc, as1_O, as1_R]; rfl
theorem as1_Rv (v : Nat) : gRv (aS a 1 v) = gRv a := by
  funext l e
  unfold gRv
  rw [as1_Best, as1_May, as1_Sc, as1_P, as1_s v (by decide)]; rfl
theorem as1_A (v th : Nat) : gA (aS a 1 v) th = gA a th := by
  funext l
  unfold gA
  rw [as1_C, as1_Best, as1_Sc]; rfl
theorem as1_Q (v th : Nat) : gQ (aS a 1 v) th = gQ a th := by
  funext l e
  unfold gQ
  rw [as1_Rv, as1_Sc]
theorem as1_St (v th : Nat) : ∀ k, gSt (aS a 1 v) th k = gSt a th k
  | 0 => rfl
  | k + 1 => by
    rw [gSt, gSt, as1_St v th k, as1_A, as1_Q, as1_O]; rfl
theorem as1_Fp (v th l : Nat) : gFp (aS a 1 v) th l = gFp a th l := by
  unfold gFp
  rw [as1_St]; rfl
theorem as1_Nu (v th l : Nat) : gNu (aS a 1 v) th l = gNu a th l := by
  unfold gNu gNf
  rw [as1_Fp]
  congr 1
  funext i
  rw [as1_O, as1_Fp]
/-- where no score lies at v, the threshold behind v tells no other answers and joins -/
def mat (a : Lg) (s : Int) : Prop := ∃ l, l < gn a ∧ ((∃ b, gBest a l = some b ∧ gSc a l b = s) ∨ ∃ o, gRv a l o = true ∧ gSc a l o = s)
theorem nx_A {v l : Nat} (h : ¬ mat a v) (hl : l < gn a) : gA a (v + 1) l = gA a v l := by
  unfold gA
  cases hc : gC a l (gk a) with
  | some x => rfl
  | none =>
    cases hb : gBest a l with
    | none => rfl
    | some b =>
      have hne : gSc a l b ≠ v := fun q => h ⟨l, hl, Or.inl ⟨b, hb, q⟩⟩
      have : (((v + 1 : Nat) : Int) ≤ gSc a l b) ↔ ((v : Nat) : Int) ≤ gSc a l b := by omega
      simp only [this]
theorem nx_Q {v l : Nat} (h : ¬ mat a v) (hl : l < gn a) : gQ a (v + 1) l = gQ a v l := by
  funext e
  unfold gQ
  cases hr : gRv a l e with
  | false => rfl
  | true =>
    have hne : gSc a l e ≠ v := fun q => h ⟨l, hl, Or.inr ⟨e, hr, q⟩⟩
    have : (((v + 1 : Nat) : Int) ≤ gSc a l e) ↔ ((v : Nat) : Int) ≤ gSc a l e := by omega
    simp only [this]
theorem nx_St {v : Nat} (h : ¬ mat a v) : ∀ k, k ≤ gn a → gSt a (v + 1) k = gSt a v k
  | 0, _ => rfl
  | k + 1, hk => by
    have hl := gO_lt (a := a) (k := k) (by omega)
    rw [gSt, gSt, nx_St h k (by omega), nx_A h hl, nx_Q h hl]
theorem nx_Fp {v : Nat} (h : ¬ mat a v) (l : Nat) : gFp a (v + 1) l = gFp a v l := by
  unfold gFp
  rw [nx_St h _ (Nat.le_refl _)]
theorem nx_Nu {v : Nat} (h : ¬ mat a v) (l : Nat) : gNu a (v + 1) l = gNu a v l := by
  unfold gNu gNf
  rw [nx_Fp h]
  congr 1
  funext i
  rw [nx_Fp h]
theorem part_Nu (l o : Nat) : gPart a l o = ff (fun v => decide (gNu a v l ≠ gNu a v o)) 0 201 := by
  unfold gPart
  congr 1
  funext v
  rw [as1_Nu, as1_Nu]
theorem as1_mat (v : Nat) (s : Int) : mat (aS a 1 v) s ↔ mat a s := by
  unfold mat
  simp only [as1_Best, as1_Sc, as1_Rv]
  exact Iff.rfl
theorem as1_as (u v : Nat) : aS (aS a 1 u) 1 v = aS a 1 v := by
  unfold aS
  simp only [gt, gn, gk, gT, gL, gF, gs, Prod.mk.injEq, true_and]
  funext j
  split <;> rfl
theorem as1_self : aS a 1 (gs a 1) = a := by
  obtain ⟨t, n, k, T, L, F, s⟩ := a
  simp only [aS, gt, gn, gk, gT, gL, gF, gs, Prod.mk.injEq, true_and]
  funext j
  split
  · rename_i h; rw [h]
  · rfl
theorem LgB_as1 (hB : LgB a) {v : Nat} (hv : v ≤ 200) : LgB (aS a 1 v) := by
  obtain ⟨s0, s1, s2, s3, s4, s5, s6, s6', s7⟩ := hB.s
  refine ⟨⟨hB.t, hB.n, hB.k⟩, hB.2.1, hB.2.2.1, hB.2.2.2.1, ?_⟩
  rw [as1_s1, as1_s v (by decide), as1_s v (by decide), as1_s v (by decide), as1_s v (by decide), as1_s v (by decide), as1_s v (by decide), as1_s v (by decide)]
  exact ⟨s0, hv, s2, s3, s4, s5, s6, s6', s7⟩
theorem RatI_as1 {I : Nat → Nat → Int32} {T v : Nat} : RatI I T (aS a 1 v) ↔ RatI I T a := by
  unfold RatI RatL ScoI SpoI OrdI
  simp only [as1_O, as1_R, as1_P, as1_Sc, as1_C, as1_May, as1_Best, as1_Rv]
  exact Iff.rfl

