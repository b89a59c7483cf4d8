-- needs: 10 11 12 13 14 30 40 41 51
variable {S : List (Nat × Nat)} {R : Nat → Nat → Option Nat} {I : Nat → Nat → Int32} {n z o ci : Nat} {K : am_K} {Q : am_R} {k : am_T} {lr : List (Option am_V)} {bc bs : Nat}
/-- what is beyond the places made is empty -/
def Fz (S : List (Nat × Nat)) (I : Nat → Nat → Int32) (R : Nat → Nat → Option Nat) : Prop := ∀ k, S.length ≤ k → I k = (fun _ => 0) ∧ R k = fun _ => none
/-- while an object at o is made: how many places, how much room, what it is -/
def Bd (n z : Nat) (S : List (Nat × Nat)) (I : Nat → Nat → Int32) (R : Nat → Nat → Option Nat) (o ci : Nat) : Prop := S.length = n ∧ am_sz S = z ∧ Fz S I R ∧ S[o]? = some (0, ci) ∧ o < n
theorem new_mk (sh : Nat × Nat) (hf : Fz S I R) : am_new (S, I, R) sh = (S ++ [sh], I, R) := by
  have h := hf S.length (Nat.le_refl _)
  have e1 : va_up I S.length (fun _ => 0) = I := by
    funext j
    unfold va_up
    split
    · rename_i hj; rw [hj]; exact h.1.symm
    · rfl
  have e2 : va_up R S.length (fun _ => none) = R := by
    funext j
    unfold va_up
    split
    · rename_i hj; rw [hj]; exact h.2.symm
    · rfl
  show (S ++ [sh], va_up I S.length (fun _ => 0), va_up R S.length (fun _ => none)) = _
  rw [e1, e2]
theorem uq_k {j q k' : Nat} (h : k' ≠ o) : am_ur R o j q k' = R k' := by unfold am_ur va_up; rw [if_neg h]
theorem uq_s (j q : Nat) : am_ur R o j q o j = some q := by unfold am_ur va_up; rw [if_pos rfl, if_pos rfl]
theorem uq_j {j j' q : Nat} (h : j' ≠ j) : am_ur R o j q o j' = R o j' := by unfold am_ur va_up; rw [if_pos rfl, if_neg h]
theorem uq_i (j q j' : Nat) : am_ur R o j q o j' = if j' = j then some q else R o j' := by
  by_cases h : j' = j
  · rw [if_pos h, h, uq_s]
  · rw [if_neg h, uq_j h]
theorem app_at {l : List (Nat × Nat)} {x : Nat × Nat} {a : Nat} (h : S[a]? = some x) : (S ++ l)[a]? = some x := by
  have h2 := (List.getElem?_eq_some_iff.mp h).1
  rw [List.getElem?_append_left h2]; exact h
theorem at_r {l : List (Nat × Nat)} {a i : Nat} (hn : S.length = n) (ha : a = n + i) : (S ++ l)[a]? = l[i]? := by
  rw [List.getElem?_append_right (by omega)]
  congr 1; omega
theorem sz_app (l : List (Nat × Nat)) : am_sz (S ++ l) = am_sz S + am_sz l := by
  simp [am_sz]
theorem Fz.app (h : Fz S I R) (l : List (Nat × Nat)) : Fz (S ++ l) I R := fun k hk => h k (by rw [List.length_append] at hk; omega)
theorem Fz.ur (h : Fz S I R) {j q : Nat} (ho : o < S.length) : Fz S I (am_ur R o j q) := fun k hk => ⟨(h k hk).1, by rw [uq_k (by omega)]; exact (h k hk).2⟩
theorem all_i {st : List am_V} (h1 : o < S.length) (h2 : ∀ q : Nat, some (Sum.inr q) ∈ lr → q < S.length) (h3 : ∀ q : Nat, Sum.inr q ∈ st → q < S.length) : am_all (S, I, R) (some (.inr o) :: lr) st := by
  refine ⟨fun i k h => ?_, h3⟩
  cases i with
  | zero =>
    simp only [List.getElem?_cons_zero, Option.some.injEq, Sum.inr.injEq] at h
    show k < S.length
    omega
  | succ i => exact h2 k (List.mem_of_getElem? h)
theorem st_pop (hk : k (some (.inr o) :: lr) [] (S, I, R) K Q) : (tb_aload 0 <| tb_pop k) (some (.inr o) :: lr) [] (S, I, R) K Q := ⟨Nat.zero_le _, hk⟩
theorem u_zero {j : Nat} (hz : I o = fun _ => 0) : am_u I o j 0 = I := by
  funext a b
  by_cases ha : a = o
  · subst ha
    rw [iu_i]
    split
    · rw [hz]
    · rfl
  · rw [iu_k ha]
theorem st_put0 {j : Nat} (hB : Bd n z S I R o ci) (hz : I o = fun _ => 0) (hk : k (some (.inr o) :: lr) [] (S, I, R) K Q) : (tb_aload 0 <| tb_const 0 <| tb_putI ci j k) (some (.inr o) :: lr) [] (S, I, R) K Q := by
  refine ⟨hB.2.2.2.1, ?_⟩
  rw [am_wI_mk, u_zero hz]; exact hk
theorem st_arr (m : Nat) {c : Int32} {j kd : Nat} (hc : c = nI m) (hB : Bd n z S I R o ci) (hm : m ≤ 100000) (hkd : kd ≠ 0) (hb : n + 1 ≤ bc) (hs : z + m ≤ bs) (hl : ∀ q : Nat, some (Sum.inr q) ∈ lr → q < n) (hk : Bd (n + 1) (z + m) (S ++ [(kd, m)]) I (am_ur R o j n) o ci → k (some (.inr o) :: lr) [] (S ++ [(kd, m)], I, am_ur R o j n) K Q) : (tb_aload 0 <| tb_const c <| tb_newa bc bs kd <| tb_putR ci j k) (some (.inr o) :: lr) [] (S, I, R) K Q := by
  obtain ⟨b1, b2, b3, b4, b5⟩ := hB
  subst hc
  have e1 : (nI m).toNatClampNeg = m := vcl (by omega)
  refine ⟨⟨nI_pos (by omega), by rw [e1]; exact hm, by show S.length + 1 ≤ bc; omega, by show am_sz S + (nI m).toNatClampNeg ≤ bs; omega, all_i (by omega) (fun q hq => by have := hl q hq; omega) (fun q hq => ?_)⟩, ?_⟩
  · simp only [List.mem_cons, Sum.inr.injEq, List.not_mem_nil, or_false] at hq; omega
  show (S ++ [(kd, (nI m).toNatClampNeg)])[o]? = some (0, ci) ∧ S.length < (S ++ [(kd, (nI m).toNatClampNeg)]).length ∧ k (some (.inr o) :: lr) [] (am_wR (am_new (S, I, R) (kd, (nI m).toNatClampNeg)) o j S.length) K Q
  rw [e1, new_mk _ b3, am_wR_mk, b1]
  have hlen : (S ++ [(kd, m)]).length = n + 1 := by rw [List.length_append, b1]; rfl
  refine ⟨app_at b4, by omega, hk ⟨hlen, ?_, (b3.app _).ur (by omega), app_at b4, by omega⟩⟩
  rw [sz_app, b2]
  have : am_sz [(kd, m)] = m := by
    show am_sz1 (kd, m) + 0 = m
    unfold am_sz1
    rw [if_neg hkd]
    rfl
  rw [this]
/-- an object is made, and its constructor runs -/
theorem st_obj (c : Nat) {j mc ms : Nat} {sp : am_sp} (hB : Bd n z S I R o ci) (hb : n + 1 + mc ≤ bc) (hs : z + am_nf c + ms ≤ bs) (hl : ∀ q : Nat, some (Sum.inr q) ∈ lr → q < n) (hk : Bd (n + 1) (z + am_nf c) (S ++ [(0, c)]) I R n c → sp [.inr n] (S ++ [(0, c)], I, R) (fun r M' => (tb_putR ci j k) (some (.inr o) :: lr) (r.toList ++ [.inr n, .inr o]) M' K Q)) : (tb_aload 0 <| tb_new bc bs c <| tb_dup <| tb_callI bc bs mc ms sp 1 <| tb_putR ci j k) (some (.inr o) :: lr) [] (S, I, R) K Q := by
  obtain ⟨b1, b2, b3, b4, b5⟩ := hB
  have hlen : (S ++ [(0, c)]).length = n + 1 := by rw [List.length_append, b1]; rfl
  have hz : am_sz (S ++ [(0, c)]) = z + am_nf c := by
    rw [sz_app, b2]; rfl
  refine ⟨⟨by show S.length + 1 ≤ bc; omega, by show am_sz S + am_nf c ≤ bs; omega, all_i (by omega) (fun q hq => by have := hl q hq; omega) (fun q hq => ?_)⟩, ?_⟩
  · simp only [List.mem_cons, Sum.inr.injEq, List.not_mem_nil, or_false] at hq; omega
  show (1 ≤ 3 ∧ 2 ≤ 8 ∧ (am_new (S, I, R) (0, c)).1.length + mc ≤ bc ∧ am_sz (am_new (S, I, R) (0, c)).1 + ms ≤ bs ∧ am_all (am_new (S, I, R) (0, c)) (some (.inr o) :: lr) [.inr S.length, .inr o]) ∧ sp [.inr S.length] (am_new (S, I, R) (0, c)) (fun r M' => (tb_putR ci j k) (some (.inr o) :: lr) (r.toList ++ [.inr S.length, .inr o]) M' K Q)
  rw [new_mk _ b3, b1]
  refine ⟨⟨by decide, by decide, by show (S ++ [(0, c)]).length + mc ≤ bc; omega, by show am_sz (S ++ [(0, c)]) + ms ≤ bs; omega, all_i (by omega) (fun q hq => by have := hl q hq; omega) (fun q hq => ?_)⟩, hk ⟨hlen, hz, b3.app _, ?_, by omega⟩⟩
  · simp only [List.mem_cons, Sum.inr.injEq, List.not_mem_nil, or_false] at hq; omega
  · exact (at_r b1 (i := 0) (by omega)).trans rfl
def shX1 : List (Nat × Nat) := [(1, 20), (1, 20), (1, 20), (1, 30), (1, 30), (1, 30), (1, 30), (1, 12), (1, 12), (1, 12), (1, 8)]
/-- a new log -/
def lg0 : Lg := (0, 0, 0, fun _ _ => 0, fun _ _ => 0, fun _ _ => 0, fun j => [600, 20, 40, 25, 10, 15, 30, 5].getD j 0)
theorem lg0_s : ∀ j, j < 8 → am_t0 j = nI (gs lg0 j) := by decide
theorem in1 (a : Nat) : am_in 1 [.inr a] = [some (.inr a)] := rfl
theorem i_X1 {L : Nat} {post : am_R} (hn : S.length = L + 1) (hf : Fz S I R) (ho : S[L]? = some (0, 1)) (hz : I L = fun _ => 0) (h0 : S[0]? = some (4, 8)) (hv : ∀ j, j < 8 → I 0 j = am_t0 j) (hp : ∀ I' R', (∀ k, k ≠ L + 11 → I' k = I k) → (∀ k, k ≠ L → R' k = R k) → Fz (S ++ shX1) I' R' → LogS (S ++ shX1) R' L → LogI I' L lg0 → post none (S ++ shX1, I', R')) : sp_X1_init [.inr L] (S, I, R) post := by
  obtain ⟨z, hsz⟩ : ∃ z, am_sz S = z := ⟨_, rfl⟩
  have B0 : Bd (L + 1) z S I R L 1 := ⟨hn, hsz, hf, ho, by omega⟩
  have nol : ∀ m : Nat, ∀ q : Nat, some (Sum.inr q) ∈ ([] : List (Option am_V)) → q < m := fun m q hq => absurd hq (List.not_mem_nil)
  refine ⟨Nat.le_of_ble_eq_true rfl, am_fold ?_⟩
  rw [h_X1_init_0]
  show t_X1_init_0 (S.length + 11) (am_sz S + 224) [some (.inr L)] [] (S, I, R) _ post
  rw [hn, hsz, a_X1_init_0]
  refine st_pop ?_
  refine st_put0 B0 hz ?_
  refine st_arr 20 rfl B0 (by decide) (by decide) (by omega) (by omega) (nol _) (fun B1 => ?_)
  refine st_arr 20 rfl B1 (by decide) (by decide) (by omega) (by omega) (nol _) (fun B2 => ?_)
  refine st_arr 20 rfl B2 (by decide) (by decide) (by omega) (by omega) (nol _) (fun B3 => ?_)
  refine st_put0 B3 hz ?_
  refine st_arr 30 rfl B3 (by decide) (by decide) (by omega) (by omega) (nol _) (fun B4 => ?_)
  refine st_arr 30 rfl B4 (by decide) (by decide) (by omega) (by omega) (nol _) (fun B5 => ?_)
  refine st_arr 30 rfl B5 (by decide) (by decide) (by omega) (by omega) (nol _) (fun B6 => ?_)
  refine st_arr 30 rfl B6 (by decide) (by decide) (by omega) (by omega) (nol _) (fun B7 => ?_)
  refine st_put0 B7 hz ?_
  refine st_arr 12 rfl B7 (by decide) (by decide) (by omega) (by omega) (nol _) (fun B8 => ?_)
  refine st_arr 12 rfl B8 (by decide) (by decide) (by omega) (by omega) (nol _) (fun B9 => ?_)
  refine st_arr 12 rfl B9 (by decide) (by decide) (by omega) (by omega) (nol _) (fun B10 => ?_)
  refine st_arr 8 rfl B10 (by decide) (by decide) (by omega) (by omega) (nol _) (fun B11 => ?_)
  have eS : S ++ [(1, 20)] ++ [(1, 20)] ++ [(1, 20)] ++ [(1, 30)] ++ [(1, 30)] ++ [(1, 30)] ++ [(1, 30)] ++ [(1, 12)] ++ [(1, 12)] ++ [(1, 12)] ++ [(1, 8)] = S ++ shX1 := by
    simp only [List.append_assoc]; rfl
  obtain ⟨R', hR'⟩ : ∃ R', R' = am_ur (am_ur (am_ur (am_ur (am_ur (am_ur (am_ur (am_ur (am_ur (am_ur (am_ur R L 1 (L + 1)) L 2 (L + 1 + 1)) L 3 (L + 1 + 1 + 1)) L 5 (L + 1 + 1 + 1 + 1)) L 6 (L + 1 + 1 + 1 + 1 + 1)) L 7 (L + 1 + 1 + 1 + 1 + 1 + 1)) L 8 (L + 1 + 1 + 1 + 1 + 1 + 1 + 1)) L 10 (L + 1 + 1 + 1 + 1 + 1 + 1 + 1 + 1)) L 11 (L + 1 + 1 + 1 + 1 + 1 + 1 + 1 + 1 + 1)) L 12 (L + 1 + 1 + 1 + 1 + 1 + 1 + 1 + 1 + 1 + 1)) L 13 (L + 1 + 1 + 1 + 1 + 1 + 1 + 1 + 1 + 1 + 1 + 1) := ⟨_, rfl⟩
  rw [← hR', eS] at B11 ⊢
  obtain ⟨b1, b2, b3, b4, b5⟩ := B11
  have hs : LogS (S ++ shX1) R' L := by
    refine ⟨⟨b4, (at_r hn (i := 0) (by omega)).trans rfl, (at_r hn (i := 1) (by omega)).trans rfl, (at_r hn (i := 2) (by omega)).trans rfl, (at_r hn (i := 3) (by omega)).trans rfl, (at_r hn (i := 4) (by omega)).trans rfl, (at_r hn (i := 5) (by omega)).trans rfl, (at_r hn (i := 6) (by omega)).trans rfl, (at_r hn (i := 7) (by omega)).trans rfl, (at_r hn (i := 8) (by omega)).trans rfl, (at_r hn (i := 9) (by omega)).trans rfl, (at_r hn (i := 10) (by omega)).trans rfl⟩, ?_⟩
    rw [hR']
    simp [uq_i]
  have r13 : R' L 13 = some (L + 11) := hs.2.2.2.2.2.2.2.2.2.2.2
  have s11 : (S ++ shX1)[L + 11]? = some (1, 8) := hs.1.2.2.2.2.2.2.2.2.2.2.2
  have s0 : (S ++ shX1)[0]? = some (4, 8) := app_at h0
  have n8 : (8 : Int32).toNatClampNeg = 8 := by decide
  refine ⟨b4, L + 11, r13, ⟨Nat.zero_le _, rfl, rfl, by decide, ⟨8, Or.inr s0, by rw [n8]; exact Nat.le_refl _⟩, 8, s11, by rw [n8]; exact Nat.le_refl _⟩, rfl, ⟨?_, ?_⟩, ?_⟩
  · show (S ++ shX1).length = L + 1 + 11
    omega
  · show am_sz (S ++ shX1) = z + 224
    omega
  rw [am_wA_mk]
  refine hp _ R' (fun k hk => ia_k hk) (fun k hk => ?_) (fun k hk => ⟨?_, (b3 k hk).2⟩) hs ?_
  · rw [hR']
    simp only [uq_k hk]
  · rw [ia_k (by omega)]; exact (b3 k hk).1
  · have e0 : ∀ j, am_ua I (L + 11) (va_cpy (I 0) (I (L + 11)) 0 0 (8 : Int32).toNatClampNeg) L j = 0 := fun j => by rw [ia_k1 (by omega), hz]
    refine ⟨⟨e0 0, e0 4, e0 9⟩, fun j hj => absurd hj (Nat.not_lt_zero _), fun j hj => absurd hj (Nat.not_lt_zero _), fun j hj => absurd hj (Nat.not_lt_zero _), fun j hj => ?_⟩
    rw [ia_s1, n8, va_cpy0 hj]
    exact (hv j hj).trans (lg0_s j hj)

