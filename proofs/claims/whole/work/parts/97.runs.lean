-- needs: 10 11 12 13 14 15 20 21 22 23 30 31 32 33 34 35 36 37 38 40 41 42 50 51 52 53 54 55 56 57 58 59 60 61 64 65 66 67 68 69 70 71 72 73 74 75 76 77 78 79 80 81 82 83 84 85 86 87 88 89 90 91 92 93 94 95 96
variable {S : List (Nat × Nat)} {R : Nat → Nat → Option Nat} {I : Nat → Nat → Int32} {n z o : Nat} {K : am_K} {Q : am_R} {k : am_T} {lr : List (Option am_V)} {bc bs : Nat}
/-- an object is made for the law -/
theorem st_mk (c : Nat) {mc ms : Nat} {sp : am_sp} (b1 : S.length = n) (b2 : am_sz S = z) (b3 : Fz S I R) (ho : o < n) (hb : n + 1 + mc ≤ bc) (hs : z + am_nf c + ms ≤ bs) (hl : ∀ q : Nat, some (Sum.inr q) ∈ lr → q < n) (hk : Bd (n + 1) (z + am_nf c) (S ++ [(0, c)]) I R n c → sp [.inr n] (S ++ [(0, c)], I, R) (fun r M' => k (some (.inr o) :: lr) (r.toList ++ [.inr n]) M' K Q)) : (tb_new bc bs c <| tb_dup <| tb_callI bc bs mc ms sp 1 <| k) (some (.inr o) :: lr) [] (S, I, R) K Q := by
  have hlen : (S ++ [(0, c)]).length = n + 1 := by rw [List.length_append, b1]; rfl
  have hz : am_sz (S ++ [(0, c)]) = z + am_nf c := by
    rw [sz_app, b2]; rfl
  refine ⟨⟨by show S.length + 1 ≤ bc; omega, by show am_sz S + am_nf c ≤ bs; omega, all_i (by omega) (fun q hq => by have := hl q hq; omega) (fun q hq => by simp at hq)⟩, ?_⟩
  show (1 ≤ 2 ∧ 1 ≤ 8 ∧ (am_new (S, I, R) (0, c)).1.length + mc ≤ bc ∧ am_sz (am_new (S, I, R) (0, c)).1 + ms ≤ bs ∧ am_all (am_new (S, I, R) (0, c)) (some (.inr o) :: lr) [.inr S.length]) ∧ sp [.inr S.length] (am_new (S, I, R) (0, c)) (fun r M' => k (some (.inr o) :: lr) (r.toList ++ [.inr S.length]) M' K Q)
  rw [new_mk _ b3, b1]
  refine ⟨⟨by decide, by decide, by show (S ++ [(0, c)]).length + mc ≤ bc; omega, by show am_sz (S ++ [(0, c)]) + ms ≤ bs; omega, all_i (by omega) (fun q hq => by have := hl q hq; omega) (fun q hq => ?_)⟩, hk ⟨hlen, hz, b3.app _, ?_, by omega⟩⟩
  · simp only [List.mem_cons, Sum.inr.injEq, List.not_mem_nil, or_false] at hq; omega
  · exact (at_r b1 (i := 0) (by omega)).trans rfl
/-- the law runs to its end, with 1 -/
theorem law_runs {L : Nat} {xs : Nat → Int32} (hL : L ≤ 2560) : am_OK (h_L_law (4 + 600000) (am_sz (am_M0 L xs).1 + 7302250)) (fun r _ => r = some (.inl 1)) 0 (am_in 4 [.inr 3]) (am_M0 L xs) := by
  obtain ⟨S, hS⟩ : ∃ S : List (Nat × Nat), S = [(4, 8), (4, 8), (4, 8), (4, L)] := ⟨_, rfl⟩
  obtain ⟨z, hz⟩ : ∃ z, am_sz S = z := ⟨_, rfl⟩
  have hl : S.length = 4 := by rw [hS]; rfl
  have h0 : S[0]? = some (4, 8) := by rw [hS]; rfl
  have h1 : S[1]? = some (4, 8) := by rw [hS]; rfl
  have h2 : S[2]? = some (4, 8) := by rw [hS]; rfl
  have h3 : S[3]? = some (4, L) := by rw [hS]; rfl
  have hM : am_M0 L xs = (S, am_I0 xs, fun _ _ => none) := by rw [hS]; rfl
  have hf : Fz S (am_I0 xs) (fun _ _ => none) := fun k hk => ⟨by
    unfold am_I0
    rw [if_neg (by omega), if_neg (by omega), if_neg (by omega), if_neg (by omega)], rfl⟩
  have nf4 : am_nf 4 = 7 := rfl
  have nf5 : am_nf 5 = 21 := rfl
  rw [hM]
  show am_OK (h_L_law (4 + 600000) (am_sz S + 7302250)) _ 0 [some (.inr 3), none, none, none] _
  rw [hz]
  refine am_fold ?_
  rw [h_L_law_0, a_L_law_0]
  refine st_mk 4 hl hz hf (by decide) (by decide) (by omega) (fun q hq => by simp at hq) (fun hB => ?_)
  have e1 : Ext S (S ++ [(0, 4)]) := Ext.app _
  refine j_X4 hB (hf 4 (by omega)).1 (e1 _ _ h0) (e1 _ _ h1) (e1 _ _ h2) (fun j _ => rfl) (fun j _ => ⟨rfl, rfl⟩) (fun S1 I1 R1 x1 l1 z1 hi1 hF1 hC1 hI1 => ?_)
  show (tb_new (4 + 600000) (z + 7302250) 5 <| tb_dup <| tb_callI (4 + 600000) (z + 7302250) 14 2586 sp_X5_init 1 <| tb_astore 2 <| tb_const 0 <| tb_istore 3 <| tb_head 18) [some (.inr 3), some (.inr 4), none, none] [] (S1, I1, R1) _ _
  refine st_mk 5 l1 z1 hF1 (by decide) (by decide) (by omega) (fun q hq => ?_) (fun hB2 => ?_)
  · simp only [List.mem_cons, Option.some.injEq, Sum.inr.injEq, List.not_mem_nil, or_false, reduceCtorEq] at hq; omega
  have e2 : Ext S1 (S1 ++ [(0, 5)]) := Ext.app _
  refine j_X5 (M := 114) rfl hB2 (hF1 114 (by omega)).1 (fun S2 I2 R2 x2 l2 z2 hi2 hr2 hM2 hO2 => ?_)
  have y2 : Ext S1 S2 := e2.tr x2
  refine ⟨rfl, ?_⟩
  show am_OK (h_L_law (4 + 600000) (z + 7302250)) _ 18 [some (.inr 3), some (.inr 4), some (.inr 114), some (.inl (nI 0))] (S2, I2, R2)
  have rr : ∀ k, k < 114 → R2 k = R1 k := fun k hk => hr2 k (by omega)
  have ii : ∀ k, k < 114 → I2 k = I1 k := fun k hk => hi2 k (by omega)
  have s3 : S2[3]? = some (4, L) := y2 _ _ (x1 _ _ (e1 _ _ h3))
  obtain ⟨⟨c4, p0, p1, p3, p4, p5, p6⟩, cT, cH, cX, cT2, c1, c2⟩ := hC1
  have hC2 : ClS S2 R2 (fun j => 33 + 2 + 12 * j) := ⟨⟨y2 _ _ c4, by rw [rr 4 (by decide)]; exact p0, by rw [rr 4 (by decide)]; exact p1, by rw [rr 4 (by decide)]; exact p3, by rw [rr 4 (by decide)]; exact p4, by rw [rr 4 (by decide)]; exact p5, by rw [rr 4 (by decide)]; exact p6⟩, (cT.ext y2).same (rr 5 (by decide)) (rr 6 (by decide)), (cH.ext y2).same (fun k _ hk => rr k (by omega)), (cX.ext y2).same (rr 83 (by decide)), (cT2.ext y2).same (rr 86 (by decide)) (rr 87 (by decide)), y2 _ _ c1, y2 _ _ c2⟩
  have hI2 : ClI I2 (fun j => 33 + 2 + 12 * j) st0 := hI1.same hC2 (fun k hk => ii k (by omega)) (by rw [ii 83 (by decide)]) (ii 84 (by decide))
  exact law_loop hL s3 (fun _ => rfl) (L + 5) 0 (by omega) I2 R2 _ st0 ⟨s3, hC2, hI2, hM2, hO2, WfS_0⟩
