-- needs: 10 11 12 13 14 20 21 22 23 30 31 32 33 34 35 36 37 38 40 41 42 50 51 52 53 54 55 56 57 58 59 60 61 65 66 75 91 92
variable {S : List (Nat × Nat)} {R : Nat → Nat → Option Nat} {I : Nat → Nat → Int32} {n z o ci : Nat} {K : am_K} {Q : am_R} {k : am_T} {lr : List (Option am_V)} {bc bs : Nat} {post : am_R}
/-- a new history -/
theorem j_X0 {H : Nat} (hB : Bd (H + 1) z S I R H 0) (hz : I H = fun _ => 0) (h0 : S[0]? = some (4, 8)) (hv : ∀ j, j < 8 → I 0 j = am_t0 j) (h0H : 0 < H) (hp : ∀ S' I' R', Ext S S' → S'.length = H + 50 → am_sz S' = z + 956 → (∀ k, k ≤ H → I' k = I k) → (∀ k, k < H → R' k = R k) → Fz S' I' R' → HisS S' R' H (fun j => H + 2 + 12 * j) → post none (S', I', R')) : sp_X0_init [.inr H] (S, I, R) post := by
  obtain ⟨b1, b2, b3, b4, b5⟩ := id hB
  refine ⟨Nat.le_of_ble_eq_true rfl, am_fold ?_⟩
  rw [h_X0_init_0]
  show t_X0_init_0 (S.length + 49) (am_sz S + 956) [some (.inr H), none] [] (S, I, R) _ post
  rw [b1, b2, a_X0_init_0]
  have nol2 : ∀ q : Nat, some (Sum.inr q) ∈ ([none] : List (Option am_V)) → q < H + 1 := fun q hq => by simp at hq
  refine st_pop ?_
  refine st_put0 hB hz ?_
  refine st_arr 4 rfl hB (by decide) (by decide) (by omega) (by omega) nol2 (fun B1 => ?_)
  have loop : ∀ d i, i + d = 4 → ∀ S1 I1 R1 (z1 : Nat), Bd (H + 2 + 12 * i) z1 S1 I1 R1 H 0 → z1 = z + 4 + 238 * i → Ext (S ++ [(3, 4)]) S1 → (∀ k, k ≤ H + 1 → I1 k = I k) → (∀ k, k < H → R1 k = R k) → R1 H 1 = some (H + 1) → (∀ j, j < i → R1 (H + 1) j = some (H + 2 + 12 * j) ∧ LogS S1 R1 (H + 2 + 12 * j)) → am_OK (h_X0_init (H + 1 + 49) (z + 956)) post 19 [some (.inr H), some (.inl (nI i))] (S1, I1, R1) := by
    intro d
    induction d with
    | zero =>
      intro i hi S1 I1 R1 z1 hB1 hz1 hx hI1 hR1 hr hq
      obtain rfl : i = 4 := by omega
      refine am_fold ?_
      rw [h_X0_init_19, a_X0_init_19]
      refine ⟨fun _ => ⟨rfl, ⟨?_, ?_⟩, ?_⟩, fun h => absurd (by decide) h⟩
      · show S1.length = H + 1 + 49
        rw [hB1.1]
      · show am_sz S1 = z + 956
        rw [hB1.2.1, hz1]
      · refine hp S1 I1 R1 ((Ext.app _).tr hx) (by rw [hB1.1]) (by rw [hB1.2.1, hz1]) (fun k hk => hI1 k (by omega)) hR1 hB1.2.2.1 ⟨hB1.2.2.2.1, hx _ _ ((at_r b1 (i := 0) (by omega)).trans rfl), hr, fun j hj => ⟨(hq j hj).1, (hq j hj).2, ?_, ?_, fun i hi hij => ?_⟩⟩
        · show H + 2 ≤ H + 2 + 12 * j
          omega
        · show H + 2 + 12 * j + 11 ≤ H + 49
          omega
        · show H + 2 + 12 * i + 11 < H + 2 + 12 * j ∨ H + 2 + 12 * j + 11 < H + 2 + 12 * i
          omega
    | succ d ih =>
      intro i hi S1 I1 R1 z1 hB1 hz1 hx hI1 hR1 hr hq
      obtain ⟨c1, c2, c3, c4, c5⟩ := id hB1
      refine am_fold ?_
      rw [h_X0_init_19, a_X0_init_19]
      refine ⟨fun h => ?_, fun _ => ?_⟩
      · exfalso
        have h : (4 : Int32) ≤ nI i := h
        rw [show (4 : Int32) = nI 4 from rfl, nle (by omega) (by omega)] at h
        omega
      refine ⟨c4, H + 1, hr, ?_⟩
      have hlen : (S1 ++ [(0, 1)]).length = H + 2 + 12 * i + 1 := by rw [List.length_append, c1]; rfl
      have hsz : am_sz (S1 ++ [(0, 1)]) = z1 + 14 := by rw [sz_app, c2]; rfl
      have nol3 : ∀ m : Nat, ∀ q : Nat, some (Sum.inr q) ∈ ([some (.inl (nI i))] : List (Option am_V)) → q < m := fun m q hq => by simp at hq
      refine ⟨⟨by show S1.length + 1 ≤ H + 1 + 49; omega, by show am_sz S1 + 14 ≤ z + 956; omega, all_i (by omega) (nol3 _) (fun q hq => ?_)⟩, ?_⟩
      · simp only [List.mem_cons, Sum.inr.injEq, List.not_mem_nil, or_false, reduceCtorEq, false_or] at hq; omega
      show (1 ≤ 4 ∧ 3 ≤ 8 ∧ (am_new (S1, I1, R1) (0, 1)).1.length + 11 ≤ H + 1 + 49 ∧ am_sz (am_new (S1, I1, R1) (0, 1)).1 + 224 ≤ z + 956 ∧ am_all (am_new (S1, I1, R1) (0, 1)) [some (.inr H), some (.inl (nI i))] [.inr S1.length, .inl (nI i), .inr (H + 1)]) ∧ sp_X1_init [.inr S1.length] (am_new (S1, I1, R1) (0, 1)) (fun r M' => (tb_aast <| tb_iinc 1 1 <| tb_head 19) [some (.inr H), some (.inl (nI i))] (r.toList ++ [.inr S1.length, .inl (nI i), .inr (H + 1)]) M' (am_OK (h_X0_init (H + 1 + 49) (z + 956)) post) post)
      rw [new_mk _ c3, c1]
      refine ⟨⟨by decide, by decide, by show (S1 ++ [(0, 1)]).length + 11 ≤ H + 1 + 49; omega, by show am_sz (S1 ++ [(0, 1)]) + 224 ≤ z + 956; omega, all_i (by omega) (nol3 _) (fun q hq => ?_)⟩, ?_⟩
      · simp only [List.mem_cons, Sum.inr.injEq, List.not_mem_nil, or_false, reduceCtorEq, false_or] at hq; omega
      have B2 : Bd (H + 2 + 12 * i + 1) (z1 + 14) (S1 ++ [(0, 1)]) I1 R1 (H + 2 + 12 * i) 1 := ⟨hlen, hsz, c3.app _, (at_r c1 (i := 0) (by omega)).trans rfl, by omega⟩
      have e1 : Ext S1 (S1 ++ [(0, 1)]) := Ext.app _
      refine j_X1 B2 (c3 _ (by omega)).1 (e1 _ _ (hx _ _ (app_at h0))) (fun j hj => by rw [hI1 0 (by omega)]; exact hv j hj) (fun S2 I2 R2 x2 l2 z2 hI2 hR2 hF2 hS2 hL2 => ?_)
      have s34 : S2[H + 1]? = some (3, 4) := x2 _ _ (e1 _ _ (hx _ _ ((at_r b1 (i := 0) (by omega)).trans rfl)))
      refine ⟨⟨4, s34, vp_in_nI (by omega) (by decide)⟩, x2 _ _ ((at_r c1 (i := 0) (by omega)).trans rfl), rfl, ?_⟩
      show am_OK (h_X0_init (H + 1 + 49) (z + 956)) post 19 [some (.inr H), some (.inl (nI i + 1))] (S2, I2, am_ur R2 (H + 1) (nI i).toNatClampNeg (H + 2 + 12 * i))
      rw [np1, vcl (by omega)]
      have hr2 : ∀ k, k ≠ H + 1 → am_ur R2 (H + 1) i (H + 2 + 12 * i) k = R2 k := fun k hk => uq_k hk
      refine ih (i + 1) (by omega) S2 I2 _ (z1 + 14 + 224) ⟨by omega, z2, hF2.ur (by omega), x2 _ _ (e1 _ _ c4), by omega⟩ (by omega) (hx.tr (e1.tr x2)) (fun k hk => by rw [hI2 k (by omega)]; exact hI1 k hk) (fun k hk => by rw [hr2 k (by omega), hR2 k (by omega)]; exact hR1 k hk) (by rw [hr2 H (by omega), hR2 H (by omega)]; exact hr) (fun j hj => ?_)
      by_cases hji : j = i
      · subst hji
        exact ⟨by rw [uq_s], hS2.sameR (hr2 _ (by omega))⟩
      · have hqj := hq j (by omega)
        refine ⟨?_, ((hqj.2.ext (e1.tr x2)).sameR ?_)⟩
        · rw [uq_j hji, hR2 (H + 1) (by omega)]; exact hqj.1
        · rw [hr2 _ (by omega), hR2 _ (by omega)]
  refine ⟨rfl, ?_⟩
  refine loop 4 0 (by omega) _ I _ (z + 4) B1 (by omega) (fun _ _ h => h) (fun k hk => rfl) (fun k hk => uq_k (by omega)) (by rw [uq_s]) (fun j hj => by omega)

