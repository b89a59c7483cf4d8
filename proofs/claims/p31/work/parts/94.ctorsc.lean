-- needs: 10 11 12 13 14 20 21 22 23 30 31 32 33 34 35 36 37 38 40 41 42 50 51 52 53 54 55 56 57 58 59 60 61 65 66 75 91 92 93
variable {S : List (Nat × Nat)} {R : Nat → Nat → Option Nat} {I : Nat → Nat → Int32} {n z o ci : Nat} {K : am_K} {Q : am_R} {k : am_T} {lr : List (Option am_V)} {bc bs : Nat} {post : am_R}
/-- the first state -/
def st0 : St := (lg0, 0, fun _ => lg0, 0, fun _ => 0)
theorem ThS.ext {S' : List (Nat × Nat)} {T : Nat} (h : ThS S R T) (e : Ext S S') : ThS S' R T := by
  obtain ⟨h1, ⟨v0, v13, v14, v15, v16, v17, v18, v19, v20, v21, v22, v23, v24, v25, v26, v27⟩, h3⟩ := h
  exact ⟨h1.ext e, ⟨e _ _ v0, e _ _ v13, e _ _ v14, e _ _ v15, e _ _ v16, e _ _ v17, e _ _ v18, e _ _ v19, e _ _ v20, e _ _ v21, e _ _ v22, e _ _ v23, e _ _ v24, e _ _ v25, e _ _ v26, e _ _ v27⟩, h3⟩
theorem ThS.same {R' : Nat → Nat → Option Nat} {T : Nat} (h : ThS S R T) (e1 : R' T = R T) (e2 : R' (T + 1) = R (T + 1)) : ThS S R' T :=
  ⟨h.1.sameR e2, h.2.1, by rw [e1]; exact h.2.2⟩
theorem HisS.ext {S' : List (Nat × Nat)} {H : Nat} {q : Nat → Nat} (h : HisS S R H q) (e : Ext S S') : HisS S' R H q :=
  ⟨e _ _ h.1, e _ _ h.2.1, h.2.2.1, fun j hj => ⟨(h.2.2.2 j hj).1, (h.2.2.2 j hj).2.1.ext e, (h.2.2.2 j hj).2.2⟩⟩
theorem HisS.same {R' : Nat → Nat → Option Nat} {H : Nat} {q : Nat → Nat} (h : HisS S R H q) (e : ∀ k, H ≤ k → k ≤ H + 49 → R' k = R k) : HisS S R' H q :=
  ⟨h.1, h.2.1, by rw [e H (by omega) (by omega)]; exact h.2.2.1, fun j hj => ⟨by rw [e (H + 1) (by omega) (by omega)]; exact (h.2.2.2 j hj).1, (h.2.2.2 j hj).2.1.sameR (e _ (by have := (h.2.2.2 j hj).2.2.1; omega) (by have := (h.2.2.2 j hj).2.2.2.1; omega)), (h.2.2.2 j hj).2.2⟩⟩
theorem TxtS.ext {S' : List (Nat × Nat)} {X : Nat} (h : TxtS S R X) (e : Ext S S') : TxtS S' R X := ⟨e _ _ h.1, e _ _ h.2.1, e _ _ h.2.2.1, h.2.2.2⟩
theorem TxtS.same {R' : Nat → Nat → Option Nat} {X : Nat} (h : TxtS S R X) (e : R' X = R X) : TxtS S R' X := ⟨h.1, h.2.1, h.2.2.1, by rw [e]; exact h.2.2.2⟩
theorem st_fld {j j' q x : Nat} (h4 : S[o]? = some (0, ci)) (hr : R o j = some q) (hq : S[q]? = some (0, 3)) (hr2 : R q 0 = some x) (hx : x < S.length) (hk : k (some (.inr o) :: lr) [] (S, I, am_ur R o j' x) K Q) : (tb_aload 0 <| tb_aload 0 <| tb_getR ci j <| tb_getR 3 0 <| tb_putR ci j' k) (some (.inr o) :: lr) [] (S, I, R) K Q := ⟨h4, q, hr, hq, x, hr2, h4, hx, hk⟩
/-- a new chat -/
theorem j_X4 (hB : Bd 5 z S I R 4 4) (hz : I 4 = fun _ => 0) (h0 : S[0]? = some (4, 8)) (h1 : S[1]? = some (4, 8)) (h2 : S[2]? = some (4, 8)) (hv : ∀ j, j < 8 → I 0 j = am_t0 j) (hv1 : ∀ j, j < 8 → I 1 j = am_t1 j ∧ I 2 j = am_t2 j) (hp : ∀ S' I' R', Ext S S' → S'.length = 114 → am_sz S' = z + 4200 → (∀ k, k < 4 → I' k = I k) → Fz S' I' R' → ClS S' R' (fun j => 33 + 2 + 12 * j) → ClI I' (fun j => 33 + 2 + 12 * j) st0 → post none (S', I', R')) : sp_X4_init [.inr 4] (S, I, R) post := by
  obtain ⟨b1, b2, b3, b4, b5⟩ := id hB
  have nf0 : am_nf 0 = 2 := rfl
  have nf2 : am_nf 2 = 8 := rfl
  have nf3 : am_nf 3 = 17 := rfl
  refine ⟨Nat.le_of_ble_eq_true rfl, am_fold ?_⟩
  rw [h_X4_init_0]
  show t_X4_init_0 (S.length + 109) (am_sz S + 4200) [some (.inr 4)] [] (S, I, R) _ post
  rw [b1, b2, a_X4_init_0]
  refine st_pop ?_
  refine st_obj 3 hB (by omega) (by omega) (nol _) (fun hB1 => ?_)
  have e1 : Ext S (S ++ [(0, 3)]) := Ext.app _
  refine j_X3 (T := 5) hB1 (b3 5 (by omega)).1 (e1 _ _ h0) hv (fun S1 I1 R1 x1 l1 z1 hI1 hR1 hF1 hT1 hL1 => ?_)
  have y1 : Ext S S1 := e1.tr x1
  have s1 : S1[4]? = some (0, 4) := y1 _ _ b4
  refine st_putR s1 (by omega) ?_
  have a40 : am_ur R1 4 0 5 4 0 = some 5 := uq_s _ _
  have a50 : am_ur R1 4 0 5 5 0 = some 6 := by rw [uq_k (by decide)]; exact hT1.2.2.1
  refine st_fld s1 a40 hT1.2.1.1 a50 (by omega) ?_
  refine ⟨s1, nar_b1, ?_⟩
  rw [am_wI_mk]
  have fa : Fz S1 (am_u I1 4 2 1) (am_ur (am_ur R1 4 0 5) 4 1 6) := fun k hk => ⟨by rw [iu_k (by omega)]; exact (hF1 k hk).1, by rw [uq_k (by omega), uq_k (by omega)]; exact (hF1 k hk).2⟩
  have B1 : Bd 33 (z + 17 + 1558) S1 (am_u I1 4 2 1) (am_ur (am_ur R1 4 0 5) 4 1 6) 4 4 := ⟨l1, by omega, fa, s1, by omega⟩
  have iz : ∀ k, k < 4 → am_u I1 4 2 1 k = I k := fun k hk => by rw [iu_k (by omega), hI1 k (by omega)]
  refine st_obj 0 B1 (by omega) (by omega) (nol _) (fun hB2 => ?_)
  have e2 : Ext S1 (S1 ++ [(0, 0)]) := Ext.app _
  refine j_X0 (H := 33) hB2 (fa 33 (by omega)).1 (e2 _ _ (y1 _ _ h0)) (fun j hj => by rw [iz 0 (by omega)]; exact hv j hj) (by decide) (fun S2 I2 R2 x2 l2 z2 hI2 hR2 hF2 hH2 => ?_)
  have y2 : Ext S1 S2 := e2.tr x2
  have s2 : S2[4]? = some (0, 4) := y2 _ _ s1
  refine st_putR s2 (by omega) ?_
  have B2 : Bd 83 (z + 17 + 1558 + 2 + 956) S2 I2 (am_ur R2 4 3 33) 4 4 := ⟨l2, by omega, hF2.ur (by omega), s2, by omega⟩
  refine st_obj 2 B2 (by omega) (by omega) (nol _) (fun hB3 => ?_)
  have e3 : Ext S2 (S2 ++ [(0, 2)]) := Ext.app _
  refine j_X2 (X := 83) hB3 (hF2 83 (by omega)).1 (fun S3 I3 R3 x3 l3 z3 hI3 hR3 hF3 hX3 hX30 => ?_)
  have y3 : Ext S2 S3 := e3.tr x3
  have s3 : S3[4]? = some (0, 4) := y3 _ _ s2
  refine st_putR s3 (by omega) ?_
  have B3 : Bd 86 (z + 17 + 1558 + 2 + 956 + 8 + 84) S3 I3 (am_ur R3 4 4 83) 4 4 := ⟨l3, by omega, hF3.ur (by omega), s3, by omega⟩
  refine st_obj 3 B3 (by omega) (by omega) (nol _) (fun hB4 => ?_)
  have e4 : Ext S3 (S3 ++ [(0, 3)]) := Ext.app _
  have i3 : ∀ k, k ≤ 33 → k ≠ 4 → I3 k = I1 k := fun k hk h4 => by rw [hI3 k (by omega), hI2 k hk, iu_k h4]
  refine j_X3 (T := 86) hB4 (hF3 86 (by omega)).1 (e4 _ _ (y3 _ _ (y2 _ _ (y1 _ _ h0)))) (fun j hj => by rw [i3 0 (by omega) (by omega), hI1 0 (by omega)]; exact hv j hj) (fun S4 I4 R4 x4 l4 z4 hI4 hR4 hF4 hT4 hL4 => ?_)
  have y4 : Ext S3 S4 := e4.tr x4
  have s4 : S4[4]? = some (0, 4) := y4 _ _ s3
  refine st_putR s4 (by omega) ?_
  have a45 : am_ur R4 4 5 86 4 5 = some 86 := uq_s _ _
  have a86 : am_ur R4 4 5 86 86 0 = some 87 := by rw [uq_k (by decide)]; exact hT4.2.2.1
  refine st_fld s4 a45 hT4.2.1.1 a86 (by omega) ?_
  refine ⟨rfl, ⟨?_, ?_⟩, ?_⟩
  · show S4.length = 5 + 109
    omega
  · show am_sz S4 = z + 4200
    omega
  have i4 : ∀ k, k ≤ 33 → k ≠ 4 → I4 k = I1 k := fun k hk h4 => by rw [hI4 k (by omega), i3 k hk h4]
  obtain ⟨RR, hRR⟩ : ∃ RR, RR = am_ur (am_ur R4 4 5 86) 4 6 87 := ⟨_, rfl⟩
  rw [← hRR]
  have rr : ∀ k, k ≠ 4 → RR k = R4 k := fun k hk => by rw [hRR, uq_k hk, uq_k hk]
  have r4 : ∀ k, k ≠ 4 → k ≠ 86 → k ≠ 87 → RR k = R3 k := fun k h4 h5 h6 => by rw [rr k h4, hR4 k h5 h6, uq_k h4]
  have r3 : ∀ k, k ≠ 4 → k ≠ 83 → k ≠ 86 → k ≠ 87 → RR k = R2 k := fun k h4 h3 h5 h6 => by rw [r4 k h4 h5 h6, hR3 k h3, uq_k h4]
  have r2 : ∀ k, k < 33 → k ≠ 4 → RR k = R1 k := fun k h3 h4 => by rw [r3 k h4 (by omega) (by omega) (by omega), hR2 k h3, uq_k h4, uq_k h4]
  have q4 : ∀ j, RR 4 j = if j = 6 then some 87 else if j = 5 then some 86 else if j = 4 then some 83 else if j = 3 then some 33 else if j = 1 then some 6 else if j = 0 then some 5 else R1 4 j := fun j => by
    rw [hRR, uq_i, uq_i, hR4 4 (by decide) (by decide), uq_i, hR3 4 (by decide), uq_i, hR2 4 (by decide), uq_i, uq_i]
  have z44 : Ext S1 S4 := y2.tr (y3.tr y4)
  refine hp S4 I4 RR (y1.tr z44) l4 (by omega) (fun k hk => by rw [i4 k (by omega) (by omega), hI1 k (by omega)]) (fun k hk => ⟨(hF4 k hk).1, by rw [rr k (by omega)]; exact (hF4 k hk).2⟩) ⟨⟨s4, by rw [q4]; rfl, by rw [q4]; rfl, by rw [q4]; rfl, by rw [q4]; rfl, by rw [q4]; rfl, by rw [q4]; rfl⟩, ?_, ?_, ?_, ?_, y1.tr z44 _ _ h1, y1.tr z44 _ _ h2⟩ ⟨?_, ⟨Nat.zero_le _, ?_, fun j hj => absurd hj (Nat.not_lt_zero _)⟩, ⟨Nat.zero_le _, ?_, fun j hj => absurd hj (Nat.not_lt_zero _)⟩, Or.inl ?_, fun j hj => ?_⟩
  · exact (hT1.ext z44).same (r2 5 (by decide) (by decide)) (r2 6 (by decide) (by decide))
  · exact (hH2.ext (y3.tr y4)).same (fun k h5 h6 => r3 k (by omega) (by omega) (by omega) (by omega))
  · exact (hX3.ext y4).same (r4 83 (by decide) (by decide) (by decide))
  · exact hT4.same (rr 86 (by decide)) (rr 87 (by decide))
  · exact hL1.same (fun d hd => i4 _ (by omega) (by omega))
  · rw [i4 33 (by decide) (by decide), hI1 33 (by decide), (b3 33 (by omega)).1]; rfl
  · rw [hI4 83 (by decide)]; exact hX30
  · rw [hI4 4 (by decide), hI3 4 (by decide), hI2 4 (by decide), iu_s]
  · rw [i4 1 (by decide) (by decide), i4 2 (by decide) (by decide), hI1 1 (by decide), hI1 2 (by decide)]; exact hv1 j hj
theorem st_ast (j : Nat) {i v : Int32} {q : Nat} (hi : i = nI j) (hj : j < 227) (h : S[o]? = some (0, ci)) (hr : R o 0 = some q) (hq : S[q]? = some (1, 227)) (hk : k (some (.inr o) :: lr) [] (S, am_u I q j v, R) K Q) : (tb_aload 0 <| tb_getR ci 0 <| tb_const i <| tb_const v <| tb_iast k) (some (.inr o) :: lr) [] (S, I, R) K Q := by
  subst hi
  refine ⟨h, q, hr, ⟨227, hq, vp_in_nI hj (by decide)⟩, ?_⟩
  rw [am_wI_mk, vcl (by omega)]; exact hk
theorem WfS_0 : WfS st0 := by
  refine ⟨⟨⟨⟨Nat.zero_le _, Nat.zero_le _, Nat.zero_le _⟩, fun j hj => absurd hj (Nat.not_lt_zero _), fun j hj => absurd hj (Nat.not_lt_zero _), fun j hj => absurd hj (Nat.not_lt_zero _), by decide⟩, fun i j hi => absurd hi (Nat.not_lt_zero _), fun i j _ hj => absurd hj (Nat.not_lt_zero _), fun τ nm p p' h => by cases h⟩, fun j hj => absurd hj (Nat.not_lt_zero _)⟩

