-- needs: 10 11 12 13 14 20 21 22 23 30 31 32 33 34 35 36 37 38 40 41 42 50 51 52 53 54 55 56 57 58 59 60 61 65 66 75 91
variable {S : List (Nat × Nat)} {R : Nat → Nat → Option Nat} {I : Nat → Nat → Int32} {n z o ci : Nat} {K : am_K} {Q : am_R} {k : am_T} {lr : List (Option am_V)} {bc bs : Nat} {post : am_R}
/-- places are only added -/
def Ext (S S' : List (Nat × Nat)) : Prop := ∀ (a : Nat) (x : Nat × Nat), S[a]? = some x → S'[a]? = some x
theorem Ext.tr {S' S'' : List (Nat × Nat)} (h : Ext S S') (h' : Ext S' S'') : Ext S S'' := fun a x hx => h' a x (h a x hx)
theorem Ext.app (l : List (Nat × Nat)) : Ext S (S ++ l) := fun _ _ hx => app_at hx
theorem LogS.ext {S' : List (Nat × Nat)} {L : Nat} (h : LogS S R L) (e : Ext S S') : LogS S' R L :=
  ⟨⟨e _ _ h.1.1, e _ _ h.1.2.1, e _ _ h.1.2.2.1, e _ _ h.1.2.2.2.1, e _ _ h.1.2.2.2.2.1, e _ _ h.1.2.2.2.2.2.1, e _ _ h.1.2.2.2.2.2.2.1, e _ _ h.1.2.2.2.2.2.2.2.1, e _ _ h.1.2.2.2.2.2.2.2.2.1, e _ _ h.1.2.2.2.2.2.2.2.2.2.1, e _ _ h.1.2.2.2.2.2.2.2.2.2.2.1, e _ _ h.1.2.2.2.2.2.2.2.2.2.2.2⟩, h.2⟩
theorem st_putR {j q : Nat} (h : S[o]? = some (0, ci)) (hq : q < S.length) (hk : k (some (.inr o) :: lr) [] (S, I, am_ur R o j q) K Q) : (tb_putR ci j k) (some (.inr o) :: lr) (Option.toList none ++ [.inr q, .inr o]) (S, I, R) K Q := ⟨h, hq, hk⟩
theorem sz_X1 : am_sz shX1 = 224 := by decide
/-- a new log, as it is used -/
theorem j_X1 {L : Nat} (hB : Bd (L + 1) z S I R L 1) (hz : I L = fun _ => 0) (h0 : S[0]? = some (4, 8)) (hv : ∀ j, j < 8 → I 0 j = am_t0 j) (hp : ∀ S' I' R', Ext S S' → S'.length = L + 12 → am_sz S' = z + 224 → (∀ k, k ≠ L + 11 → I' k = I k) → (∀ k, k ≠ L → R' k = R k) → Fz S' I' R' → LogS S' R' L → LogI I' L lg0 → post none (S', I', R')) : sp_X1_init [.inr L] (S, I, R) post := by
  obtain ⟨b1, b2, b3, b4, b5⟩ := hB
  refine i_X1 b1 b3 b4 hz h0 hv (fun I' R' hI hR hF hS hL => hp _ I' R' (Ext.app _) ?_ ?_ hI hR hF hS hL)
  · rw [List.length_append, b1]; rfl
  · rw [sz_app, b2, sz_X1]
theorem nol (m : Nat) : ∀ q : Nat, some (Sum.inr q) ∈ ([] : List (Option am_V)) → q < m := fun _ hq => absurd hq List.not_mem_nil
/-- new threads -/
theorem j_X3 {T : Nat} (hB : Bd (T + 1) z S I R T 3) (hz : I T = fun _ => 0) (h0 : S[0]? = some (4, 8)) (hv : ∀ j, j < 8 → I 0 j = am_t0 j) (hp : ∀ S' I' R', Ext S S' → S'.length = T + 28 → am_sz S' = z + 1558 → (∀ k, k ≠ T + 12 → I' k = I k) → (∀ k, k ≠ T → k ≠ T + 1 → R' k = R k) → Fz S' I' R' → ThS S' R' T → LogI I' (T + 1) lg0 → post none (S', I', R')) : sp_X3_init [.inr T] (S, I, R) post := by
  obtain ⟨b1, b2, b3, b4, b5⟩ := id hB
  refine ⟨Nat.le_of_ble_eq_true rfl, am_fold ?_⟩
  rw [h_X3_init_0]
  show t_X3_init_0 (S.length + 27) (am_sz S + 1558) [some (.inr T)] [] (S, I, R) _ post
  rw [b1, b2, a_X3_init_0]
  refine st_pop ?_
  have nf1 : am_nf 1 = 14 := rfl
  refine st_obj 1 hB (by omega) (by omega) (nol _) (fun hB1 => ?_)
  have e1 : Ext S (S ++ [(0, 1)]) := Ext.app _
  refine j_X1 (L := T + 1) hB1 ((b3 (T + 1) (by omega)).1) (e1 _ _ h0) hv (fun S2 I2 R2 x2 l2 z2 hI2 hR2 hF2 hS2 hL2 => ?_)
  have o2 : S2[T]? = some (0, 3) := x2 _ _ (e1 _ _ b4)
  refine st_putR o2 (by omega) ?_
  have hz2 : I2 T = fun _ => 0 := by rw [hI2 T (by omega)]; exact hz
  have B0 : Bd (T + 13) (z + 14 + 224) S2 I2 (am_ur R2 T 0 (T + 1)) T 3 := ⟨l2, by omega, hF2.ur (by omega), o2, by omega⟩
  refine st_arr 30 rfl B0 (by decide) (by decide) (by omega) (by omega) (nol _) (fun B1 => ?_)
  refine st_arr 30 rfl B1 (by decide) (by decide) (by omega) (by omega) (nol _) (fun B2 => ?_)
  refine st_arr 30 rfl B2 (by decide) (by decide) (by omega) (by omega) (nol _) (fun B3 => ?_)
  refine st_arr 900 rfl B3 (by decide) (by decide) (by omega) (by omega) (nol _) (fun B4 => ?_)
  refine st_arr 30 rfl B4 (by decide) (by decide) (by omega) (by omega) (nol _) (fun B5 => ?_)
  refine st_arr 30 rfl B5 (by decide) (by decide) (by omega) (by omega) (nol _) (fun B6 => ?_)
  refine st_arr 30 rfl B6 (by decide) (by decide) (by omega) (by omega) (nol _) (fun B7 => ?_)
  refine st_arr 30 rfl B7 (by decide) (by decide) (by omega) (by omega) (nol _) (fun B8 => ?_)
  refine st_arr 30 rfl B8 (by decide) (by decide) (by omega) (by omega) (nol _) (fun B9 => ?_)
  refine st_arr 30 rfl B9 (by decide) (by decide) (by omega) (by omega) (nol _) (fun B10 => ?_)
  refine st_arr 30 rfl B10 (by decide) (by decide) (by omega) (by omega) (nol _) (fun B11 => ?_)
  refine st_arr 30 rfl B11 (by decide) (by decide) (by omega) (by omega) (nol _) (fun B12 => ?_)
  refine st_arr 30 rfl B12 (by decide) (by decide) (by omega) (by omega) (nol _) (fun B13 => ?_)
  refine st_put0 B13 hz2 ?_
  refine st_arr 30 rfl B13 (by decide) (by decide) (by omega) (by omega) (nol _) (fun B14 => ?_)
  refine st_arr 30 rfl B14 (by decide) (by decide) (by omega) (by omega) (nol _) (fun B15 => ?_)
  have eS : S2 ++ [(1, 30)] ++ [(1, 30)] ++ [(1, 30)] ++ [(1, 900)] ++ [(1, 30)] ++ [(1, 30)] ++ [(1, 30)] ++ [(1, 30)] ++ [(1, 30)] ++ [(1, 30)] ++ [(1, 30)] ++ [(1, 30)] ++ [(1, 30)] ++ [(1, 30)] ++ [(1, 30)] = S2 ++ [(1, 30), (1, 30), (1, 30), (1, 900), (1, 30), (1, 30), (1, 30), (1, 30), (1, 30), (1, 30), (1, 30), (1, 30), (1, 30), (1, 30), (1, 30)] := by
    simp only [List.append_assoc]; rfl
  obtain ⟨R', hR'⟩ : ∃ R', R' = am_ur (am_ur (am_ur (am_ur (am_ur (am_ur (am_ur (am_ur (am_ur (am_ur (am_ur (am_ur (am_ur (am_ur (am_ur (am_ur R2 T 0 (T + 1)) T 1 (T + 13)) T 2 (T + 13 + 1)) T 3 (T + 13 + 1 + 1)) T 4 (T + 13 + 1 + 1 + 1)) T 5 (T + 13 + 1 + 1 + 1 + 1)) T 6 (T + 13 + 1 + 1 + 1 + 1 + 1)) T 7 (T + 13 + 1 + 1 + 1 + 1 + 1 + 1)) T 8 (T + 13 + 1 + 1 + 1 + 1 + 1 + 1 + 1)) T 9 (T + 13 + 1 + 1 + 1 + 1 + 1 + 1 + 1 + 1)) T 10 (T + 13 + 1 + 1 + 1 + 1 + 1 + 1 + 1 + 1 + 1)) T 11 (T + 13 + 1 + 1 + 1 + 1 + 1 + 1 + 1 + 1 + 1 + 1)) T 12 (T + 13 + 1 + 1 + 1 + 1 + 1 + 1 + 1 + 1 + 1 + 1 + 1)) T 13 (T + 13 + 1 + 1 + 1 + 1 + 1 + 1 + 1 + 1 + 1 + 1 + 1 + 1)) T 15 (T + 13 + 1 + 1 + 1 + 1 + 1 + 1 + 1 + 1 + 1 + 1 + 1 + 1 + 1)) T 16 (T + 13 + 1 + 1 + 1 + 1 + 1 + 1 + 1 + 1 + 1 + 1 + 1 + 1 + 1 + 1) := ⟨_, rfl⟩
  rw [← hR', eS] at B15 ⊢
  obtain ⟨c1, c2, c3, c4, c5⟩ := B15
  refine ⟨rfl, ⟨?_, ?_⟩, ?_⟩
  · show (S2 ++ _).length = T + 1 + 27
    omega
  · show am_sz (S2 ++ _) = z + 1558
    omega
  have x3 : Ext S2 (S2 ++ [(1, 30), (1, 30), (1, 30), (1, 900), (1, 30), (1, 30), (1, 30), (1, 30), (1, 30), (1, 30), (1, 30), (1, 30), (1, 30), (1, 30), (1, 30)]) := Ext.app _
  have rT : R' (T + 1) = R2 (T + 1) := by
    rw [hR']
    simp only [uq_k (by omega : T + 1 ≠ T)]
  refine hp _ I2 R' (e1.tr (x2.tr x3)) (by omega) (by omega) (fun k hk => hI2 k (by omega)) (fun k h1 h2 => ?_) c3 ⟨(hS2.ext x3).sameR rT, ⟨c4, (at_r l2 (i := 0) (by omega)).trans rfl, (at_r l2 (i := 1) (by omega)).trans rfl, (at_r l2 (i := 2) (by omega)).trans rfl, (at_r l2 (i := 3) (by omega)).trans rfl, (at_r l2 (i := 4) (by omega)).trans rfl, (at_r l2 (i := 5) (by omega)).trans rfl, (at_r l2 (i := 6) (by omega)).trans rfl, (at_r l2 (i := 7) (by omega)).trans rfl, (at_r l2 (i := 8) (by omega)).trans rfl, (at_r l2 (i := 9) (by omega)).trans rfl, (at_r l2 (i := 10) (by omega)).trans rfl, (at_r l2 (i := 11) (by omega)).trans rfl, (at_r l2 (i := 12) (by omega)).trans rfl, (at_r l2 (i := 13) (by omega)).trans rfl, (at_r l2 (i := 14) (by omega)).trans rfl⟩, ?_⟩ hL2
  · rw [hR']
    simp only [uq_k h1]
    exact hR2 k (by omega)
  · rw [hR']
    simp [uq_i]
theorem nar_32 : (narrow .char (.int 32) = .int 32 ∧ fits .char (.int 32) = true) := by decide +kernel
/-- a new text -/
theorem j_X2 {X : Nat} (hB : Bd (X + 1) z S I R X 2) (hz : I X = fun _ => 0) (hp : ∀ S' I' R', Ext S S' → S'.length = X + 3 → am_sz S' = z + 84 → (∀ k, k ≠ X → I' k = I k) → (∀ k, k ≠ X → R' k = R k) → Fz S' I' R' → TxtS S' R' X → I' X 0 = 0 → post none (S', I', R')) : sp_X2_init [.inr X] (S, I, R) post := by
  obtain ⟨b1, b2, b3, b4, b5⟩ := id hB
  refine ⟨Nat.le_of_ble_eq_true rfl, am_fold ?_⟩
  rw [h_X2_init_0]
  show t_X2_init_0 (S.length + 2) (am_sz S + 84) [some (.inr X)] [] (S, I, R) _ post
  rw [b1, b2, a_X2_init_0]
  refine st_pop ?_
  refine st_put0 hB hz ?_
  refine st_arr 80 rfl hB (by decide) (by decide) (by omega) (by omega) (nol _) (fun B1 => ?_)
  refine st_put0 B1 hz ?_
  refine st_put0 B1 hz ?_
  refine st_put0 B1 hz ?_
  refine ⟨B1.2.2.2.1, nar_32, ?_⟩
  rw [am_wI_mk]
  have f1 : Fz (S ++ [(2, 80)]) (am_u I X 5 32) (am_ur R X 1 (X + 1)) := fun k hk => ⟨by
    rw [List.length_append] at hk
    rw [iu_k (by omega)]; exact (b3 k (by omega)).1, (B1.2.2.1 k hk).2⟩
  have B2 : Bd (X + 1 + 1) (z + 80) (S ++ [(2, 80)]) (am_u I X 5 32) (am_ur R X 1 (X + 1)) X 2 := ⟨B1.1, B1.2.1, f1, B1.2.2.2.1, B1.2.2.2.2⟩
  refine ⟨B2.2.2.2.1, ?_⟩
  rw [am_wI_mk]
  have f2 : Fz (S ++ [(2, 80)]) (am_u (am_u I X 5 32) X 6 0) (am_ur R X 1 (X + 1)) := fun k hk => ⟨by
    rw [List.length_append] at hk
    rw [iu_k (by omega), iu_k (by omega)]; exact (b3 k (by omega)).1, (B1.2.2.1 k hk).2⟩
  have B3 : Bd (X + 1 + 1) (z + 80) (S ++ [(2, 80)]) (am_u (am_u I X 5 32) X 6 0) (am_ur R X 1 (X + 1)) X 2 := ⟨B1.1, B1.2.1, f2, B1.2.2.2.1, B1.2.2.2.2⟩
  refine st_arr 4 rfl B3 (by decide) (by decide) (by omega) (by omega) (nol _) (fun B4 => ?_)
  refine ⟨rfl, ⟨?_, ?_⟩, ?_⟩
  · show (S ++ [(2, 80)] ++ [(1, 4)]).length = X + 1 + 2
    exact B4.1
  · show am_sz (S ++ [(2, 80)] ++ [(1, 4)]) = z + 84
    rw [B4.2.1]
  have eS : S ++ [(2, 80)] ++ [(1, 4)] = S ++ [(2, 80), (1, 4)] := by simp only [List.append_assoc]; rfl
  refine hp _ _ _ ((Ext.app _).tr (Ext.app _)) B4.1 B4.2.1 (fun k hk => by rw [iu_k hk, iu_k hk]) (fun k hk => by rw [uq_k hk, uq_k hk]) B4.2.2.1 ⟨B4.2.2.2.1, ?_, ?_, ?_, ?_⟩ ?_
  · rw [eS]; exact (at_r b1 (i := 0) (by omega)).trans rfl
  · rw [eS]; exact (at_r b1 (i := 1) (by omega)).trans rfl
  · rw [uq_j (by decide), uq_s]
  · rw [uq_s]
  · rw [iu_j1 (by decide), iu_j1 (by decide), hz]

