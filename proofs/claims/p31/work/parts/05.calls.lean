
theorem am_sz_app (l : List (Nat × Nat)) (sh : Nat × Nat) : am_sz (l ++ [sh]) = am_sz l + am_sz1 sh := by simp [am_sz]
theorem am_ok_new {M : am_M} (h : am_ok M) (sh : Nat × Nat) (hs : sh.1 ≠ 4) : am_ok (am_new M sh) := by
  obtain ⟨o1, o2, o3⟩ := h
  refine ⟨by simp [am_new]; omega, fun k q hq => ?_, fun k j y hk hy => ?_⟩
  · simp only [am_new] at hq
    rcases Nat.lt_or_ge k M.1.length with hk | hk
    · rw [List.getElem?_append_left hk] at hq
      exact o2 k q hq
    · rw [List.getElem?_append_right hk] at hq
      have hk2 : k - M.1.length = 0 := by
        rcases Nat.eq_zero_or_pos (k - M.1.length) with h0 | h0
        · exact h0
        · rw [List.getElem?_eq_none (by simp; omega)] at hq; cases hq
      rw [hk2] at hq
      cases hq
      exact ⟨fun h => by omega, fun h => absurd h hs⟩
  · simp only [am_new, List.length_append, List.length_singleton] at hk ⊢
    simp only [am_new, va_up] at hy
    by_cases hkl : k = M.1.length
    · rw [if_pos hkl] at hy; cases hy
    · rw [if_neg hkl] at hy
      have := o3 k j y (by omega) hy
      omega
theorem am_L_ad {ad ad' : Nat → Nat} {nL : Nat} {ls : List (Option am_V)} {ls' : Array Slot} {n : Nat} (h : am_L ad nL ls ls') (had : ∀ k, k < n → ad' k = ad k) (hb : ∀ i k : Nat, ls[i]? = some (some (Sum.inr k)) → k < n) : am_L ad' nL ls ls' := by
  refine ⟨h.1, h.2.1, h.2.2.1, fun i v hv => ?_⟩
  rw [h.2.2.2 i v hv]
  cases v with
  | inl x => rfl
  | inr k => show some (Slot.val (.ref (ad k))) = some (Slot.val (.ref (ad' k))); rw [had k (hb i k hv)]
theorem am_st_ad {ad ad' : Nat → Nat} {st : List am_V} {n : Nat} (had : ∀ k, k < n → ad' k = ad k) (hb : ∀ k : Nat, Sum.inr k ∈ st → k < n) : st.map (am_cv ad') = st.map (am_cv ad) := by
  apply List.map_congr_left
  intro v hv
  cases v with
  | inl x => rfl
  | inr k => show Value.ref (ad' k) = Value.ref (ad k); rw [had k (hb k hv)]
theorem am_ro_ad {s : State} {A : Nat → Prop} {ad ad' : Nat → Nat} {M M' : am_M} (h : am_ro s A ad M) (had : ∀ j, j < 4 → ad' j = ad j) (hM : ∀ j, j < 4 → M'.2.1 j = M.2.1 j ∧ M'.1[j]? = M.1[j]?) : am_ro s A ad' M' := by
  obtain ⟨r1, r2, r3, r4⟩ := h
  refine ⟨fun j n hj hn => ?_, by rw [had 0 (by omega)]; exact r2, by rw [had 1 (by omega)]; exact r3, by rw [had 2 (by omega)]; exact r4⟩
  rw [had j hj, (hM j hj).1]
  exact r1 j n hj (by rw [← (hM j hj).2]; exact hn)
theorem am_new_ro {M : am_M} {sh : Nat × Nat} (h4 : 4 ≤ M.1.length) : ∀ j, j < 4 → (am_new M sh).2.1 j = M.2.1 j ∧ (am_new M sh).1[j]? = M.1[j]? := fun j hj => ⟨by simp only [am_new, va_up]; rw [if_neg (by omega)], by simp only [am_new]; rw [List.getElem?_append_left (by omega)]⟩
/-- what holds behind the making of a cell -/
theorem am_made {s : State} {A : Nat → Prop} {D : va_G} {cA : Nat → ClassId} {ad : Nat → Nat} {M : am_M} {H H1 : Heap} {locs : List Loc} {sh : Nat × Nat} {q : Nat} {e : va_E} (hH : am_H s A D cA ad M H locs) (hs : sh.1 ≠ 4) (he : ∀ ad' : Nat → Nat, am_ent cA ad' (am_new M sh) M.1.length sh = e) (hP : va_P D vwCl (am_ws cA ad M ++ [(q, e)]) H1) (hD : va_D A (am_ws cA ad M ++ [(q, e)])) (hS : va_S A s.heap H1 locs) :
    ∃ ad' : Nat → Nat, (∀ k, k < M.1.length → ad' k = ad k) ∧ ad' M.1.length = q ∧ am_H s A D cA ad' (am_new M sh) H1 locs := by
  obtain ⟨ho, hr, -, -, -⟩ := hH
  have had : ∀ k, k < M.1.length → (fun k => if k = M.1.length then q else ad k) k = ad k := fun k hk => by show (if k = M.1.length then q else ad k) = ad k; rw [if_neg (by omega)]
  have hq : (fun k => if k = M.1.length then q else ad k) M.1.length = q := by show (if M.1.length = M.1.length then q else _) = q; rw [if_pos rfl]
  have e1 := am_ws_new (cA := cA) (M := M) (sh := sh) ho.1 had hq (fun k j y h1 h2 => ho.2.2 k j y h1 h2) (he _)
  exact ⟨_, had, hq, am_ok_new ho sh hs, am_ro_ad hr (fun j hj => had j (by have := ho.1; omega)) (am_new_ro ho.1), by rw [e1]; exact hP, by rw [e1]; exact hD, hS⟩
theorem am_sub_new {R : Room} {M0 M : am_M} {ad0 ad ad' : Nat → Nat} {sh : Nat × Nat} (h : am_sub R M0 ad0 M ad) (h4 : 4 ≤ M.1.length) (had : ∀ k, k < M.1.length → ad' k = ad k) (h1 : M.1.length + 1 ≤ M0.1.length + R.cells) (h2 : am_sz M.1 + am_sz1 sh ≤ am_sz M0.1 + R.slots) : am_sub R M0 ad0 (am_new M sh) ad' := by
  obtain ⟨g1, g2, g3, g4, g5, g6⟩ := h
  have e1 : (am_new M sh).1.length = M.1.length + 1 := by simp [am_new]
  have e2 : am_sz (am_new M sh).1 = am_sz M.1 + am_sz1 sh := am_sz_app _ _
  refine ⟨by omega, by omega, by omega, by omega, fun j hj => ?_, fun k hk => by rw [had k (by omega), g6 k hk]⟩
  rw [(am_new_ro h4 j hj).1, (am_new_ro h4 j hj).2]
  exact g5 j hj

theorem as_new {G : am_G} {cc : ByteArray} {own nm : String} {R0 : Room} {ret0 : Option FieldType} {nL0 bc bs : Nat} {f0 : Bool} {pc : Nat} {k : am_T} (X : am_Cx G cc own nm R0 ret0 nL0 bc bs f0) {ci N ix : Nat} {Cn : String} {Tf : u_T} (hc : vwCl[ci]? = some (Cn, Tf, N)) (hN : am_nf ci = N) (hu : ∀ w ∈ u_ws Cn Tf N, w ∈ am_W) (ty0 : Nat → FieldType) (hty : ∀ k, k < N → parseFieldDescriptor (Tf k).2.2.1 = some (ty0 k)) (hdv : ∀ j, j < N → defaultValue (ty0 j) = vp_V ((List.range (am_nf ci)).map (fun j => bif am_fi ci j then Value.int 0 else .null)) j) (hw : Cond.classLink own ix Cn ∈ am_W) (hw2 : Cond.instantiable Cn N ∈ am_W) (hw3 : Cond.initialized Cn ∈ am_W) (d : decode cc pc = .ok (.new ix, 3)) (hk : am_S G (pc + 3) k) : am_S G pc (tb_new bc bs ci k) := by
  obtain ⟨p, l, e, R, s, m, args, below, meth, c, Q, D, cA, A, nL, M0, ad0, ret, fz⟩ := G
  obtain ⟨hx, hb, hml, hown, hts, hK, hA, hlk, hnm, hR, hnL, hrt, hbc, hbs, hfz, hne⟩ := X
  subst hR hnL hrt hfz
  intro K Q' ls st M hKK hQ hT
  obtain ⟨⟨hb1, hb2, ha1, ha2⟩, h2⟩ := hT
  intro ad H locs ls' hH hsub hL
  have g1 := hsub.1
  have g2 := hsub.2.1
  have hz : am_sz1 (0, ci) = N := hN
  refine va_new (D := D) (ci := ci) (fs := (List.range (am_nf ci)).map (fun j => bif am_fi ci j then Value.int 0 else .null)) hx hb hts hu ty0 hty hown (hts _ hw) (hts _ hw2) (hts _ hw3) hK hH.2.2.1 hH.2.2.2.1 hH.2.2.2.2 hA hc hdv (by omega) (by omega) d (fun q H1 hP1 hD1 hS1 => ?_)
  obtain ⟨ad', had, hq, hH'⟩ := am_made (sh := (0, ci)) hH (by decide : (0 : Nat) ≠ 4) (fun ad' => by
    show Sum.inr (ci, (List.range (am_nf ci)).map (am_fv ad' (am_new M (0, ci)) M.1.length ci)) = _
    congr 2
    apply List.map_congr_left
    intro j _
    simp only [am_fv, am_new, va_up, if_true, Option.map_none, va_rf]) hP1 hD1 hS1
  have e1 : (am_new M (0, ci)).1.length = M.1.length + 1 := by simp [am_new]
  have e2 : am_sz (am_new M (0, ci)).1 = am_sz M.1 + am_sz1 (0, ci) := am_sz_app _ _
  refine W.cs (cells' := (am_new M (0, ci)).1.length - M0.1.length) (slots' := am_sz (am_new M (0, ci)).1 - am_sz M0.1) (by omega) (by omega) ?_
  refine W.eq (g2 := F0 m (pc + 3) ls' ((Sum.inr M.1.length :: st).map (am_cv ad'))) ?_ (hk K Q' _ _ _ hKK hQ h2 ad' H1 locs ls' hH' (am_sub_new hsub hH.1.1 had (by omega) (by omega)) (am_L_ad hL had ha1))
  show F0 m (pc + 3) ls' (.ref q :: st.map (am_cv ad)) = F0 m (pc + 3) ls' (.ref (ad' M.1.length) :: st.map (am_cv ad'))
  rw [hq, am_st_ad had ha2]

theorem as_newa1 {G : am_G} {cc : ByteArray} {own nm : String} {R0 : Room} {ret0 : Option FieldType} {nL0 bc bs : Nat} {f0 : Bool} {pc : Nat} {k : am_T} (X : am_Cx G cc own nm R0 ret0 nL0 bc bs f0) (hw : Cond.arrayClass .int ∈ am_W) (d : decode cc pc = .ok (.newarray .int, 2)) (hk : am_S G (pc + 2) k) : am_S G pc (tb_newa bc bs 1 k) := by
  obtain ⟨p, l, e, R, s, m, args, below, meth, c, Q, D, cA, A, nL, M0, ad0, ret, fz⟩ := G
  obtain ⟨hx, hb, hml, hown, hts, hK, hA, hlk, hnm, hR, hnL, hrt, hbc, hbs, hfz, hne⟩ := X
  subst hR hnL hrt hfz
  intro K Q' ls st M hKK hQ hT
  unfold tb_newa at hT
  split at hT
  · next n r =>
    obtain ⟨⟨hn0, hn1, hb1, hb2, ha1, ha2⟩, h2⟩ := hT
    intro ad H locs ls' hH hsub hL
    have g1 := hsub.1
    have g2 := hsub.2.1
    have hz : am_sz1 (1, n.toNatClampNeg) = n.toNatClampNeg := rfl
    refine va_newa (D := D) (atype := .int) (ty := .int) (N' := n.toNatClampNeg) (a0 := (n.toNatClampNeg, .inl (fun _ => 0))) hx hb (hts _ hw) rfl hK hH.2.2.1 hH.2.2.2.1 hH.2.2.2.2 hA (fun _ => rfl) hn0 rfl (by show n.toNatClampNeg * 4 ≤ _; omega) (by omega) (by omega) d (fun q cB H1 hK1 hP1 hD1 hS1 => ?_)
    have hcc : cB = cA 0 := by
      have a1 : s.vm.findClass _ = some cB := (hK1.2 3 _ rfl).2
      have a2 : s.vm.findClass _ = some (cA 0) := (hK.2 0 _ rfl).2
      exact Option.some.inj (a1.symm.trans a2)
    subst hcc
    obtain ⟨ad', had, hq, hH'⟩ := am_made (sh := (1, n.toNatClampNeg)) hH (by decide : (1 : Nat) ≠ 4) (fun ad' => by
      show Sum.inl (cA 0, n.toNatClampNeg, Sum.inl ((am_new M (1, n.toNatClampNeg)).2.1 M.1.length)) = _
      simp only [am_new, va_up, if_true]) hP1 hD1 hS1
    have e1 : (am_new M (1, n.toNatClampNeg)).1.length = M.1.length + 1 := by simp [am_new]
    have e2 : am_sz (am_new M (1, n.toNatClampNeg)).1 = am_sz M.1 + am_sz1 (1, n.toNatClampNeg) := am_sz_app _ _
    refine W.cs (cells' := (am_new M (1, n.toNatClampNeg)).1.length - M0.1.length) (slots' := am_sz (am_new M (1, n.toNatClampNeg)).1 - am_sz M0.1) (by omega) (by omega) ?_
    refine W.eq (g2 := F0 m (pc + 2) ls' ((Sum.inr M.1.length :: r).map (am_cv ad'))) ?_ (hk K Q' _ _ _ hKK hQ h2 ad' H1 locs ls' hH' (am_sub_new hsub hH.1.1 had (by omega) (by omega)) (am_L_ad hL had ha1))
    show F0 m (pc + 2) ls' (.ref q :: r.map (am_cv ad)) = F0 m (pc + 2) ls' (.ref (ad' M.1.length) :: r.map (am_cv ad'))
    rw [hq, am_st_ad had ha2]
  · exact hT.elim

theorem as_newa2 {G : am_G} {cc : ByteArray} {own nm : String} {R0 : Room} {ret0 : Option FieldType} {nL0 bc bs : Nat} {f0 : Bool} {pc : Nat} {k : am_T} (X : am_Cx G cc own nm R0 ret0 nL0 bc bs f0) (hw : Cond.arrayClass .char ∈ am_W) (d : decode cc pc = .ok (.newarray .char, 2)) (hk : am_S G (pc + 2) k) : am_S G pc (tb_newa bc bs 2 k) := by
  obtain ⟨p, l, e, R, s, m, args, below, meth, c, Q, D, cA, A, nL, M0, ad0, ret, fz⟩ := G
  obtain ⟨hx, hb, hml, hown, hts, hK, hA, hlk, hnm, hR, hnL, hrt, hbc, hbs, hfz, hne⟩ := X
  subst hR hnL hrt hfz
  intro K Q' ls st M hKK hQ hT
  unfold tb_newa at hT
  split at hT
  · next n r =>
    obtain ⟨⟨hn0, hn1, hb1, hb2, ha1, ha2⟩, h2⟩ := hT
    intro ad H locs ls' hH hsub hL
    have g1 := hsub.1
    have g2 := hsub.2.1
    have hz : am_sz1 (2, n.toNatClampNeg) = n.toNatClampNeg := rfl
    refine va_newa (D := D) (atype := .char) (ty := .char) (N' := n.toNatClampNeg) (a0 := (n.toNatClampNeg, .inl (fun _ => 0))) hx hb (hts _ hw) rfl hK hH.2.2.1 hH.2.2.2.1 hH.2.2.2.2 hA (fun _ => rfl) hn0 rfl (by show n.toNatClampNeg * 2 ≤ _; omega) (by omega) (by omega) d (fun q cB H1 hK1 hP1 hD1 hS1 => ?_)
    have hcc : cB = cA 1 := by
      have a1 : s.vm.findClass _ = some cB := (hK1.2 3 _ rfl).2
      have a2 : s.vm.findClass _ = some (cA 1) := (hK.2 1 _ rfl).2
      exact Option.some.inj (a1.symm.trans a2)
    subst hcc
    obtain ⟨ad', had, hq, hH'⟩ := am_made (sh := (2, n.toNatClampNeg)) hH (by decide : (2 : Nat) ≠ 4) (fun ad' => by
      show Sum.inl (cA 1, n.toNatClampNeg, Sum.inl ((am_new M (2, n.toNatClampNeg)).2.1 M.1.length)) = _
      simp only [am_new, va_up, if_true]) hP1 hD1 hS1
    have e1 : (am_new M (2, n.toNatClampNeg)).1.length = M.1.length + 1 := by simp [am_new]
    have e2 : am_sz (am_new M (2, n.toNatClampNeg)).1 = am_sz M.1 + am_sz1 (2, n.toNatClampNeg) := am_sz_app _ _
    refine W.cs (cells' := (am_new M (2, n.toNatClampNeg)).1.length - M0.1.length) (slots' := am_sz (am_new M (2, n.toNatClampNeg)).1 - am_sz M0.1) (by omega) (by omega) ?_
    refine W.eq (g2 := F0 m (pc + 2) ls' ((Sum.inr M.1.length :: r).map (am_cv ad'))) ?_ (hk K Q' _ _ _ hKK hQ h2 ad' H1 locs ls' hH' (am_sub_new hsub hH.1.1 had (by omega) (by omega)) (am_L_ad hL had ha1))
    show F0 m (pc + 2) ls' (.ref q :: r.map (am_cv ad)) = F0 m (pc + 2) ls' (.ref (ad' M.1.length) :: r.map (am_cv ad'))
    rw [hq, am_st_ad had ha2]
  · exact hT.elim

theorem as_newa3 {G : am_G} {cc : ByteArray} {own nm : String} {R0 : Room} {ret0 : Option FieldType} {nL0 bc bs : Nat} {f0 : Bool} {pc : Nat} {k : am_T} (X : am_Cx G cc own nm R0 ret0 nL0 bc bs f0) {ix : Nat} (hw : Cond.classLink own ix RX1 ∈ am_W) (d : decode cc pc = .ok (.anewarray ix, 3)) (hk : am_S G (pc + 3) k) : am_S G pc (tb_newa bc bs 3 k) := by
  obtain ⟨p, l, e, R, s, m, args, below, meth, c, Q, D, cA, A, nL, M0, ad0, ret, fz⟩ := G
  obtain ⟨hx, hb, hml, hown, hts, hK, hA, hlk, hnm, hR, hnL, hrt, hbc, hbs, hfz, hne⟩ := X
  subst hR hnL hrt hfz
  intro K Q' ls st M hKK hQ hT
  unfold tb_newa at hT
  split at hT
  · next n r =>
    obtain ⟨⟨hn0, hn1, hb1, hb2, ha1, ha2⟩, h2⟩ := hT
    intro ad H locs ls' hH hsub hL
    have g1 := hsub.1
    have g2 := hsub.2.1
    have hz : am_sz1 (3, n.toNatClampNeg) = n.toNatClampNeg := rfl
    refine va_newq (D := D) (N' := n.toNatClampNeg) hx hb hown (hts _ hw) hne.2 hK hH.2.2.1 hH.2.2.2.1 hH.2.2.2.2 hA hn0 rfl (by omega) (by omega) (by omega) d (fun q cB H1 hK1 hP1 hD1 hS1 => ?_)
    have hcc : cB = cA 2 := by
      obtain ⟨k1, c1, -, -, a1, a2⟩ := (hK1.2 3 _ rfl).2
      obtain ⟨k2, c2, -, -, a3, a4⟩ := (hK.2 2 _ rfl).2
      exact Option.some.inj (a2.symm.trans a4)
    subst hcc
    obtain ⟨ad', had, hq, hH'⟩ := am_made (sh := (3, n.toNatClampNeg)) hH (by decide : (3 : Nat) ≠ 4) (fun ad' => by
      show Sum.inl (cA 2, n.toNatClampNeg, Sum.inr (Sum.inr (Sum.inr (Sum.inr (fun j => ((am_new M (3, n.toNatClampNeg)).2.2 M.1.length j).map ad'))))) = _
      simp only [am_new, va_up, if_true, Option.map_none]) hP1 hD1 hS1
    have e1 : (am_new M (3, n.toNatClampNeg)).1.length = M.1.length + 1 := by simp [am_new]
    have e2 : am_sz (am_new M (3, n.toNatClampNeg)).1 = am_sz M.1 + am_sz1 (3, n.toNatClampNeg) := am_sz_app _ _
    refine W.cs (cells' := (am_new M (3, n.toNatClampNeg)).1.length - M0.1.length) (slots' := am_sz (am_new M (3, n.toNatClampNeg)).1 - am_sz M0.1) (by omega) (by omega) ?_
    refine W.eq (g2 := F0 m (pc + 3) ls' ((Sum.inr M.1.length :: r).map (am_cv ad'))) ?_ (hk K Q' _ _ _ hKK hQ h2 ad' H1 locs ls' hH' (am_sub_new hsub hH.1.1 had (by omega) (by omega)) (am_L_ad hL had ha1))
    show F0 m (pc + 3) ls' (.ref q :: r.map (am_cv ad)) = F0 m (pc + 3) ls' (.ref (ad' M.1.length) :: r.map (am_cv ad'))
    rw [hq, am_st_ad had ha2]
  · exact hT.elim

/-! ===== contracts ===== -/
def am_Pre (D : va_G) (cA : Nat → ClassId) (ad : Nat → Nat) (M : am_M) (sz : Nat) (U : State) : Prop := U.heap.size = sz ∧ am_ok M ∧ am_ro U (va_A (am_ws cA ad M) sz) ad M ∧ va_P D vwCl (am_ws cA ad M) U.heap ∧ va_K D vwCl (am_tys cA) U ∧ va_D (fun _ => True) (am_ws cA ad M) ∧ am_nest U
def am_Post (D : va_G) (cA : Nat → ClassId) (ad : Nat → Nat) (M : am_M) (sz : Nat) (rm : Room) (Q : am_R) : Array Value → State → Outcome → State → Prop := fun _ st oc t => (∃ (r : Option am_V) (M' : am_M) (ad' : Nat → Nat), oc = .returned (r.map (am_cv ad')) ∧ Q r M' ∧ (∀ k, k < M.1.length → ad' k = ad k) ∧ M'.1.length = M.1.length + rm.cells ∧ am_sz M'.1 = am_sz M.1 + rm.slots ∧ am_rin r M' ∧ am_ok M' ∧ (∀ j, j < 4 → M'.2.1 j = M.2.1 j ∧ M'.1[j]? = M.1[j]?) ∧ va_P D vwCl (am_ws cA ad' M') t.heap ∧ va_D (va_A (am_ws cA ad M) sz) (am_ws cA ad' M')) ∧ va_F (va_A (am_ws cA ad M) sz) st t
def am_Ct (y : MethodName) (cc : ByteArray) (maxL : Nat) (ret : Option FieldType) (rm : Room) (sp : am_sp) : Prop := ∀ (l : Launch) (D : va_G) (cA : Nat → ClassId) (ad : Nat → Nat) (sz : Nat) (as : List am_V) (M : am_M) (Q : am_R), sp as M Q → Met l y (Cond.code y cc maxL ret :: am_W) rm (va_Pc (as.map (am_cv ad)) (am_Pre D cA ad M sz)) (am_Post D cA ad M sz rm Q) rm.cells rm.slots (va_A (am_ws cA ad M) sz)
theorem am_ro.moved {u U : State} {A : Nat → Prop} {ad : Nat → Nat} {M : am_M} (hvm : u.vm.Alike U.vm) (hh : U.heap = u.heap) (h : am_ro u A ad M) : am_ro U A ad M := by
  obtain ⟨h1, h2, h3, h4⟩ := h
  refine ⟨fun j n hj hn => ?_, ?_, ?_, ?_⟩
  · rw [hh]; exact va_T.moved hvm (h1 j n hj hn)
  · rw [hh]; exact va_Z.moved hvm h2
  · rw [hh]; exact va_Z.moved hvm h3
  · rw [hh]; exact va_Z.moved hvm h4
theorem am_Pre.blind {D : va_G} {cA : Nat → ClassId} {ad : Nat → Nat} {M : am_M} {sz : Nat} {av : List Value} : FrameBlind (va_Pc av (am_Pre D cA ad M sz)) := by
  intro a U g mk q
  obtain ⟨q0, q1, q2, q3, q4, q5, q6, q7⟩ := q
  exact ⟨q0, q1, q2, am_ro.moved (u := U) (U := U.calling g mk a) (Vm.Alike.refl U.vm) rfl q3, q4, va_K.moved (u := U) (U := U.calling g mk a) (Vm.Alike.refl U.vm) q5, q6, am_nest.same (u := U) (U := U.calling g mk a) rfl q7⟩
theorem am_free {s : State} {A : Nat → Prop} {D : va_G} {cA : Nat → ClassId} {ad : Nat → Nat} {M : am_M} {H : Heap} {locs : List Loc} (hH : am_H s A D cA ad M H locs) (hA : ∀ q, s.heap.size ≤ q → A q) : ∀ q, va_A (am_ws cA ad M) H.size q → A q := by
  intro q h
  rcases h with ⟨k, e, h⟩ | h
  · exact hH.2.2.2.1.2 k _ h
  · exact hA q (Nat.le_trans hH.2.2.2.2.1 h)
/-- a caller's cells are a callee's -/
theorem am_pre {s : State} {A : Nat → Prop} {D : va_G} {cA : Nat → ClassId} {ad : Nat → Nat} {M : am_M} {H : Heap} {locs : List Loc} (hH : am_H s A D cA ad M H locs) (hA : ∀ q, s.heap.size ≤ q → A q) (hK : va_K D vwCl (am_tys cA) s) (hne : am_nest s) {U : State} (hU : U.heap = H) (hW : s.WarmedH U.vm) : am_Pre D cA ad M H.size U := by
  have hf := am_free hH hA
  obtain ⟨ho, ⟨r1, r2, r3, r4⟩, hP, hD, hS⟩ := hH
  have hkp : ∀ a, a < s.heap.size → ¬ A a → U.heap[a]? = s.heap[a]? := fun a h1 h2 => by rw [hU]; exact hS.2.1 a h1 h2
  have hz : ∀ {C n d : String} {v : Value}, va_Z C n d v A s s.heap → va_Z C n d v (va_A (am_ws cA ad M) H.size) U U.heap := fun h => va_Z.narrow (va_Z.moved hW.alike (va_Z.kept (H1 := U.heap) h hkp)) hf
  exact ⟨by rw [hU], ho, ⟨fun j n hj hn => va_T.narrow (va_T.moved hW.alike (va_T.kept (H1 := U.heap) (r1 j n hj hn) hkp)) hf, hz r2, hz r3, hz r4⟩, by rw [hU]; exact hP, va_K.moved hW.alike hK, hD.weaken (fun _ _ _ _ => trivial), am_nest.warm hW hne⟩
theorem am_after {p : Program} {l : Launch} {e : Env} {R : Room} {s : State} {m : MethodId} {args : Array Value} {below : List Frame} {meth : Method} {c : Code} {H : Heap} {locs : List Loc} {cells slots : Nat} {Q : State → Prop} {pc : Nat} {ls : Array Slot} {rest st0 : List Value} {a : Array Value} {A : Nat → Prop} {rm : Room} {D : va_G} {cA : Nat → ClassId} {ad : Nat → Nat} {M : am_M} {Qx : am_R} (hr : va_Run p l e R s m args below meth c H locs cells slots rm.cells rm.slots (F0 m pc ls st0) rest (am_Post D cA ad M H.size rm Qx a) (va_A (am_ws cA ad M) H.size)) (hS : va_S A s.heap H locs) (hA : ∀ q, va_A (am_ws cA ad M) H.size q → A q)
    (kk : ∀ (r : Option am_V) (M' : am_M) (ad' : Nat → Nat) (H1 : Heap) (locs1 : List Loc), Qx r M' → (∀ k, k < M.1.length → ad' k = ad k) → M'.1.length = M.1.length + rm.cells → am_sz M'.1 = am_sz M.1 + rm.slots → am_rin r M' → am_ok M' → (∀ j, j < 4 → M'.2.1 j = M.2.1 j ∧ M'.1[j]? = M.1[j]?) → va_P D vwCl (am_ws cA ad' M') H1 → va_D A (am_ws cA ad' M') → va_S A s.heap H1 locs1 → W p l e R s m args below meth c H1 locs1 (cells + rm.cells) (slots + rm.slots) Q (F0 m (pc + 3) ls ((r.map (am_cv ad')).toList ++ rest))) : W p l e R s m args below meth c H locs cells slots Q (F0 m pc ls st0) := by
  intro T hT X
  obtain ⟨v, st₀, t, T', L, h0, X', hL, e1, e2, ⟨⟨r, M', ad', hv, hq, q1, q2, q3, q4, q5, q6, q7, q8⟩, hz, hk⟩, st⟩ := hr T hT X
  cases hv
  rw [h0] at hz hk
  obtain ⟨t2, a1, b1⟩ := kk r M' ad' T'.heap (locs ++ L) hq q1 q2 q3 q4 q5 q6 (by rw [e1]; exact q7) (q8.weaken (fun _ q _ h => hA q.1 h))
    ⟨Nat.le_trans hS.1 (by rw [e1]; exact hz), fun q h1 h2 => by rw [e1, hk q (Nat.lt_of_lt_of_le h1 hS.1) (fun z => h2 (hA q z))]; exact hS.2.1 q h1 h2, fun q hq => by
      rcases List.mem_append.mp hq with h | h
      · exact hS.2.2 q h
      · exact hA _ (hL q h)⟩ T' rfl X'
  exact ⟨t2, st t2 a1, b1⟩
theorem am_ws_ad {cA : Nat → ClassId} {ad ad' : Nat → Nat} {M : am_M} (ho : am_ok M) (had : ∀ k, k < M.1.length → ad' k = ad k) : am_ws cA ad' M = am_ws cA ad M := by
  unfold am_ws
  congr 1
  apply List.ext_getElem?
  intro i
  simp only [List.getElem?_mapIdx]
  cases hj : M.1[i]? with
  | none => rfl
  | some z =>
    simp only [Option.map_some]
    have hlt := (List.getElem?_eq_some_iff.mp hj).1
    have h1 : ∀ ci, am_fv ad' M i ci = am_fv ad M i ci := fun ci => by
      funext j
      simp only [am_fv]
      cases am_fi ci j with
      | true => rfl
      | false =>
        simp only [cond_false]
        cases hr : M.2.2 i j with
        | none => rfl
        | some y => simp only [Option.map_some]; rw [had y (ho.2.2 _ _ _ hlt hr)]
    have h2 : (fun j => (M.2.2 i j).map ad') = (fun j => (M.2.2 i j).map ad) := by
      funext j
      cases hr : M.2.2 i j with
      | none => rfl
      | some y => simp only [Option.map_some]; rw [had y (ho.2.2 _ _ _ hlt hr)]
    have h5 : am_ent cA ad' M i z = am_ent cA ad M i z := by
      unfold am_ent
      rw [h1, h2]
    exact congrArg some (Prod.ext (had _ hlt) h5)
/-- behind a call that makes nothing -/
theorem am_go0 {p : Program} {l : Launch} {e : Env} {R : Room} {s : State} {m : MethodId} {args : Array Value} {below : List Frame} {meth : Method} {c : Code} {Q : State → Prop} {D : va_G} {cA : Nat → ClassId} {A : Nat → Prop} {nL : Nat} {M0 : am_M} {ad0 : Nat → Nat} {ret : Option FieldType} {fz : Bool} {ad : Nat → Nat} {M : am_M} {H : Heap} {locs : List Loc} {pc : Nat} {ls : List (Option am_V)} {ls' : Array Slot} {rest : List am_V} {st0 : List Value} {a : Array Value} {rm : Room} {Qx : am_R} (hc : rm.cells = 0) (hs : rm.slots = 0) (hA : ∀ q, s.heap.size ≤ q → A q) (hH : am_H s A D cA ad M H locs) (hsub : am_sub R M0 ad0 M ad) (hL : am_L ad nL ls ls')
    (hr : va_Run p l e R s m args below meth c H locs (M.1.length - M0.1.length) (am_sz M.1 - am_sz M0.1) rm.cells rm.slots (F0 m pc ls' st0) (rest.map (am_cv ad)) (am_Post D cA ad M H.size rm Qx a) (va_A (am_ws cA ad M) H.size))
    (hk : ∀ r M', Qx r M' → am_AW (p, l, e, R, s, m, args, below, meth, c, Q, D, cA, A, nL, M0, ad0, ret, fz) (pc + 3) ls (r.toList ++ rest) M') : W p l e R s m args below meth c H locs (M.1.length - M0.1.length) (am_sz M.1 - am_sz M0.1) Q (F0 m pc ls' st0) := by
  refine am_after hr hH.2.2.2.2 (am_free hH hA) (fun r M' ad' H1 locs1 hq q1 q2 q3 q4 q5 q6 q7 q8 q9 => ?_)
  rw [hc] at q2
  rw [hs] at q3
  have had : ∀ k, k < M'.1.length → ad' k = ad k := fun k hk => q1 k (by omega)
  have e1 := am_ws_ad (cA := cA) q5 had
  rw [e1] at q7 q8
  obtain ⟨g1, g2, g3, g4, g5, g6⟩ := hsub
  have hro : am_ro s A ad M' := am_ro_ad hH.2.1 (fun _ _ => rfl) q6
  refine W.cs (cells' := M'.1.length - M0.1.length) (slots' := am_sz M'.1 - am_sz M0.1) (by omega) (by omega) ?_
  refine W.eq (g2 := F0 m (pc + 3) ls' ((r.toList ++ rest).map (am_cv ad))) ?_ (hk r M' hq ad H1 locs1 ls' ⟨q5, hro, q7, q8, q9⟩ ⟨by omega, by omega, by omega, by omega, fun j hj => by rw [(q6 j hj).1, (q6 j hj).2]; exact g5 j hj, g6⟩ hL)
  congr 1
  rw [List.map_append]
  congr 1
  match r, q4 with
  | none, _ => rfl
  | some (.inl x), _ => rfl
  | some (.inr x), h => show [Value.ref (ad' x)] = [Value.ref (ad x)]; rw [had x h]
/-- behind a constructor's call -/
theorem am_goA {p : Program} {l : Launch} {e : Env} {R : Room} {s : State} {m : MethodId} {args : Array Value} {below : List Frame} {meth : Method} {c : Code} {Q : State → Prop} {D : va_G} {cA : Nat → ClassId} {A : Nat → Prop} {nL : Nat} {M0 : am_M} {ad0 : Nat → Nat} {ret : Option FieldType} {fz : Bool} {ad : Nat → Nat} {M : am_M} {H : Heap} {locs : List Loc} {pc : Nat} {ls : List (Option am_V)} {ls' : Array Slot} {rest : List am_V} {st0 : List Value} {a : Array Value} {rm : Room} {Qx : am_R} (hc : M.1.length + rm.cells ≤ M0.1.length + R.cells) (hs : am_sz M.1 + rm.slots ≤ am_sz M0.1 + R.slots) (hall : am_all M ls rest) (hA : ∀ q, s.heap.size ≤ q → A q) (hH : am_H s A D cA ad M H locs) (hsub : am_sub R M0 ad0 M ad) (hL : am_L ad nL ls ls')
    (hr : va_Run p l e R s m args below meth c H locs (M.1.length - M0.1.length) (am_sz M.1 - am_sz M0.1) rm.cells rm.slots (F0 m pc ls' st0) (rest.map (am_cv ad)) (am_Post D cA ad M H.size rm Qx a) (va_A (am_ws cA ad M) H.size))
    (hk : ∀ r M', Qx r M' → am_AW (p, l, e, R, s, m, args, below, meth, c, Q, D, cA, A, nL, M0, ad0, ret, fz) (pc + 3) ls (r.toList ++ rest) M') : W p l e R s m args below meth c H locs (M.1.length - M0.1.length) (am_sz M.1 - am_sz M0.1) Q (F0 m pc ls' st0) := by
  refine am_after hr hH.2.2.2.2 (am_free hH hA) (fun r M' ad' H1 locs1 hq q1 q2 q3 q4 q5 q6 q7 q8 q9 => ?_)
  obtain ⟨g1, g2, g3, g4, g5, g6⟩ := hsub
  have hro : am_ro s A ad' M' := am_ro_ad hH.2.1 (fun j hj => q1 j (by have := hH.1.1; omega)) q6
  refine W.cs (cells' := M'.1.length - M0.1.length) (slots' := am_sz M'.1 - am_sz M0.1) (by omega) (by omega) ?_
  refine W.eq (g2 := F0 m (pc + 3) ls' ((r.toList ++ rest).map (am_cv ad'))) ?_ (hk r M' hq ad' H1 locs1 ls' ⟨q5, hro, q7, q8, q9⟩ ⟨by omega, by omega, by omega, by omega, fun j hj => by rw [(q6 j hj).1, (q6 j hj).2]; exact g5 j hj, fun k hk => by rw [q1 k (by omega), g6 k hk]⟩ (am_L_ad hL q1 hall.1))
  congr 1
  rw [List.map_append, am_st_ad q1 hall.2]
  congr 1
  cases r <;> rfl
theorem am_goodc {y : MethodName} {cc : ByteArray} {maxL : Nat} {ret : Option FieldType} (h : Cond.code y cc maxL ret ∈ am_W) : GoodIn am_W (Cond.code y cc maxL ret :: am_W) := fun w hw => (List.mem_cons.mp hw).elim (fun e => by rw [e]; exact am_W_good _ h) (am_W_good w)
theorem am_take (st : List am_V) (n : Nat) {b : Nat} {as : List am_V} (h : (st.take n).reverse = .inr b :: as) : st = as.reverse ++ .inr b :: st.drop n := by
  have h2 : st.take n = (Sum.inr b :: as).reverse := by rw [← h, List.reverse_reverse]
  have h3 := List.take_append_drop n st
  rw [h2, List.reverse_cons, List.append_assoc] at h3
  exact h3.symm

theorem as_callV {G : am_G} {cc : ByteArray} {own nm : String} {R0 : Room} {ret0 : Option FieldType} {nL0 bc bs : Nat} {f0 : Bool} {pc : Nat} {k : am_T} (X : am_Cx G cc own nm R0 ret0 nL0 bc bs f0) {y : MethodName} {cy : ByteArray} {maxL ix np : Nat} {rty : Option FieldType} {rm : Room} {sp : am_sp} (hCt : am_Ct y cy maxL rty rm sp) {ci : Nat} {Cn : vw_C} (hci : vwCl[ci]? = some Cn) (hrc : rm.cells = 0 ∧ rm.slots = 0) (wl : Cond.methodLink own ix y ∈ am_W) (wn : Cond.instanceMethod y ∈ am_W) (ws : Cond.selects Cn.1 y y ∈ am_W) (wc : Cond.code y cy maxL rty ∈ am_W) (wi : Cond.initialized y.cls ∈ am_W) (hd : y.cls ≠ "java/lang/invoke/MethodHandle" ∧ y.cls ≠ "java/lang/invoke/VarHandle" ∧ (parseMethodDescriptor y.desc).map (fun d => d.parameters.length) = some np) (hRm : rm.frames + 1 ≤ R0.frames ∧ 8 + (maxL + 11) + rm.locals ≤ R0.locals) (d : decode cc pc = .ok (.invokevirtual ix, 3)) (hk : am_S G (pc + 3) k) : am_S G pc (tb_callV ci sp (np + 1) k) := by
  obtain ⟨p, l, e, R, s, m, args, below, meth, c, Q, D, cA, A, nL, M0, ad0, ret, fz⟩ := G
  obtain ⟨hx, hb, hml, hown, hts, hK, hA, hlk, hnm, hR, hnL, hrt, hbc, hbs, hfz, hne⟩ := X
  subst hR hnL hrt hfz
  intro K Q' ls st M hKK hQ hT
  unfold tb_callV at hT
  split at hT
  · next b as has =>
    obtain ⟨⟨hn, hr8, hb0⟩, h2⟩ := hT
    intro ad H locs ls' hH hsub hL
    have hsm := am_sum ad (st.drop (np + 1))
    have h4 := am_4 hH.1 hb0 (by decide : (0 : Nat) ≠ 4)
    have hM := hCt l D cA ad H.size _ M _ h2
    have hlen : as.length = np := by
      have := congrArg List.length has
      simp at this
      omega
    have hst := congrArg (List.map (am_cv ad)) (am_take st _ has)
    rw [List.map_append, List.map_reverse, List.map_cons] at hst
    refine am_go0 hrc.1 hrc.2 hA hH hsub hL (va_runV (As := as.map (am_cv ad)) (b := ad b) ⟨hx, hb, hml, hown, hts⟩ hM ⟨callB_of np hts (am_goodc wc) rfl rfl rfl (hts _ wi) (hts _ wl) hd hRm, hts _ wn, hts _ ws⟩ ⟨am_Pre.blind, va_recv hK hH.2.2.1 (ci := ci) hci (am_ws_at hb0 h4), fun U hU hW => ⟨rfl, am_pre hH hA hK hne hU hW⟩⟩ rfl (by rw [List.length_map]; exact hlen) hL.1 hst (lv_room (by rw [hsm]; exact hr8)) d ⟨?_, ?_⟩) (fun r M' h => hk K Q' _ _ _ hKK hQ h)
    · have := hsub.1; have := hsub.2.2.1; have := hrc.1; omega
    · have := hsub.2.1; have := hsub.2.2.2.1; have := hrc.2; omega
  · exact hT.elim

theorem as_callS {G : am_G} {cc : ByteArray} {own nm : String} {R0 : Room} {ret0 : Option FieldType} {nL0 bc bs : Nat} {f0 : Bool} {pc : Nat} {k : am_T} (X : am_Cx G cc own nm R0 ret0 nL0 bc bs f0) {y : MethodName} {cy : ByteArray} {maxL ix np : Nat} {rty : Option FieldType} {rm : Room} {sp : am_sp} (hCt : am_Ct y cy maxL rty rm sp) (hrc : rm.cells = 0 ∧ rm.slots = 0) (wl : Cond.methodLink own ix y ∈ am_W) (wn : Cond.static y ∈ am_W) (wc : Cond.code y cy maxL rty ∈ am_W) (wi : Cond.initialized y.cls ∈ am_W) (hd : y.cls ≠ "java/lang/invoke/MethodHandle" ∧ y.cls ≠ "java/lang/invoke/VarHandle" ∧ (parseMethodDescriptor y.desc).map (fun d => d.parameters.length) = some np) (hRm : rm.frames + 1 ≤ R0.frames ∧ 8 + (maxL + 11) + rm.locals ≤ R0.locals) (d : decode cc pc = .ok (.invokestatic ix, 3)) (hk : am_S G (pc + 3) k) : am_S G pc (tb_callS sp np k) := by
  obtain ⟨p, l, e, R, s, m, args, below, meth, c, Q, D, cA, A, nL, M0, ad0, ret, fz⟩ := G
  obtain ⟨hx, hb, hml, hown, hts, hK, hA, hlk, hnm, hR, hnL, hrt, hbc, hbs, hfz, hne⟩ := X
  subst hR hnL hrt hfz
  intro K Q' ls st M hKK hQ hT
  obtain ⟨⟨hn, hr8⟩, h2⟩ := hT
  intro ad H locs ls' hH hsub hL
  have hsm := am_sum ad (st.drop np)
  have hM := hCt l D cA ad H.size _ M _ h2
  have hst : st.map (am_cv ad) = ((st.take np).reverse.map (am_cv ad)).reverse ++ (st.drop np).map (am_cv ad) := by
    rw [← List.map_reverse, List.reverse_reverse, ← List.map_append, List.take_append_drop]
  refine am_go0 hrc.1 hrc.2 hA hH hsub hL (va_runS (As := (st.take np).reverse.map (am_cv ad)) ⟨hx, hb, hml, hown, hts⟩ hM ⟨callB_of np hts (am_goodc wc) rfl rfl rfl (hts _ wi) (hts _ wl) hd hRm, hts _ wn⟩ ⟨am_Pre.blind, fun U hU hW => ⟨rfl, am_pre hH hA hK hne hU hW⟩⟩ rfl (by simp; omega) hL.1 hst (lv_room (by rw [hsm]; exact hr8)) d ⟨?_, ?_⟩) (fun r M' h => hk K Q' _ _ _ hKK hQ h)
  · have := hsub.1; have := hsub.2.2.1; have := hrc.1; omega
  · have := hsub.2.1; have := hsub.2.2.2.1; have := hrc.2; omega

theorem as_callSN {G : am_G} {cc : ByteArray} {own nm : String} {R0 : Room} {ret0 : Option FieldType} {nL0 bc bs : Nat} {f0 : Bool} {pc : Nat} {k : am_T} (X : am_Cx G cc own nm R0 ret0 nL0 bc bs f0) {y : MethodName} {cy : ByteArray} {maxL ix np : Nat} {rty : Option FieldType} {rm : Room} {sp : am_sp} (hCt : am_Ct y cy maxL rty rm sp) (hrc : rm.cells = 0 ∧ rm.slots = 0) {host : String} (wl : Cond.methodLinkNest own ix y host ∈ am_NW) (wn : Cond.static y ∈ am_W) (wc : Cond.code y cy maxL rty ∈ am_W) (wi : Cond.initialized y.cls ∈ am_W) (hd : y.cls ≠ "java/lang/invoke/MethodHandle" ∧ y.cls ≠ "java/lang/invoke/VarHandle" ∧ (parseMethodDescriptor y.desc).map (fun d => d.parameters.length) = some np) (hRm : rm.frames + 1 ≤ R0.frames ∧ 8 + (maxL + 11) + rm.locals ≤ R0.locals) (d : decode cc pc = .ok (.invokestatic ix, 3)) (hk : am_S G (pc + 3) k) : am_S G pc (tb_callS sp np k) := by
  obtain ⟨p, l, e, R, s, m, args, below, meth, c, Q, D, cA, A, nL, M0, ad0, ret, fz⟩ := G
  obtain ⟨hx, hb, hml, hown, hts, hK, hA, hlk, hnm, hR, hnL, hrt, hbc, hbs, hfz, hne⟩ := X
  subst hR hnL hrt hfz
  intro K Q' ls st M hKK hQ hT
  obtain ⟨⟨hn, hr8⟩, h2⟩ := hT
  intro ad H locs ls' hH hsub hL
  have hsm := am_sum ad (st.drop np)
  have hM := hCt l D cA ad H.size _ M _ h2
  have hst : st.map (am_cv ad) = ((st.take np).reverse.map (am_cv ad)).reverse ++ (st.drop np).map (am_cv ad) := by
    rw [← List.map_reverse, List.reverse_reverse, ← List.map_append, List.take_append_drop]
  refine am_go0 hrc.1 hrc.2 hA hH hsub hL (va_runSN (As := (st.take np).reverse.map (am_cv ad)) ⟨hx, hb, hml, hown, hts⟩ hM ⟨va_cnB np hts (am_goodc wc) rfl rfl rfl (hne.1 _ wl) (hts _ wi) hd hRm, hts _ wn, trivial⟩ ⟨am_Pre.blind, fun U hU hW => ⟨rfl, am_pre hH hA hK hne hU hW⟩⟩ rfl (by simp; omega) hL.1 hst (lv_room (by rw [hsm]; exact hr8)) d ⟨?_, ?_⟩) (fun r M' h => hk K Q' _ _ _ hKK hQ h)
  · have := hsub.1; have := hsub.2.2.1; have := hrc.1; omega
  · have := hsub.2.1; have := hsub.2.2.2.1; have := hrc.2; omega

theorem as_callSA {G : am_G} {cc : ByteArray} {own nm : String} {R0 : Room} {ret0 : Option FieldType} {nL0 bc bs : Nat} {f0 : Bool} {pc : Nat} {k : am_T} (X : am_Cx G cc own nm R0 ret0 nL0 bc bs f0) {y : MethodName} {cy : ByteArray} {maxL ix np : Nat} {rty : Option FieldType} {rm : Room} {sp : am_sp} (hCt : am_Ct y cy maxL rty rm sp) (wl : Cond.methodLink own ix y ∈ am_W) (wn : Cond.static y ∈ am_W) (wc : Cond.code y cy maxL rty ∈ am_W) (wi : Cond.initialized y.cls ∈ am_W) (hd : y.cls ≠ "java/lang/invoke/MethodHandle" ∧ y.cls ≠ "java/lang/invoke/VarHandle" ∧ (parseMethodDescriptor y.desc).map (fun d => d.parameters.length) = some np) (hRm : rm.frames + 1 ≤ R0.frames ∧ 8 + (maxL + 11) + rm.locals ≤ R0.locals) (d : decode cc pc = .ok (.invokestatic ix, 3)) (hk : am_S G (pc + 3) k) : am_S G pc (tb_callSA bc bs rm.cells rm.slots sp np k) := by
  obtain ⟨p, l, e, R, s, m, args, below, meth, c, Q, D, cA, A, nL, M0, ad0, ret, fz⟩ := G
  obtain ⟨hx, hb, hml, hown, hts, hK, hA, hlk, hnm, hR, hnL, hrt, hbc, hbs, hfz, hne⟩ := X
  subst hR hnL hrt hfz
  intro K Q' ls st M hKK hQ hT
  obtain ⟨⟨hn, hr8, hbc1, hbs1, hall⟩, h2⟩ := hT
  intro ad H locs ls' hH hsub hL
  have hsm := am_sum ad (st.drop np)
  have hM := hCt l D cA ad H.size _ M _ h2
  have hst : st.map (am_cv ad) = ((st.take np).reverse.map (am_cv ad)).reverse ++ (st.drop np).map (am_cv ad) := by
    rw [← List.map_reverse, List.reverse_reverse, ← List.map_append, List.take_append_drop]
  refine am_goA (by omega) (by omega) hall hA hH hsub hL (va_runS (As := (st.take np).reverse.map (am_cv ad)) ⟨hx, hb, hml, hown, hts⟩ hM ⟨callB_of np hts (am_goodc wc) rfl rfl rfl (hts _ wi) (hts _ wl) hd hRm, hts _ wn⟩ ⟨am_Pre.blind, fun U hU hW => ⟨rfl, am_pre hH hA hK hne hU hW⟩⟩ rfl (by simp; omega) hL.1 hst (lv_room (by rw [hsm]; exact hr8)) d ⟨?_, ?_⟩) (fun r M' h => hk K Q' _ _ _ hKK hQ h)
  · have := hsub.1; omega
  · have := hsub.2.1; omega

theorem as_callI {G : am_G} {cc : ByteArray} {own nm : String} {R0 : Room} {ret0 : Option FieldType} {nL0 bc bs : Nat} {f0 : Bool} {pc : Nat} {k : am_T} (X : am_Cx G cc own nm R0 ret0 nL0 bc bs f0) {y : MethodName} {cy : ByteArray} {maxL ix np : Nat} {rm : Room} {sp : am_sp} (hCt : am_Ct y cy maxL none rm sp) (hyi : y.name = "<init>") (wl : Cond.methodLink own ix y ∈ am_W) (wn : Cond.instanceMethod y ∈ am_W) (wc : Cond.code y cy maxL none ∈ am_W) (wi : Cond.initialized y.cls ∈ am_W) (hd : y.cls ≠ "java/lang/invoke/MethodHandle" ∧ y.cls ≠ "java/lang/invoke/VarHandle" ∧ (parseMethodDescriptor y.desc).map (fun d => d.parameters.length) = some np) (hRm : rm.frames + 1 ≤ R0.frames ∧ 8 + (maxL + 11) + rm.locals ≤ R0.locals) (d : decode cc pc = .ok (.invokespecial ix, 3)) (hk : am_S G (pc + 3) k) : am_S G pc (tb_callI bc bs rm.cells rm.slots sp (np + 1) k) := by
  obtain ⟨p, l, e, R, s, m, args, below, meth, c, Q, D, cA, A, nL, M0, ad0, ret, fz⟩ := G
  obtain ⟨hx, hb, hml, hown, hts, hK, hA, hlk, hnm, hR, hnL, hrt, hbc, hbs, hfz, hne⟩ := X
  subst hR hnL hrt hfz
  intro K Q' ls st M hKK hQ hT
  unfold tb_callI at hT
  split at hT
  · next b as has =>
    obtain ⟨⟨hn, hr8, hbc1, hbs1, hall⟩, h2⟩ := hT
    intro ad H locs ls' hH hsub hL
    have hsm := am_sum ad (st.drop (np + 1))
    have hM := hCt l D cA ad H.size _ M _ h2
    have hlen : as.length = np := by
      have := congrArg List.length has
      simp at this
      omega
    have hst := congrArg (List.map (am_cv ad)) (am_take st _ has)
    rw [List.map_append, List.map_reverse, List.map_cons] at hst
    refine am_goA (by omega) (by omega) hall hA hH hsub hL (va_runI (As := as.map (am_cv ad)) (b := ad b) ⟨hx, hb, hml, hown, hts⟩ hM ⟨callB_of np hts (am_goodc wc) rfl rfl rfl (hts _ wi) (hts _ wl) hd hRm, hyi, hts _ wn⟩ ⟨am_Pre.blind, fun U hU hW => ⟨rfl, am_pre hH hA hK hne hU hW⟩⟩ rfl (by rw [List.length_map]; exact hlen) hL.1 hst (lv_room (by rw [hsm]; exact hr8)) d ⟨?_, ?_⟩) (fun r M' h => hk K Q' _ _ _ hKK hQ h)
    · have := hsub.1; omega
    · have := hsub.2.1; omega
  · exact hT.elim

theorem as_callIN {G : am_G} {cc : ByteArray} {own nm : String} {R0 : Room} {ret0 : Option FieldType} {nL0 bc bs : Nat} {f0 : Bool} {pc : Nat} {k : am_T} (X : am_Cx G cc own nm R0 ret0 nL0 bc bs f0) {y : MethodName} {cy : ByteArray} {maxL ix np : Nat} {rm : Room} {sp : am_sp} (hCt : am_Ct y cy maxL none rm sp) (hyi : y.name = "<init>") {host : String} (wl : Cond.methodLinkNest own ix y host ∈ am_NW) (wn : Cond.instanceMethod y ∈ am_W) (wc : Cond.code y cy maxL none ∈ am_W) (wi : Cond.initialized y.cls ∈ am_W) (hd : y.cls ≠ "java/lang/invoke/MethodHandle" ∧ y.cls ≠ "java/lang/invoke/VarHandle" ∧ (parseMethodDescriptor y.desc).map (fun d => d.parameters.length) = some np) (hRm : rm.frames + 1 ≤ R0.frames ∧ 8 + (maxL + 11) + rm.locals ≤ R0.locals) (d : decode cc pc = .ok (.invokespecial ix, 3)) (hk : am_S G (pc + 3) k) : am_S G pc (tb_callI bc bs rm.cells rm.slots sp (np + 1) k) := by
  obtain ⟨p, l, e, R, s, m, args, below, meth, c, Q, D, cA, A, nL, M0, ad0, ret, fz⟩ := G
  obtain ⟨hx, hb, hml, hown, hts, hK, hA, hlk, hnm, hR, hnL, hrt, hbc, hbs, hfz, hne⟩ := X
  subst hR hnL hrt hfz
  intro K Q' ls st M hKK hQ hT
  unfold tb_callI at hT
  split at hT
  · next b as has =>
    obtain ⟨⟨hn, hr8, hbc1, hbs1, hall⟩, h2⟩ := hT
    intro ad H locs ls' hH hsub hL
    have hsm := am_sum ad (st.drop (np + 1))
    have hM := hCt l D cA ad H.size _ M _ h2
    have hlen : as.length = np := by
      have := congrArg List.length has
      simp at this
      omega
    have hst := congrArg (List.map (am_cv ad)) (am_take st _ has)
    rw [List.map_append, List.map_reverse, List.map_cons] at hst
    refine am_goA (by omega) (by omega) hall hA hH hsub hL (va_runIN (As := as.map (am_cv ad)) (b := ad b) ⟨hx, hb, hml, hown, hts⟩ hM ⟨va_cnB np hts (am_goodc wc) rfl rfl rfl (hne.1 _ wl) (hts _ wi) hd hRm, hyi, hts _ wn⟩ ⟨am_Pre.blind, fun U hU hW => ⟨rfl, am_pre hH hA hK hne hU hW⟩⟩ rfl (by rw [List.length_map]; exact hlen) hL.1 hst (lv_room (by rw [hsm]; exact hr8)) d ⟨?_, ?_⟩) (fun r M' h => hk K Q' _ _ _ hKK hQ h)
    · have := hsub.1; omega
    · have := hsub.2.1; omega
  · exact hT.elim

/-! ===== a method as a table of its heads ===== -/
abbrev am_Hd : Type := Nat → am_T
/-- a head's work comes to its end, with the wanted outcome (the least such predicate) -/
def am_OK (B : am_Hd) (Q : am_R) : am_K := fun h ls M => ∀ P : am_K, (∀ h ls M (K : am_K), (∀ h ls M, K h ls M → P h ls M) → B h ls [] M K Q → P h ls M) → P h ls M
theorem am_fold {B : am_Hd} {Q : am_R} {h : Nat} {ls : List (Option am_V)} {M : am_M} (hb : B h ls [] M (am_OK B Q) Q) : am_OK B Q h ls M := fun P hP => hP h ls M (am_OK B Q) (fun h ls M hk => hk P hP) hb
theorem am_walk {G : am_G} {B : am_Hd} {Q : am_R} (hS : ∀ h, am_S G h (B h)) (hQ : ∀ r M, Q r M → am_Ret G r M) {h : Nat} {ls : List (Option am_V)} {M : am_M} (hok : am_OK B Q h ls M) : am_AW G h ls [] M :=
  hok (fun h ls M => am_AW G h ls [] M) (fun h ls M K hK hb => hS h K Q ls [] M hK hQ hb)
def am_in (maxL : Nat) (as : List am_V) : List (Option am_V) := as.map some ++ List.replicate (maxL - as.length) none
theorem am_args (ad : Nat → Nat) : ∀ (as : List am_V) (i j : Nat) (v : am_V), as[j]? = some v → (i + j, am_cv ad v) ∈ lv_args i (as.map (am_cv ad))
  | [], _, _, _, h => by simp at h
  | a :: as, i, 0, v, h => by
    simp only [List.getElem?_cons_zero, Option.some.injEq] at h
    subst h
    exact List.mem_cons_self
  | a :: as, i, j + 1, v, h => by
    simp only [List.getElem?_cons_succ] at h
    have h2 := am_args ad as (i + 1) j v h
    simp only [List.map_cons, lv_args, am_cat, show ¬ (1 : Nat) = 2 by decide, if_false]
    refine List.mem_cons_of_mem _ ?_
    rw [show i + (j + 1) = i + 1 + j by omega]
    exact h2
theorem am_sl (ad : Nat → Nat) (as : List am_V) : (lg_sl (as.map (am_cv ad))).length = as.length := by
  induction as with
  | nil => rfl
  | cons a as ih =>
    simp only [lg_sl, List.map_cons, List.flatMap_cons, am_cat, show ¬ (1 : Nat) = 2 by decide, if_false, List.length_append, List.length_cons, List.length_nil] at ih ⊢
    omega
theorem am_L_in {ad : Nat → Nat} {as : List am_V} {maxL : Nat} (h : as.length ≤ maxL) : am_L ad maxL (am_in maxL as) ((lg_sl (as.map (am_cv ad)) ++ List.replicate (maxL - (lg_sl (as.map (am_cv ad))).length) Slot.unset).toArray) := by
  have hl := lv_entry (as.map (am_cv ad)) (n := maxL) (by rw [am_sl]; exact h)
  refine ⟨hl.1, hl.2.1, by simp [am_in]; omega, fun i v hv => ?_⟩
  have hi : as[i]? = some v := by
    simp only [am_in] at hv
    rcases Nat.lt_or_ge i as.length with q | q
    · rw [List.getElem?_append_left (by simpa using q), List.getElem?_map] at hv
      cases hj : as[i]? with
      | none => rw [hj] at hv; cases hv
      | some z => rw [hj] at hv; cases hv; rfl
    · rw [List.getElem?_append_right (by simpa using q), List.getElem?_replicate] at hv
      split at hv <;> cases hv
  have := hl.2.2 (i, am_cv ad v) (by have := am_args ad as 0 i v hi; rwa [Nat.zero_add] at this)
  exact this
/-- a method's contract, out of its table (sound, head by head) and of what its work comes to -/
theorem am_met {y : MethodName} {cc : ByteArray} {maxL : Nat} {ret : Option FieldType} {rm : Room} {sp : am_sp} {own nm : String} (hy : plainName y.cls = true) (hyo : y.cls = own) (hyn : y.name = nm) (hrt : ret = none ∨ ret = some .int ∨ ret = some .boolean ∨ ∃ n, ret = some (.object n)) (B : Nat → Nat → am_Hd) (hS : ∀ (G : am_G) (bc bs : Nat), am_Cx G cc own nm rm ret maxL bc bs true → ∀ h, am_S G h (B bc bs h))
    (hpure : ∀ as M Q, am_ok M → sp as M Q → as.length ≤ maxL ∧ am_OK (B (M.1.length + rm.cells) (am_sz M.1 + rm.slots)) Q 0 (am_in maxL as) M) : am_Ct y cc maxL ret rm sp := by
  intro l D cA ad sz as M Q hsp
  refine Met.ofW (cc := cc) (maxL := maxL) (ret := ret) hy rfl ?_
  intro p e s m args below meth c s₁ Bd hml hv
  obtain ⟨rfl, hsz, hok, hro, hP, hK, hD0, hne⟩ := hv
  have hts0 := atoms_spec (ws := Cond.code y cc maxL ret :: am_W) Bd.pre
  have hts : ∀ w ∈ am_W, w.before (as.map (am_cv ad)).toArray s = true := fun w hw => hts0 w (List.mem_cons_of_mem _ hw)
  have hown : s.vm.findClass own = some m.cls := hyo ▸ findClass_of_methodNamed Bd.named
  have hname : meth.name = nm := hyn ▸ (name_of_methodNamed Bd.named Bd.method).1
  have hr := Bd.returns
  have hx := Bd.exec
  have hb := Bd.bytes
  have hlk := Bd.notSynchronized
  obtain ⟨hlen, hokk⟩ := hpure as M Q hok hsp
  subst hsz
  rw [lg_entry_eq]
  have hR : (headSpec (Cond.code y cc maxL ret :: am_W) rm).room = rm := rfl
  have key := am_walk (G := (p, l, e, rm, s, m, (as.map (am_cv ad)).toArray, below, meth, c, MQ below (am_Post D cA ad M s.heap.size rm Q) (as.map (am_cv ad)).toArray s rm.cells rm.slots (va_A (am_ws cA ad M) s.heap.size), D, cA, va_A (am_ws cA ad M) s.heap.size, maxL, M, ad, ret, true)) (B := B (M.1.length + rm.cells) (am_sz M.1 + rm.slots)) (Q := Q) (hS _ _ _ ⟨hx, hb, hml, hown, hts, hK, fun q h => Or.inr h, hlk, hname, rfl, rfl, rfl, rfl, rfl, rfl, hne⟩) ?_ hokk
  · have k2 := key ad s.heap [] _ ⟨hok, hro, hP, hD0.self, va_S.rf⟩ ⟨Nat.le_refl _, Nat.le_refl _, Nat.le_add_right _ _, Nat.le_add_right _ _, fun _ _ => ⟨rfl, rfl⟩, fun _ _ => rfl⟩ (am_L_in hlen)
    rw [Nat.sub_self, Nat.sub_self] at k2
    exact k2
  · intro r M' hq ad' H locs ls' pc i hH hsub hrok hrin hri hdec hfz
    obtain ⟨z1, z2⟩ := hfz rfl
    have hq2 : ∀ t : State, t.heap = H → s.WarmedH t.vm → am_Post D cA ad M s.heap.size rm Q (as.map (am_cv ad)).toArray s (.returned (r.map (am_cv ad'))) t := fun t ht hW =>
      ⟨⟨r, M', ad', rfl, hq, hsub.2.2.2.2.2, z1, z2, hrin, hH.1, hsub.2.2.2.2.1, by rw [ht]; exact hH.2.2.1, hH.2.2.2.1⟩, hH.2.2.2.2.F ht⟩
    refine W.cs (cells' := rm.cells) (slots' := rm.slots) (by omega) (by omega) ?_
    rw [hb] at hdec
    match r, hrok, hri, hq2 with
    | none, h1, h2, hq2 =>
      cases h2
      rcases hrt with rfl | rfl | rfl | ⟨n, rfl⟩
      · exact W.vret hx hb hr hq2 hH.2.2.2.2.2.2 hdec
      · exact h1.elim
      · exact h1.elim
      · exact h1.elim
    | some (.inl x), h1, h2, hq2 =>
      cases h2
      rcases hrt with rfl | rfl | rfl | ⟨n, rfl⟩
      · exact h1.elim
      · exact W.iret hx hb hr hq2 hH.2.2.2.2.2.2 hdec
      · refine W.zret hx hb hr ?_ hq2 hH.2.2.2.2.2.2 hdec
        rcases h1 with rfl | rfl <;> rfl
      · exact h1.elim
    | some (.inr x), h1, h2, hq2 =>
      cases h2
      rcases hrt with rfl | rfl | rfl | ⟨n, rfl⟩
      · exact h1.elim
      · exact h1.elim
      · exact h1.elim
      · exact W.aret hx hb hr (Or.inl ⟨n, rfl⟩) (Or.inr ⟨_, rfl⟩) hq2 hH.2.2.2.2.2.2 hdec
