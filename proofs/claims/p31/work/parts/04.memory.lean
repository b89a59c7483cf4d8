
/-- a copy out of a row that lies outside the world -/
theorem am_copyT {p : Program} {l : Launch} {e : Env} {R : Room} {s : State} {m : MethodId} {args : Array Value} {below : List Frame} {meth : Method} {c : Code} {H : Heap} {locs : List Loc} {cells slots : Nat} {Q : State → Prop} {cc : ByteArray} {pc : Nat} {ls : Array Slot} {rest : List Value} {D : va_G} {cl : List vw_C} {A : Nat → Prop} {a : Nat} {tys : List (ClassId × FieldType)} {ws : va_W} (hexec : p.tables.exec = Jvm.exec) (hb : c.code = cc) (hml : c.maxLocals = ls.size) {own : String} {index : Nat} (hown : s.vm.findClass own = some m.cls) (hlink : (Cond.methodLink own index arraycopyName).before args s = true) (hnat : (Cond.native arraycopyName).before args s = true) (hstat : (Cond.static arraycopyName).before args s = true) (hini : (Cond.initialized "java/lang/System").before args s = true)
    (hK : va_K D cl tys s) (hP : va_P D cl ws H) (hD : va_D A ws) (hS : va_S A s.heap H locs) {b0 n0 : Nat} {f : Nat → Int32} (hX : va_T .int b0 n0 (fun i => .int (f i)) A s s.heap) (q1 t1 : Nat) {c1 : ClassId} {n1 : Nat} {g : Nat → Int32} (ha1 : ws[q1]? = some (a, .inl (c1, n1, .inl g))) (ht1 : tys[t1]? = some (c1, .int))
    {sp dp n : Int32} (h1 : ¬ sp < 0) (h2 : ¬ dp < 0) (h3 : ¬ n < 0) (h4 : sp.toNatClampNeg + n.toNatClampNeg ≤ n0) (h5 : dp.toNatClampNeg + n.toNatClampNeg ≤ n1)
    (hframes : 1 ≤ R.frames) (hlocals : (rest.map fun v => v.category).sum + (nativeFrameWords "java/lang/System" "arraycopy" 5 + 11) ≤ R.locals) (hdg : decode cc pc = .ok (.invokestatic index, 3))
    (kk : ∀ (H1 : Heap) (locs1 : List Loc), va_P D cl (ws.set q1 (a, .inl (c1, n1, .inl (va_cpy f g sp.toNatClampNeg dp.toNatClampNeg n.toNatClampNeg)))) H1 → va_D A (ws.set q1 (a, .inl (c1, n1, .inl (va_cpy f g sp.toNatClampNeg dp.toNatClampNeg n.toNatClampNeg)))) → va_S A s.heap H1 locs1 → W p l e R s m args below meth c H1 locs1 cells slots Q (F0 m (pc + 3) ls rest)) : W p l e R s m args below meth c H locs cells slots Q (F0 m pc ls (.int n :: .int dp :: .ref a :: .int sp :: .ref b0 :: rest)) := by
  have nn : ∀ z : Int32, ¬ z < 0 → z.toInt = (z.toNatClampNeg : Int) := by
    intro z hz
    have hz0 : (0 : Int) ≤ z.toInt := by
      have := Int32.not_lt.mp hz
      simpa using Int32.le_iff_toInt_le.mp this
    show z.toInt = ((z.toInt.toNat : Nat) : Int)
    omega
  obtain ⟨scr, s1, ⟨s2, k0, hk0, cm0, hkk0⟩, s3, s4, -, s6, s7⟩ := hX
  obtain ⟨-, k1, hk1, cm1, hkk1⟩ := (hK.2 t1 _ ht1).1 n1 (fun j => .int (g j))
  have hc1 : H[a]? = some (vp_cell c1 (n1, .inl g)) := hP q1 _ ha1
  have hl : a < H.size := (Array.getElem?_eq_some_iff.mp hc1).1
  have ei : ∀ i, i < n.toNatClampNeg → scr.slots.getD (sp.toNatClampNeg + i) .null = .int (f (sp.toNatClampNeg + i)) := fun i hi => by
    rw [Array.getD_eq_getD_getElem?, s6 _ (by omega)]
    rfl
  have e1 : copied scr (vp_cell c1 (n1, .inl g)) sp dp n = vp_cell c1 (n1, .inl (va_cpy f g sp.toNatClampNeg dp.toNatClampNeg n.toNatClampNeg)) := va_copiedX (fun z => .int z) scr c1 f g s6 h4
  intro T hT X
  obtain ⟨vm', X', step⟩ := X.arraycopy hexec hown hlink hnat hstat hini (src := b0) (dst := a) (cs := scr) (cd := vp_cell c1 (n1, .inl g)) (srcPos := sp) (destPos := dp) (n := n) (by rw [hT, hS.2.1 b0 (Array.getElem?_eq_some_iff.mp s1).1 s7]; exact s1) (by rw [hT]; exact hc1)
    s2 (fun _ h => by cases h) s3 (fun h => by cases h) hk0 hk1 hkk0 hkk1 (by simp [refKind]) h1 h2 h3
    (by rw [nn sp h1, nn n h3]; omega)
    (by rw [nn dp h2, nn n h3]; show ¬ _ > ((arrV c1 n1 (fun j => .int (g j))).slots.size : Int); rw [arrV_size]; omega)
    (fun vm₁ _ i hi => ⟨by rw [ei i hi]; rfl, by rw [ei i hi]; exact trivial⟩)
    (g := F0 m pc ls (.int n :: .int dp :: .ref a :: .int sp :: .ref b0 :: rest)) rfl (by rw [hml]) (rest := rest) rfl (by rw [hb]; exact hdg) hframes (by show 2 * 0 + _ + _ ≤ _; omega)
  rw [e1] at X' step
  obtain ⟨nc, hnc⟩ : ∃ nc, nc = vp_cell c1 (n1, .inl (va_cpy f g sp.toNatClampNeg dp.toNatClampNeg n.toNatClampNeg)) := ⟨_, rfl⟩
  rw [← hnc] at X' step
  have hheap : ((T.setVm vm').setCell a nc).heap = H.setIfInBounds a nc := by rw [← hT]; rfl
  have oq : ∀ q : Nat, q ≠ a → (H.setIfInBounds a nc)[q]? = H[q]? := fun q hq => by simp [Array.getElem?_setIfInBounds, Ne.symm hq]
  obtain ⟨t, a1, b1⟩ := kk _ _ (hP.set hD ha1 (show (H.setIfInBounds a nc)[a]? = some _ by rw [← hnc]; simp [Array.getElem?_setIfInBounds, hl]) oq) (hD.set ha1) ⟨by simp; exact hS.1, fun q g1 g2 => by
      rw [oq q (fun e => g2 (by rw [e]; exact hD.2 q1 _ ha1))]
      exact hS.2.1 q g1 g2, fun q hq => by
      rcases List.mem_append.mp hq with h | h
      · exact hS.2.2 q h
      · obtain ⟨z, -, hz⟩ := List.mem_map.mp h
        rw [← hz]
        exact hD.2 q1 _ ha1⟩ _ hheap X'
  exact ⟨t, step t a1, b1⟩
theorem am_fs_set {n j : Nat} {v : Value} {f g : Nat → Value} (h : ∀ i, i ≠ j → g i = f i) (hj : g j = v) : (List.range n).map g = ((List.range n).map f).set j v := by
  apply List.ext_getElem?
  intro i
  rw [List.getElem?_set]
  by_cases hi : j = i
  · subst hi
    rw [if_pos rfl]
    by_cases hn : j < n
    · simp [hn, hj]
    · simp [hn]
  · rw [if_neg hi]
    by_cases hn : i < n
    · simp [hn, h i (Ne.symm hi)]
    · simp [hn]
theorem am_fs_at {ad : Nat → Nat} {M : am_M} {a ci j N : Nat} (hN : am_nf ci = N) (hj : j < N) : ((List.range (am_nf ci)).map (am_fv ad M a ci))[j]? = some (am_fv ad M a ci j) := by
  rw [hN]
  simp [hj]
theorem am_sum (ad : Nat → Nat) (r : List am_V) : ((r.map (am_cv ad)).map fun v => v.category).sum = r.length := by
  induction r with
  | nil => rfl
  | cons v r ih => rw [List.map_cons, List.map_cons, List.sum_cons, ih, am_cat, List.length_cons]; omega
theorem am_lt {M : am_M} {k : Nat} {sh : Nat × Nat} (h : M.1[k]? = some sh) : k < M.1.length := (List.getElem?_eq_some_iff.mp h).1
theorem am_wI_I {M : am_M} {a j : Nat} {x : Int32} : (am_wI M a j x).2.1 a = upd (M.2.1 a) j x := by simp [am_wI, am_wA, va_up]
theorem am_wI_n {M : am_M} {a j i : Nat} {x : Int32} (h : i ≠ a) : (am_wI M a j x).2.1 i = M.2.1 i := by simp [am_wI, am_wA, va_up, h]
theorem am_wA_I {M : am_M} {a : Nat} {f : Nat → Int32} : (am_wA M a f).2.1 a = f := by simp [am_wA, va_up]
theorem am_wA_n {M : am_M} {a i : Nat} {f : Nat → Int32} (h : i ≠ a) : (am_wA M a f).2.1 i = M.2.1 i := by simp [am_wA, va_up, h]
theorem am_wR_n {M : am_M} {a j i q : Nat} (h : i ≠ a) : (am_wR M a j q).2.2 i = M.2.2 i := by simp [am_wR, va_up, h]
theorem am_wR_R {M : am_M} {a j q : Nat} : (am_wR M a j q).2.2 a = va_up (M.2.2 a) j (some q) := by simp [am_wR, va_up]
theorem am_fs_wI {ad : Nat → Nat} {M : am_M} {a ci j N : Nat} {x : Int32} (hf : am_fi ci j = true) : (List.range N).map (am_fv ad (am_wI M a j x) a ci) = ((List.range N).map (am_fv ad M a ci)).set j (.int x) := by
  refine am_fs_set (fun i hi => ?_) ?_
  · unfold am_fv
    rw [am_wI_I, show upd (M.2.1 a) j x i = M.2.1 a i from by simp [upd, hi]]
    rfl
  · unfold am_fv
    rw [am_wI_I, hf, show upd (M.2.1 a) j x j = x from by simp [upd]]
    rfl
theorem am_fs_wR {ad : Nat → Nat} {M : am_M} {a ci j N q : Nat} (hf : am_fi ci j = false) : (List.range N).map (am_fv ad (am_wR M a j q) a ci) = ((List.range N).map (am_fv ad M a ci)).set j (.ref (ad q)) := by
  refine am_fs_set (fun i hi => ?_) ?_
  · unfold am_fv
    rw [am_wR_R, show va_up (M.2.2 a) j (some q) i = M.2.2 a i from by simp [va_up, hi]]
    rfl
  · unfold am_fv
    rw [am_wR_R, hf, show va_up (M.2.2 a) j (some q) j = some q from by simp [va_up]]
    rfl
theorem am_H_wI {s : State} {A : Nat → Prop} {D : va_G} {cA : Nat → ClassId} {ad : Nat → Nat} {M : am_M} {H H1 : Heap} {locs locs1 : List Loc} {a j : Nat} {x : Int32} {sh : Nat × Nat} {e : va_E} (hH : am_H s A D cA ad M H locs) (hk : M.1[a]? = some sh) (h4 : 4 ≤ a) (he : am_ent cA ad (am_wI M a j x) a sh = e) (hP : va_P D vwCl ((am_ws cA ad M).set (a - 4) (ad a, e)) H1) (hD : va_D A ((am_ws cA ad M).set (a - 4) (ad a, e))) (hS : va_S A s.heap H1 locs1) : am_H s A D cA ad (am_wI M a j x) H1 locs1 :=
  am_H_set hH rfl hk h4 (fun _ hi => am_wI_n hi) (fun _ _ => rfl) (fun j y hy => hH.1.2.2 a j y (am_lt hk) hy) he hP hD hS
theorem am_H_wA {s : State} {A : Nat → Prop} {D : va_G} {cA : Nat → ClassId} {ad : Nat → Nat} {M : am_M} {H H1 : Heap} {locs locs1 : List Loc} {a : Nat} {f : Nat → Int32} {sh : Nat × Nat} {e : va_E} (hH : am_H s A D cA ad M H locs) (hk : M.1[a]? = some sh) (h4 : 4 ≤ a) (he : am_ent cA ad (am_wA M a f) a sh = e) (hP : va_P D vwCl ((am_ws cA ad M).set (a - 4) (ad a, e)) H1) (hD : va_D A ((am_ws cA ad M).set (a - 4) (ad a, e))) (hS : va_S A s.heap H1 locs1) : am_H s A D cA ad (am_wA M a f) H1 locs1 :=
  am_H_set hH rfl hk h4 (fun _ hi => am_wA_n hi) (fun _ _ => rfl) (fun j y hy => hH.1.2.2 a j y (am_lt hk) hy) he hP hD hS
theorem am_H_wR {s : State} {A : Nat → Prop} {D : va_G} {cA : Nat → ClassId} {ad : Nat → Nat} {M : am_M} {H H1 : Heap} {locs locs1 : List Loc} {a j q : Nat} {sh : Nat × Nat} {e : va_E} (hH : am_H s A D cA ad M H locs) (hk : M.1[a]? = some sh) (h4 : 4 ≤ a) (hq : q < M.1.length) (he : am_ent cA ad (am_wR M a j q) a sh = e) (hP : va_P D vwCl ((am_ws cA ad M).set (a - 4) (ad a, e)) H1) (hD : va_D A ((am_ws cA ad M).set (a - 4) (ad a, e))) (hS : va_S A s.heap H1 locs1) : am_H s A D cA ad (am_wR M a j q) H1 locs1 :=
  am_H_set hH rfl hk h4 (fun _ _ => rfl) (fun _ hi => am_wR_n hi) (fun i y hy => by
    rw [am_wR_R] at hy
    by_cases hij : i = j
    · subst hij
      simp [va_up] at hy
      omega
    · simp [va_up, hij] at hy
      exact hH.1.2.2 a i y (am_lt hk) hy) he hP hD hS
theorem as_getI {G : am_G} {cc : ByteArray} {own nm : String} {R0 : Room} {ret0 : Option FieldType} {nL0 bc bs : Nat} {f0 : Bool} {pc : Nat} {k : am_T} (X : am_Cx G cc own nm R0 ret0 nL0 bc bs f0) {ci j N ix : Nat} {Cn : String} {Tf : u_T} (hc : vwCl[ci]? = some (Cn, Tf, N)) (hN : am_nf ci = N) (hj : j < N) (hu : ∀ w ∈ u_ws Cn Tf N, w ∈ am_W) (hw : Cond.fieldLink own ix (Tf j).1 (Tf j).2.1 (Tf j).2.2.1 ∈ am_W) (hfi : am_fi ci j = true) (d : decode cc pc = .ok (.getfield ix, 3)) (hk : am_S G (pc + 3) k) : am_S G pc (tb_getI ci j k) := by
  obtain ⟨p, l, e, R, s, m, args, below, meth, c, Q, D, cA, A, nL, M0, ad0, ret, fz⟩ := G
  obtain ⟨hx, hb, hml, hown, hts, hK, hA, hlk, hnm, hR, hnL, hrt, hbc, hbs, hfz, hne⟩ := X
  subst hR hnL hrt hfz
  intro K Q' ls st M hKK hQ hT
  unfold tb_getI at hT
  split at hT
  · next a r =>
    intro ad H locs ls' hH hsub hL
    obtain ⟨h1, h2⟩ := hT
    have h4 := am_4 hH.1 h1 (by decide : (0 : Nat) ≠ 4)
    exact va_get (D := D) (fs := (List.range (am_nf ci)).map (am_fv ad M a ci)) hx hb hts hu hown hK hH.2.2.1 (a - 4) (am_ws_at h1 h4) hc j hj (hts _ hw) (fun _ h => h) (v := .int (M.2.1 a j)) (by rw [am_fs_at hN hj]; simp [am_fv, hfi]) d (hk K Q' _ _ _ hKK hQ h2 ad H locs ls' hH hsub hL)
  · exact hT.elim
theorem as_getR {G : am_G} {cc : ByteArray} {own nm : String} {R0 : Room} {ret0 : Option FieldType} {nL0 bc bs : Nat} {f0 : Bool} {pc : Nat} {k : am_T} (X : am_Cx G cc own nm R0 ret0 nL0 bc bs f0) {ci j N ix : Nat} {Cn : String} {Tf : u_T} (hc : vwCl[ci]? = some (Cn, Tf, N)) (hN : am_nf ci = N) (hj : j < N) (hu : ∀ w ∈ u_ws Cn Tf N, w ∈ am_W) (hw : Cond.fieldLink own ix (Tf j).1 (Tf j).2.1 (Tf j).2.2.1 ∈ am_W) (hfi : am_fi ci j = false) (d : decode cc pc = .ok (.getfield ix, 3)) (hk : am_S G (pc + 3) k) : am_S G pc (tb_getR ci j k) := by
  obtain ⟨p, l, e, R, s, m, args, below, meth, c, Q, D, cA, A, nL, M0, ad0, ret, fz⟩ := G
  obtain ⟨hx, hb, hml, hown, hts, hK, hA, hlk, hnm, hR, hnL, hrt, hbc, hbs, hfz, hne⟩ := X
  subst hR hnL hrt hfz
  intro K Q' ls st M hKK hQ hT
  unfold tb_getR at hT
  split at hT
  · next a r =>
    intro ad H locs ls' hH hsub hL
    obtain ⟨h1, q, hq, h2⟩ := hT
    have h4 := am_4 hH.1 h1 (by decide : (0 : Nat) ≠ 4)
    exact va_get (D := D) (fs := (List.range (am_nf ci)).map (am_fv ad M a ci)) hx hb hts hu hown hK hH.2.2.1 (a - 4) (am_ws_at h1 h4) hc j hj (hts _ hw) (fun _ h => h) (v := .ref (ad q)) (by rw [am_fs_at hN hj]; simp [am_fv, hfi, hq, va_rf]) d (hk K Q' _ _ _ hKK hQ h2 ad H locs ls' hH hsub hL)
  · exact hT.elim
theorem as_putI {G : am_G} {cc : ByteArray} {own nm : String} {R0 : Room} {ret0 : Option FieldType} {nL0 bc bs : Nat} {f0 : Bool} {pc : Nat} {k : am_T} (X : am_Cx G cc own nm R0 ret0 nL0 bc bs f0) {ci j N ix : Nat} {Cn : String} {Tf : u_T} (hc : vwCl[ci]? = some (Cn, Tf, N)) (hN : am_nf ci = N) (hj : j < N) (hu : ∀ w ∈ u_ws Cn Tf N, w ∈ am_W) (hw : Cond.fieldLink own ix (Tf j).1 (Tf j).2.1 (Tf j).2.2.1 ∈ am_W) (ty0 : Nat → FieldType) (hty : ∀ k, k < N → parseFieldDescriptor (Tf k).2.2.1 = some (ty0 k)) (hnmm : ∀ a, a < N → ∀ b, b < N → a ≠ b → (Tf a).2.1 ≠ (Tf b).2.1) (hfin : (Tf j).2.2.2 = false) (hfi : am_fi ci j = true) (hd : parseFieldDescriptor (Tf j).2.2.1 = some .int) (d : decode cc pc = .ok (.putfield ix, 3)) (hk : am_S G (pc + 3) k) : am_S G pc (tb_putI ci j k) := by
  obtain ⟨p, l, e, R, s, m, args, below, meth, c, Q, D, cA, A, nL, M0, ad0, ret, fz⟩ := G
  obtain ⟨hx, hb, hml, hown, hts, hK, hA, hlk, hnm, hR, hnL, hrt, hbc, hbs, hfz, hne⟩ := X
  subst hR hnL hrt hfz
  intro K Q' ls st M hKK hQ hT
  unfold tb_putI at hT
  split at hT
  · next x a r =>
    intro ad H locs ls' hH hsub hL
    obtain ⟨h1, h2⟩ := hT
    have h4 := am_4 hH.1 h1 (by decide : (0 : Nat) ≠ 4)
    refine va_put (D := D) (fs := (List.range (am_nf ci)).map (am_fv ad M a ci)) hx hb hts hu ty0 hty hnmm hown hK hH.2.2.1 hH.2.2.2.1 hH.2.2.2.2 (a - 4) (am_ws_at h1 h4) hc j hj (hts _ hw) (fun _ h => h) hfin  hd rfl rfl (by simp [hN, hj]) d (fun H1 locs1 hP1 hD1 hS1 => ?_)
    exact hk K Q' _ _ _ hKK hQ h2 ad H1 locs1 ls' (am_H_wI hH h1 h4 (by show Sum.inr (ci, (List.range (am_nf ci)).map (am_fv ad (am_wI M a j x) a ci)) = _; rw [am_fs_wI hfi]; rfl) hP1 hD1 hS1) (am_sub_set hsub rfl h4 (fun _ hi => am_wI_n hi)) hL
  · exact hT.elim
theorem as_putN {G : am_G} {cc : ByteArray} {own nm : String} {R0 : Room} {ret0 : Option FieldType} {nL0 bc bs : Nat} {f0 : Bool} {pc : Nat} {k : am_T} (X : am_Cx G cc own nm R0 ret0 nL0 bc bs f0) {ci j N ix : Nat} {Cn : String} {Tf : u_T} (hc : vwCl[ci]? = some (Cn, Tf, N)) (hN : am_nf ci = N) (hj : j < N) (hu : ∀ w ∈ u_ws Cn Tf N, w ∈ am_W) (hw : Cond.fieldLink own ix (Tf j).1 (Tf j).2.1 (Tf j).2.2.1 ∈ am_W) (ty0 : Nat → FieldType) (hty : ∀ k, k < N → parseFieldDescriptor (Tf k).2.2.1 = some (ty0 k)) (hnmm : ∀ a, a < N → ∀ b, b < N → a ≠ b → (Tf a).2.1 ≠ (Tf b).2.1) (hfin : (Tf j).2.2.2 = false) {ty : FieldType} (hfi : am_fi ci j = true) (hd : parseFieldDescriptor (Tf j).2.2.1 = some ty) (d : decode cc pc = .ok (.putfield ix, 3)) (hk : am_S G (pc + 3) k) : am_S G pc (tb_putN ty ci j k) := by
  obtain ⟨p, l, e, R, s, m, args, below, meth, c, Q, D, cA, A, nL, M0, ad0, ret, fz⟩ := G
  obtain ⟨hx, hb, hml, hown, hts, hK, hA, hlk, hnm, hR, hnL, hrt, hbc, hbs, hfz, hne⟩ := X
  subst hR hnL hrt hfz
  intro K Q' ls st M hKK hQ hT
  unfold tb_putN at hT
  split at hT
  · next x a r =>
    intro ad H locs ls' hH hsub hL
    obtain ⟨h1, hn, h2⟩ := hT
    have h4 := am_4 hH.1 h1 (by decide : (0 : Nat) ≠ 4)
    refine va_put (D := D) (fs := (List.range (am_nf ci)).map (am_fv ad M a ci)) hx hb hts hu ty0 hty hnmm hown hK hH.2.2.1 hH.2.2.2.1 hH.2.2.2.2 (a - 4) (am_ws_at h1 h4) hc j hj (hts _ hw) (fun _ h => h) hfin  hd hn.1 hn.2 (by simp [hN, hj]) d (fun H1 locs1 hP1 hD1 hS1 => ?_)
    exact hk K Q' _ _ _ hKK hQ h2 ad H1 locs1 ls' (am_H_wI hH h1 h4 (by show Sum.inr (ci, (List.range (am_nf ci)).map (am_fv ad (am_wI M a j x) a ci)) = _; rw [am_fs_wI hfi]; rfl) hP1 hD1 hS1) (am_sub_set hsub rfl h4 (fun _ hi => am_wI_n hi)) hL
  · exact hT.elim
theorem as_putR {G : am_G} {cc : ByteArray} {own : String} {R0 : Room} {ret0 : Option FieldType} {nL0 bc bs : Nat} {f0 : Bool} {pc : Nat} {k : am_T} (X : am_Cx G cc own "<init>" R0 ret0 nL0 bc bs f0) {ci j N ix : Nat} {Cn : String} {Tf : u_T} (hc : vwCl[ci]? = some (Cn, Tf, N)) (hN : am_nf ci = N) (hj : j < N) (hu : ∀ w ∈ u_ws Cn Tf N, w ∈ am_W) (hw : Cond.fieldLink own ix (Tf j).1 (Tf j).2.1 (Tf j).2.2.1 ∈ am_W) (ty0 : Nat → FieldType) (hty : ∀ k, k < N → parseFieldDescriptor (Tf k).2.2.1 = some (ty0 k)) (hnmm : ∀ a, a < N → ∀ b, b < N → a ≠ b → (Tf a).2.1 ≠ (Tf b).2.1) (hfin : (Tf j).2.2.2 = true) (hdecl : (Tf j).1 = own) {ty : FieldType} (hfi : am_fi ci j = false) (hd : parseFieldDescriptor (Tf j).2.2.1 = some ty) (hn1 : ∀ q, narrow ty (.ref q) = .ref q) (hf1 : ∀ q, fits ty (.ref q) = true) (d : decode cc pc = .ok (.putfield ix, 3)) (hk : am_S G (pc + 3) k) : am_S G pc (tb_putR ci j k) := by
  obtain ⟨p, l, e, R, s, m, args, below, meth, c, Q, D, cA, A, nL, M0, ad0, ret, fz⟩ := G
  obtain ⟨hx, hb, hml, hown, hts, hK, hA, hlk, hnm, hR, hnL, hrt, hbc, hbs, hfz, hne⟩ := X
  subst hR hnL hrt hfz
  intro K Q' ls st M hKK hQ hT
  unfold tb_putR at hT
  split at hT
  · next q a r =>
    intro ad H locs ls' hH hsub hL
    obtain ⟨h1, hq, h2⟩ := hT
    have h4 := am_4 hH.1 h1 (by decide : (0 : Nat) ≠ 4)
    refine va_putF (D := D) (fs := (List.range (am_nf ci)).map (am_fv ad M a ci)) hx hb hts hu ty0 hty hnmm hown hK hH.2.2.1 hH.2.2.2.1 hH.2.2.2.2 (a - 4) (am_ws_at h1 h4) hc j hj (hts _ hw) (fun _ h => h) hfin hnm hdecl hd (hn1 _) (hf1 _) (by simp [hN, hj]) d (fun H1 locs1 hP1 hD1 hS1 => ?_)
    exact hk K Q' _ _ _ hKK hQ h2 ad H1 locs1 ls' (am_H_wR hH h1 h4 hq (by show Sum.inr (ci, (List.range (am_nf ci)).map (am_fv ad (am_wR M a j q) a ci)) = _; rw [am_fs_wR hfi]; rfl) hP1 hD1 hS1) (am_sub_set hsub rfl h4 (fun _ hi => rfl)) hL
  · exact hT.elim
theorem as_iald {G : am_G} {cc : ByteArray} {own nm : String} {R0 : Room} {ret0 : Option FieldType} {nL0 bc bs : Nat} {f0 : Bool} {pc : Nat} {k : am_T} (X : am_Cx G cc own nm R0 ret0 nL0 bc bs f0) (d : decode cc pc = .ok (.iaload, 1)) (hk : am_S G (pc + 1) k) : am_S G pc (tb_iald k) := by
  obtain ⟨p, l, e, R, s, m, args, below, meth, c, Q, D, cA, A, nL, M0, ad0, ret, fz⟩ := G
  obtain ⟨hx, hb, hml, hown, hts, hK, hA, hlk, hnm, hR, hnL, hrt, hbc, hbs, hfz, hne⟩ := X
  subst hR hnL hrt hfz
  intro K Q' ls st M hKK hQ hT
  unfold tb_iald at hT
  split at hT
  · next i a r =>
    intro ad H locs ls' hH hsub hL
    obtain ⟨⟨n, h1 | h1, hin⟩, h2⟩ := hT
    · have h4 := am_4 hH.1 h1 (by decide : (1 : Nat) ≠ 4)
      exact va_iald (D := D) (f := M.2.1 a) hx hb hK hH.2.2.1 (a - 4) 0 (am_ws_at h1 h4) rfl hin d (hk K Q' _ _ _ hKK hQ h2 ad H locs ls' hH hsub hL)
    · have h4 : a < 4 := (hH.1.2.1 a _ h1).mpr rfl
      obtain ⟨scr, t1, t2, t3, t4, t5, t6, t7⟩ := hH.2.1.1 a n h4 h1
      have hlt : i.toNatClampNeg < n := Nat.not_le.mp (fun q => hin (Or.inr q))
      exact W.iald (v := .int (M.2.1 a i.toNatClampNeg)) hx hb (by rw [hH.2.2.2.2.2.1 (ad a) (Array.getElem?_eq_some_iff.mp t1).1 t7]; exact t1) t2 t3 (fun q => q.elim (fun z => hin (Or.inl z)) (fun z => by omega)) (t6 _ hlt) rfl rfl d (hk K Q' _ _ _ hKK hQ h2 ad H locs ls' hH hsub hL)
  · exact hT.elim
theorem as_cald {G : am_G} {cc : ByteArray} {own nm : String} {R0 : Room} {ret0 : Option FieldType} {nL0 bc bs : Nat} {f0 : Bool} {pc : Nat} {k : am_T} (X : am_Cx G cc own nm R0 ret0 nL0 bc bs f0) (d : decode cc pc = .ok (.caload, 1)) (hk : am_S G (pc + 1) k) : am_S G pc (tb_cald k) := by
  obtain ⟨p, l, e, R, s, m, args, below, meth, c, Q, D, cA, A, nL, M0, ad0, ret, fz⟩ := G
  obtain ⟨hx, hb, hml, hown, hts, hK, hA, hlk, hnm, hR, hnL, hrt, hbc, hbs, hfz, hne⟩ := X
  subst hR hnL hrt hfz
  intro K Q' ls st M hKK hQ hT
  unfold tb_cald at hT
  split at hT
  · next i a r =>
    intro ad H locs ls' hH hsub hL
    obtain ⟨⟨n, h1, hin⟩, h2⟩ := hT
    have h4 := am_4 hH.1 h1 (by decide : (2 : Nat) ≠ 4)
    exact va_cald (D := D) (f := M.2.1 a) hx hb hK hH.2.2.1 (a - 4) 1 (am_ws_at h1 h4) rfl hin d (hk K Q' _ _ _ hKK hQ h2 ad H locs ls' hH hsub hL)
  · exact hT.elim
theorem as_iast {G : am_G} {cc : ByteArray} {own nm : String} {R0 : Room} {ret0 : Option FieldType} {nL0 bc bs : Nat} {f0 : Bool} {pc : Nat} {k : am_T} (X : am_Cx G cc own nm R0 ret0 nL0 bc bs f0) (d : decode cc pc = .ok (.iastore, 1)) (hk : am_S G (pc + 1) k) : am_S G pc (tb_iast k) := by
  obtain ⟨p, l, e, R, s, m, args, below, meth, c, Q, D, cA, A, nL, M0, ad0, ret, fz⟩ := G
  obtain ⟨hx, hb, hml, hown, hts, hK, hA, hlk, hnm, hR, hnL, hrt, hbc, hbs, hfz, hne⟩ := X
  subst hR hnL hrt hfz
  intro K Q' ls st M hKK hQ hT
  unfold tb_iast at hT
  split at hT
  · next x i a r =>
    intro ad H locs ls' hH hsub hL
    obtain ⟨⟨n, h1, hin⟩, h2⟩ := hT
    have h4 := am_4 hH.1 h1 (by decide : (1 : Nat) ≠ 4)
    refine va_iast (D := D) (f := M.2.1 a) hx hb hK hH.2.2.1 hH.2.2.2.1 hH.2.2.2.2 (a - 4) 0 (am_ws_at h1 h4) rfl hin d (fun H1 locs1 hP1 hD1 hS1 => ?_)
    exact hk K Q' _ _ _ hKK hQ h2 ad H1 locs1 ls' (am_H_wI hH h1 h4 (by show Sum.inl (cA 0, n, Sum.inl ((am_wI M a i.toNatClampNeg x).2.1 a)) = _; rw [am_wI_I]) hP1 hD1 hS1) (am_sub_set hsub rfl h4 (fun _ hi => am_wI_n hi)) hL
  · exact hT.elim
theorem as_cast {G : am_G} {cc : ByteArray} {own nm : String} {R0 : Room} {ret0 : Option FieldType} {nL0 bc bs : Nat} {f0 : Bool} {pc : Nat} {k : am_T} (X : am_Cx G cc own nm R0 ret0 nL0 bc bs f0) (d : decode cc pc = .ok (.castore, 1)) (hk : am_S G (pc + 1) k) : am_S G pc (tb_cast k) := by
  obtain ⟨p, l, e, R, s, m, args, below, meth, c, Q, D, cA, A, nL, M0, ad0, ret, fz⟩ := G
  obtain ⟨hx, hb, hml, hown, hts, hK, hA, hlk, hnm, hR, hnL, hrt, hbc, hbs, hfz, hne⟩ := X
  subst hR hnL hrt hfz
  intro K Q' ls st M hKK hQ hT
  unfold tb_cast at hT
  split at hT
  · next x i a r =>
    intro ad H locs ls' hH hsub hL
    obtain ⟨⟨n, h1, hin⟩, h2⟩ := hT
    have h4 := am_4 hH.1 h1 (by decide : (2 : Nat) ≠ 4)
    refine va_cast (D := D) (f := M.2.1 a) hx hb hK hH.2.2.1 hH.2.2.2.1 hH.2.2.2.2 (a - 4) 1 (am_ws_at h1 h4) rfl hin d (fun H1 locs1 hP1 hD1 hS1 => ?_)
    exact hk K Q' _ _ _ hKK hQ h2 ad H1 locs1 ls' (am_H_wI hH h1 h4 (by show Sum.inl (cA 1, n, Sum.inl ((am_wI M a i.toNatClampNeg (vp_nar .char x)).2.1 a)) = _; rw [am_wI_I]) hP1 hD1 hS1) (am_sub_set hsub rfl h4 (fun _ hi => am_wI_n hi)) hL
  · exact hT.elim
theorem as_aald {G : am_G} {cc : ByteArray} {own nm : String} {R0 : Room} {ret0 : Option FieldType} {nL0 bc bs : Nat} {f0 : Bool} {pc : Nat} {k : am_T} (X : am_Cx G cc own nm R0 ret0 nL0 bc bs f0) (d : decode cc pc = .ok (.aaload, 1)) (hk : am_S G (pc + 1) k) : am_S G pc (tb_aald k) := by
  obtain ⟨p, l, e, R, s, m, args, below, meth, c, Q, D, cA, A, nL, M0, ad0, ret, fz⟩ := G
  obtain ⟨hx, hb, hml, hown, hts, hK, hA, hlk, hnm, hR, hnL, hrt, hbc, hbs, hfz, hne⟩ := X
  subst hR hnL hrt hfz
  intro K Q' ls st M hKK hQ hT
  unfold tb_aald at hT
  split at hT
  · next i a r =>
    intro ad H locs ls' hH hsub hL
    obtain ⟨⟨n, h1, hin⟩, q, hq, h2⟩ := hT
    have h4 := am_4 hH.1 h1 (by decide : (3 : Nat) ≠ 4)
    refine va_aldq (D := D) (f := fun j => (M.2.2 a j).map ad) hx hb hK hH.2.2.1 (a - 4) 2 (am_ws_at h1 h4) rfl hin d ?_
    rw [hq]
    exact hk K Q' _ _ _ hKK hQ h2 ad H locs ls' hH hsub hL
  · exact hT.elim
theorem as_aast {G : am_G} {cc : ByteArray} {own nm : String} {R0 : Room} {ret0 : Option FieldType} {nL0 bc bs : Nat} {f0 : Bool} {pc : Nat} {k : am_T} (X : am_Cx G cc own nm R0 ret0 nL0 bc bs f0) (d : decode cc pc = .ok (.aastore, 1)) (hk : am_S G (pc + 1) k) : am_S G pc (tb_aast k) := by
  obtain ⟨p, l, e, R, s, m, args, below, meth, c, Q, D, cA, A, nL, M0, ad0, ret, fz⟩ := G
  obtain ⟨hx, hb, hml, hown, hts, hK, hA, hlk, hnm, hR, hnL, hrt, hbc, hbs, hfz, hne⟩ := X
  subst hR hnL hrt hfz
  intro K Q' ls st M hKK hQ hT
  unfold tb_aast at hT
  split at hT
  · next q i a r =>
    intro ad H locs ls' hH hsub hL
    obtain ⟨⟨n, h1, hin⟩, hq, h2⟩ := hT
    have h4 := am_4 hH.1 h1 (by decide : (3 : Nat) ≠ 4)
    have h5 := am_4 hH.1 hq (by decide : (0 : Nat) ≠ 4)
    refine va_astq (D := D) (f := fun j => (M.2.2 a j).map ad) hx hb hK hH.2.2.1 hH.2.2.2.1 hH.2.2.2.2 (a - 4) 2 (q - 4) 1 (am_ws_at h1 h4) (r := (RX1, TX1, 14)) rfl (vs := (List.range (am_nf 1)).map (am_fv ad M q 1)) (am_ws_at hq h5) rfl hin d (fun H1 locs1 hP1 hD1 hS1 => ?_)
    refine hk K Q' _ _ _ hKK hQ h2 ad H1 locs1 ls' (am_H_wR hH h1 h4 (am_lt hq) ?_ hP1 hD1 hS1) (am_sub_set hsub rfl h4 (fun _ _ => rfl)) hL
    show Sum.inl (cA 2, n, Sum.inr (Sum.inr (Sum.inr (Sum.inr (fun j => ((am_wR M a i.toNatClampNeg q).2.2 a j).map ad))))) = _
    have e : (fun j => ((am_wR M a i.toNatClampNeg q).2.2 a j).map ad) = va_up (fun j => (M.2.2 a j).map ad) i.toNatClampNeg (some (ad q)) := by
      funext j
      rw [am_wR_R]
      unfold va_up
      split <;> rfl
    rw [e]
  · exact hT.elim
theorem as_alen {G : am_G} {cc : ByteArray} {own nm : String} {R0 : Room} {ret0 : Option FieldType} {nL0 bc bs : Nat} {f0 : Bool} {pc : Nat} {k : am_T} (X : am_Cx G cc own nm R0 ret0 nL0 bc bs f0) (d : decode cc pc = .ok (.arraylength, 1)) (hk : am_S G (pc + 1) k) : am_S G pc (tb_alen k) := by
  obtain ⟨p, l, e, R, s, m, args, below, meth, c, Q, D, cA, A, nL, M0, ad0, ret, fz⟩ := G
  obtain ⟨hx, hb, hml, hown, hts, hK, hA, hlk, hnm, hR, hnL, hrt, hbc, hbs, hfz, hne⟩ := X
  subst hR hnL hrt hfz
  intro K Q' ls st M hKK hQ hT
  unfold tb_alen at hT
  split at hT
  · next a r =>
    intro ad H locs ls' hH hsub hL
    obtain ⟨n, h1, h2⟩ := hT
    have h4 : a < 4 := (hH.1.2.1 a _ h1).mpr rfl
    obtain ⟨scr, t1, t2, t3, t4, t5, t6, t7⟩ := hH.2.1.1 a n h4 h1
    exact W.alen (n := Int32.ofNat n) hx hb (by rw [hH.2.2.2.2.2.1 (ad a) (Array.getElem?_eq_some_iff.mp t1).1 t7]; exact t1) t2 t5 rfl rfl d (hk K Q' _ _ _ hKK hQ h2 ad H locs ls' hH hsub hL)
  · exact hT.elim
theorem as_stat0 {G : am_G} {cc : ByteArray} {own nm : String} {R0 : Room} {ret0 : Option FieldType} {nL0 bc bs : Nat} {f0 : Bool} {pc : Nat} {k : am_T} (X : am_Cx G cc own nm R0 ret0 nL0 bc bs f0) {ix : Nat} (hw : Cond.fieldLink own ix RX4 "FIRST_VALUES" "[I" ∈ am_W) (d : decode cc pc = .ok (.getstatic ix, 3)) (hk : am_S G (pc + 3) k) : am_S G pc (tb_stat 0 k) := by
  obtain ⟨p, l, e, R, s, m, args, below, meth, c, Q, D, cA, A, nL, M0, ad0, ret, fz⟩ := G
  obtain ⟨hx, hb, hml, hown, hts, hK, hA, hlk, hnm, hR, hnL, hrt, hbc, hbs, hfz, hne⟩ := X
  subst hR hnL hrt hfz
  intro K Q' ls st M hKK hQ hT
  intro ad H locs ls' hH hsub hL
  exact va_gets hx hb hH.2.1.2.1 hH.2.2.2.2 hown (hts _ hw) (fun _ h => h) d (hk K Q' _ _ _ hKK hQ hT ad H locs ls' hH hsub hL)
theorem as_stat1 {G : am_G} {cc : ByteArray} {own nm : String} {R0 : Room} {ret0 : Option FieldType} {nL0 bc bs : Nat} {f0 : Bool} {pc : Nat} {k : am_T} (X : am_Cx G cc own nm R0 ret0 nL0 bc bs f0) {ix : Nat} (hw : Cond.fieldLink own ix RX4 "LEAST_VALUES" "[I" ∈ am_W) (d : decode cc pc = .ok (.getstatic ix, 3)) (hk : am_S G (pc + 3) k) : am_S G pc (tb_stat 1 k) := by
  obtain ⟨p, l, e, R, s, m, args, below, meth, c, Q, D, cA, A, nL, M0, ad0, ret, fz⟩ := G
  obtain ⟨hx, hb, hml, hown, hts, hK, hA, hlk, hnm, hR, hnL, hrt, hbc, hbs, hfz, hne⟩ := X
  subst hR hnL hrt hfz
  intro K Q' ls st M hKK hQ hT
  intro ad H locs ls' hH hsub hL
  exact va_gets hx hb hH.2.1.2.2.1 hH.2.2.2.2 hown (hts _ hw) (fun _ h => h) d (hk K Q' _ _ _ hKK hQ hT ad H locs ls' hH hsub hL)
theorem as_stat2 {G : am_G} {cc : ByteArray} {own nm : String} {R0 : Room} {ret0 : Option FieldType} {nL0 bc bs : Nat} {f0 : Bool} {pc : Nat} {k : am_T} (X : am_Cx G cc own nm R0 ret0 nL0 bc bs f0) {ix : Nat} (hw : Cond.fieldLink own ix RX4 "GREATEST_VALUES" "[I" ∈ am_W) (d : decode cc pc = .ok (.getstatic ix, 3)) (hk : am_S G (pc + 3) k) : am_S G pc (tb_stat 2 k) := by
  obtain ⟨p, l, e, R, s, m, args, below, meth, c, Q, D, cA, A, nL, M0, ad0, ret, fz⟩ := G
  obtain ⟨hx, hb, hml, hown, hts, hK, hA, hlk, hnm, hR, hnL, hrt, hbc, hbs, hfz, hne⟩ := X
  subst hR hnL hrt hfz
  intro K Q' ls st M hKK hQ hT
  intro ad H locs ls' hH hsub hL
  exact va_gets hx hb hH.2.1.2.2.2 hH.2.2.2.2 hown (hts _ hw) (fun _ h => h) d (hk K Q' _ _ _ hKK hQ hT ad H locs ls' hH hsub hL)
theorem as_stat0N {G : am_G} {cc : ByteArray} {own nm : String} {R0 : Room} {ret0 : Option FieldType} {nL0 bc bs : Nat} {f0 : Bool} {pc : Nat} {k : am_T} (X : am_Cx G cc own nm R0 ret0 nL0 bc bs f0) {ix : Nat} (hw : Cond.fieldLinkNest own ix RX4 "FIRST_VALUES" "[I" RX4 ∈ am_NW) (d : decode cc pc = .ok (.getstatic ix, 3)) (hk : am_S G (pc + 3) k) : am_S G pc (tb_stat 0 k) := by
  obtain ⟨p, l, e, R, s, m, args, below, meth, c, Q, D, cA, A, nL, M0, ad0, ret, fz⟩ := G
  obtain ⟨hx, hb, hml, hown, hts, hK, hA, hlk, hnm, hR, hnL, hrt, hbc, hbs, hfz, hne⟩ := X
  subst hR hnL hrt hfz
  intro K Q' ls st M hKK hQ hT
  intro ad H locs ls' hH hsub hL
  exact va_getsN hx hb hH.2.1.2.1 hH.2.2.2.2 hown (va_Nw.use rfl (hne.1 _ hw)) (fun _ h => h) d (hk K Q' _ _ _ hKK hQ hT ad H locs ls' hH hsub hL)
theorem as_pop {G : am_G} {cc : ByteArray} {own nm : String} {R0 : Room} {ret0 : Option FieldType} {nL0 bc bs : Nat} {f0 : Bool} {pc : Nat} {k : am_T} (X : am_Cx G cc own nm R0 ret0 nL0 bc bs f0) {ix : Nat} (hw : Cond.methodLink own ix objectInit ∈ am_W) (hw2 : Cond.instanceMethod objectInit ∈ am_W) (hw3 : Cond.code objectInit ⟨#[0xb1]⟩ 1 none ∈ am_W) (hf : 1 ≤ R0.frames) (hl : 20 ≤ R0.locals) (d : decode cc pc = .ok (.invokespecial ix, 3)) (hk : am_S G (pc + 3) k) : am_S G pc (tb_pop k) := by
  obtain ⟨p, l, e, R, s, m, args, below, meth, c, Q, D, cA, A, nL, M0, ad0, ret, fz⟩ := G
  obtain ⟨hx, hb, hml, hown, hts, hK, hA, hlk, hnm, hR, hnL, hrt, hbc, hbs, hfz, hne⟩ := X
  subst hR hnL hrt hfz
  intro K Q' ls st M hKK hQ hT
  unfold tb_pop at hT
  split at hT
  · next a r =>
    intro ad H locs ls' hH hsub hL
    have hsm := am_sum ad r
    exact W.objInit hx hb hown (hts _ hw) (hts _ hw2) (hts _ hw3) rfl (by rw [hml]; exact hL.1) rfl d hf (by show 2 * 0 + _ + 12 ≤ _; rw [hsm]; omega) (W.eq (g2 := F0 m (pc + 3) ls' (r.map (am_cv ad))) rfl (hk K Q' _ _ _ hKK hQ hT.2 ad H locs ls' hH hsub hL))
  · exact hT.elim
theorem as_mmax {G : am_G} {cc : ByteArray} {own nm : String} {R0 : Room} {ret0 : Option FieldType} {nL0 bc bs : Nat} {f0 : Bool} {pc : Nat} {k : am_T} (X : am_Cx G cc own nm R0 ret0 nL0 bc bs f0) {ix : Nat} (hw : Cond.methodLink own ix Lib.Math.max.name ∈ am_W) (hw2 : Cond.static Lib.Math.max.name ∈ am_W) (hw3 : Cond.initialized "java/lang/Math" ∈ am_W) (hw4 : Cond.code Lib.Math.max.name Lib.Math.max.code 2 (some .int) ∈ am_W) (hf : 1 ≤ R0.frames) (hl : 21 ≤ R0.locals) (d : decode cc pc = .ok (.invokestatic ix, 3)) (hk : am_S G (pc + 3) k) : am_S G pc (tb_mm (fun x y => if x < y then y else x) k) := by
  obtain ⟨p, l, e, R, s, m, args, below, meth, c, Q, D, cA, A, nL, M0, ad0, ret, fz⟩ := G
  obtain ⟨hx, hb, hml, hown, hts, hK, hA, hlk, hnm, hR, hnL, hrt, hbc, hbs, hfz, hne⟩ := X
  subst hR hnL hrt hfz
  intro K Q' ls st M hKK hQ hT
  unfold tb_mm at hT
  split at hT
  · next y x r =>
    intro ad H locs ls' hH hsub hL
    have hsm := am_sum ad r
    exact va_mmax hx hb (by rw [hml]; exact hL.1.symm) hown (hts _ hw) (hts _ hw2) (hts _ hw3) (hts _ hw4) hf (by rw [hsm]; omega) (by have := hsub.2.2.1; omega) (by have := hsub.2.2.2.1; omega) d (hk K Q' _ _ _ hKK hQ hT.2 ad H locs ls' hH hsub hL)
  · exact hT.elim
theorem as_mmin {G : am_G} {cc : ByteArray} {own nm : String} {R0 : Room} {ret0 : Option FieldType} {nL0 bc bs : Nat} {f0 : Bool} {pc : Nat} {k : am_T} (X : am_Cx G cc own nm R0 ret0 nL0 bc bs f0) {ix : Nat} (hw : Cond.methodLink own ix Lib.Math.min.name ∈ am_W) (hw2 : Cond.static Lib.Math.min.name ∈ am_W) (hw3 : Cond.initialized "java/lang/Math" ∈ am_W) (hw4 : Cond.code Lib.Math.min.name Lib.Math.min.code 2 (some .int) ∈ am_W) (hf : 1 ≤ R0.frames) (hl : 21 ≤ R0.locals) (d : decode cc pc = .ok (.invokestatic ix, 3)) (hk : am_S G (pc + 3) k) : am_S G pc (tb_mm (fun x y => if y < x then y else x) k) := by
  obtain ⟨p, l, e, R, s, m, args, below, meth, c, Q, D, cA, A, nL, M0, ad0, ret, fz⟩ := G
  obtain ⟨hx, hb, hml, hown, hts, hK, hA, hlk, hnm, hR, hnL, hrt, hbc, hbs, hfz, hne⟩ := X
  subst hR hnL hrt hfz
  intro K Q' ls st M hKK hQ hT
  unfold tb_mm at hT
  split at hT
  · next y x r =>
    intro ad H locs ls' hH hsub hL
    have hsm := am_sum ad r
    exact va_mmin hx hb (by rw [hml]; exact hL.1.symm) hown (hts _ hw) (hts _ hw2) (hts _ hw3) (hts _ hw4) hf (by rw [hsm]; omega) (by have := hsub.2.2.1; omega) (by have := hsub.2.2.2.1; omega) d (hk K Q' _ _ _ hKK hQ hT.2 ad H locs ls' hH hsub hL)
  · exact hT.elim
theorem as_copy {G : am_G} {cc : ByteArray} {own nm : String} {R0 : Room} {ret0 : Option FieldType} {nL0 bc bs : Nat} {f0 : Bool} {pc : Nat} {k : am_T} (X : am_Cx G cc own nm R0 ret0 nL0 bc bs f0) {ix : Nat} (hw : Cond.methodLink own ix arraycopyName ∈ am_W) (hw1 : Cond.native arraycopyName ∈ am_W) (hw2 : Cond.static arraycopyName ∈ am_W) (hw3 : Cond.initialized "java/lang/System" ∈ am_W) (hf : 1 ≤ R0.frames) (hl : 8 + (nativeFrameWords "java/lang/System" "arraycopy" 5 + 11) ≤ R0.locals) (d : decode cc pc = .ok (.invokestatic ix, 3)) (hk : am_S G (pc + 3) k) : am_S G pc (tb_copy k) := by
  obtain ⟨p, l, e, R, s, m, args, below, meth, c, Q, D, cA, A, nL, M0, ad0, ret, fz⟩ := G
  obtain ⟨hx, hb, hml, hown, hts, hK, hA, hlk, hnm, hR, hnL, hrt, hbc, hbs, hfz, hne⟩ := X
  subst hR hnL hrt hfz
  intro K Q' ls st M hKK hQ hT
  unfold tb_copy at hT
  split at hT
  · next n dp b sp a r =>
    intro ad H locs ls' hH hsub hL
    obtain ⟨⟨hr, rfl, rfl, hn0, ⟨n0, h1, hle⟩, n1, hd1, hle1⟩, h2⟩ := hT
    have hsm := am_sum ad r
    have h5 := am_4 hH.1 hd1 (by decide : (1 : Nat) ≠ 4)
    have z0 : (0 : Int32).toNatClampNeg = 0 := rfl
    have go : ∀ (H1 : Heap) (locs1 : List Loc), va_P D vwCl ((am_ws cA ad M).set (b - 4) (ad b, .inl (cA 0, n1, .inl (va_cpy (M.2.1 a) (M.2.1 b) (0 : Int32).toNatClampNeg (0 : Int32).toNatClampNeg n.toNatClampNeg)))) H1 → va_D A ((am_ws cA ad M).set (b - 4) (ad b, .inl (cA 0, n1, .inl (va_cpy (M.2.1 a) (M.2.1 b) (0 : Int32).toNatClampNeg (0 : Int32).toNatClampNeg n.toNatClampNeg)))) → va_S A s.heap H1 locs1 → W p l e R s m args below meth c H1 locs1 (M.1.length - M0.1.length) (am_sz M.1 - am_sz M0.1) Q (F0 m (pc + 3) ls' (r.map (am_cv ad))) := fun H1 locs1 hP1 hD1 hS1 =>
      hk K Q' _ _ _ hKK hQ h2 ad H1 locs1 ls' (am_H_wA hH hd1 h5 (by show Sum.inl (cA 0, n1, Sum.inl ((am_wA M b (va_cpy (M.2.1 a) (M.2.1 b) 0 0 n.toNatClampNeg)).2.1 b)) = _; rw [am_wA_I]; rfl) hP1 hD1 hS1) (am_sub_set hsub rfl h5 (fun _ hi => am_wA_n hi)) hL
    rcases h1 with h1 | h1
    · have h4 := am_4 hH.1 h1 (by decide : (1 : Nat) ≠ 4)
      exact va_copyi (D := D) (f := M.2.1 a) (g := M.2.1 b) hx hb (by rw [hml]; exact hL.1.symm) hown (hts _ hw) (hts _ hw1) (hts _ hw2) (hts _ hw3) hK hH.2.2.1 hH.2.2.2.1 hH.2.2.2.2 (a - 4) (b - 4) 0 0 (am_ws_at h1 h4) (am_ws_at hd1 h5) rfl rfl rfl (by decide) (by decide) hn0 (by rw [z0]; omega) (by rw [z0]; omega) (fun _ _ => rfl) hf (by rw [hsm]; omega) d go
    · have h4 : a < 4 := (hH.1.2.1 a _ h1).mpr rfl
      exact am_copyT (D := D) (g := M.2.1 b) hx hb (by rw [hml]; exact hL.1.symm) hown (hts _ hw) (hts _ hw1) (hts _ hw2) (hts _ hw3) hK hH.2.2.1 hH.2.2.2.1 hH.2.2.2.2 (hH.2.1.1 a n0 h4 h1) (b - 4) 0 (am_ws_at hd1 h5) rfl (by decide) (by decide) hn0 (by rw [z0]; omega) (by rw [z0]; omega) hf (by rw [hsm]; omega) d go
  · exact hT.elim
theorem as_ret {G : am_G} {cc : ByteArray} {own nm : String} {R0 : Room} {ret0 : Option FieldType} {nL0 bc bs : Nat} {f0 : Bool} {pc : Nat} (X : am_Cx G cc own nm R0 ret0 nL0 bc bs f0) (hc0 : R0.cells = 0 ∧ R0.slots = 0) (hr0 : ret0 = none) (d : decode cc pc = .ok (.return_, 1)) : am_S G pc (tb_ret) := by
  obtain ⟨p, l, e, R, s, m, args, below, meth, c, Q, D, cA, A, nL, M0, ad0, ret, fz⟩ := G
  obtain ⟨hx, hb, hml, hown, hts, hK, hA, hlk, hnm, hR, hnL, hrt, hbc, hbs, hfz, hne⟩ := X
  subst hR hnL hrt hfz
  intro K Q' ls st M hKK hQ hT
  obtain ⟨rfl, h2⟩ := hT
  intro ad H locs ls' hH hsub hL
  exact hQ _ _ h2 ad H locs ls' pc _ hH hsub (by rw [hr0]; exact trivial) trivial rfl (by rw [hb]; exact d) (fun _ => ⟨by have := hsub.1; have := hsub.2.2.1; omega, by have := hsub.2.1; have := hsub.2.2.2.1; omega⟩)
theorem as_iret {G : am_G} {cc : ByteArray} {own nm : String} {R0 : Room} {ret0 : Option FieldType} {nL0 bc bs : Nat} {f0 : Bool} {pc : Nat} (X : am_Cx G cc own nm R0 ret0 nL0 bc bs f0) (hc0 : R0.cells = 0 ∧ R0.slots = 0) (hr0 : ret0 = some .int) (d : decode cc pc = .ok (.ireturn, 1)) : am_S G pc (tb_iret) := by
  obtain ⟨p, l, e, R, s, m, args, below, meth, c, Q, D, cA, A, nL, M0, ad0, ret, fz⟩ := G
  obtain ⟨hx, hb, hml, hown, hts, hK, hA, hlk, hnm, hR, hnL, hrt, hbc, hbs, hfz, hne⟩ := X
  subst hR hnL hrt hfz
  intro K Q' ls st M hKK hQ hT
  unfold tb_iret at hT
  split at hT
  · next x =>
    intro ad H locs ls' hH hsub hL
    exact hQ _ _ hT ad H locs ls' pc _ hH hsub (by rw [hr0]; exact trivial) trivial rfl (by rw [hb]; exact d) (fun _ => ⟨by have := hsub.1; have := hsub.2.2.1; omega, by have := hsub.2.1; have := hsub.2.2.2.1; omega⟩)
  · exact hT.elim
theorem as_zret {G : am_G} {cc : ByteArray} {own nm : String} {R0 : Room} {ret0 : Option FieldType} {nL0 bc bs : Nat} {f0 : Bool} {pc : Nat} (X : am_Cx G cc own nm R0 ret0 nL0 bc bs f0) (hc0 : R0.cells = 0 ∧ R0.slots = 0) (hr0 : ret0 = some .boolean) (d : decode cc pc = .ok (.ireturn, 1)) : am_S G pc (tb_zret) := by
  obtain ⟨p, l, e, R, s, m, args, below, meth, c, Q, D, cA, A, nL, M0, ad0, ret, fz⟩ := G
  obtain ⟨hx, hb, hml, hown, hts, hK, hA, hlk, hnm, hR, hnL, hrt, hbc, hbs, hfz, hne⟩ := X
  subst hR hnL hrt hfz
  intro K Q' ls st M hKK hQ hT
  unfold tb_zret at hT
  split at hT
  · next x =>
    intro ad H locs ls' hH hsub hL
    exact hQ _ _ hT.2 ad H locs ls' pc _ hH hsub (by rw [hr0]; exact hT.1) trivial rfl (by rw [hb]; exact d) (fun _ => ⟨by have := hsub.1; have := hsub.2.2.1; omega, by have := hsub.2.1; have := hsub.2.2.2.1; omega⟩)
  · exact hT.elim
theorem as_aret {G : am_G} {cc : ByteArray} {own nm : String} {R0 : Room} {ret0 : Option FieldType} {nL0 bc bs : Nat} {f0 : Bool} {pc : Nat} (X : am_Cx G cc own nm R0 ret0 nL0 bc bs f0) (hc0 : R0.cells = 0 ∧ R0.slots = 0) (hr0 : ∃ n, ret0 = some (.object n)) (d : decode cc pc = .ok (.areturn, 1)) : am_S G pc (tb_aret) := by
  obtain ⟨p, l, e, R, s, m, args, below, meth, c, Q, D, cA, A, nL, M0, ad0, ret, fz⟩ := G
  obtain ⟨hx, hb, hml, hown, hts, hK, hA, hlk, hnm, hR, hnL, hrt, hbc, hbs, hfz, hne⟩ := X
  subst hR hnL hrt hfz
  intro K Q' ls st M hKK hQ hT
  obtain ⟨n, hr0⟩ := hr0
  unfold tb_aret at hT
  split at hT
  · next x =>
    intro ad H locs ls' hH hsub hL
    exact hQ _ _ hT.2 ad H locs ls' pc _ hH hsub (by rw [hr0]; exact trivial) hT.1 rfl (by rw [hb]; exact d) (fun _ => ⟨by have := hsub.1; have := hsub.2.2.1; omega, by have := hsub.2.1; have := hsub.2.2.2.1; omega⟩)
  · exact hT.elim
theorem as_retA {G : am_G} {cc : ByteArray} {own nm : String} {R0 : Room} {ret0 : Option FieldType} {nL0 bc bs : Nat} {f0 : Bool} {pc : Nat} (X : am_Cx G cc own nm R0 ret0 nL0 bc bs f0) (hr0 : ret0 = none) (d : decode cc pc = .ok (.return_, 1)) : am_S G pc (tb_retA bc bs) := by
  obtain ⟨p, l, e, R, s, m, args, below, meth, c, Q, D, cA, A, nL, M0, ad0, ret, fz⟩ := G
  obtain ⟨hx, hb, hml, hown, hts, hK, hA, hlk, hnm, hR, hnL, hrt, hbc, hbs, hfz, hne⟩ := X
  subst hR hnL hrt hfz
  intro K Q' ls st M hKK hQ hT
  obtain ⟨rfl, hfin, h2⟩ := hT
  intro ad H locs ls' hH hsub hL
  exact hQ _ _ h2 ad H locs ls' pc _ hH hsub (by rw [hr0]; exact trivial) trivial rfl (by rw [hb]; exact d) (fun _ => ⟨hfin.1.trans hbc, hfin.2.trans hbs⟩)
theorem as_iretA {G : am_G} {cc : ByteArray} {own nm : String} {R0 : Room} {ret0 : Option FieldType} {nL0 bc bs : Nat} {f0 : Bool} {pc : Nat} (X : am_Cx G cc own nm R0 ret0 nL0 bc bs f0) (hr0 : ret0 = some .int) (d : decode cc pc = .ok (.ireturn, 1)) : am_S G pc (tb_iretA bc bs) := by
  obtain ⟨p, l, e, R, s, m, args, below, meth, c, Q, D, cA, A, nL, M0, ad0, ret, fz⟩ := G
  obtain ⟨hx, hb, hml, hown, hts, hK, hA, hlk, hnm, hR, hnL, hrt, hbc, hbs, hfz, hne⟩ := X
  subst hR hnL hrt hfz
  intro K Q' ls st M hKK hQ hT
  unfold tb_iretA at hT
  split at hT
  · next x =>
    intro ad H locs ls' hH hsub hL
    exact hQ _ _ hT.2 ad H locs ls' pc _ hH hsub (by rw [hr0]; exact trivial) trivial rfl (by rw [hb]; exact d) (fun _ => ⟨hT.1.1.trans hbc, hT.1.2.trans hbs⟩)
  · exact hT.elim
theorem as_zretA {G : am_G} {cc : ByteArray} {own nm : String} {R0 : Room} {ret0 : Option FieldType} {nL0 bc bs : Nat} {f0 : Bool} {pc : Nat} (X : am_Cx G cc own nm R0 ret0 nL0 bc bs f0) (hr0 : ret0 = some .boolean) (d : decode cc pc = .ok (.ireturn, 1)) : am_S G pc (tb_zretA bc bs) := by
  obtain ⟨p, l, e, R, s, m, args, below, meth, c, Q, D, cA, A, nL, M0, ad0, ret, fz⟩ := G
  obtain ⟨hx, hb, hml, hown, hts, hK, hA, hlk, hnm, hR, hnL, hrt, hbc, hbs, hfz, hne⟩ := X
  subst hR hnL hrt hfz
  intro K Q' ls st M hKK hQ hT
  unfold tb_zretA at hT
  split at hT
  · next x =>
    intro ad H locs ls' hH hsub hL
    exact hQ _ _ hT.2 ad H locs ls' pc _ hH hsub (by rw [hr0]; exact hT.1.1) trivial rfl (by rw [hb]; exact d) (fun _ => ⟨hT.1.2.1.trans hbc, hT.1.2.2.trans hbs⟩)
  · exact hT.elim
theorem as_zretL {G : am_G} {cc : ByteArray} {own nm : String} {R0 : Room} {ret0 : Option FieldType} {nL0 bc bs : Nat} {f0 : Bool} {pc : Nat} (X : am_Cx G cc own nm R0 ret0 nL0 bc bs f0) (hf0 : f0 = false) (hr0 : ret0 = some .boolean) (d : decode cc pc = .ok (.ireturn, 1)) : am_S G pc (tb_zret) := by
  obtain ⟨p, l, e, R, s, m, args, below, meth, c, Q, D, cA, A, nL, M0, ad0, ret, fz⟩ := G
  obtain ⟨hx, hb, hml, hown, hts, hK, hA, hlk, hnm, hR, hnL, hrt, hbc, hbs, hfz, hne⟩ := X
  subst hR hnL hrt hfz
  intro K Q' ls st M hKK hQ hT
  unfold tb_zret at hT
  split at hT
  · next x =>
    intro ad H locs ls' hH hsub hL
    exact hQ _ _ hT.2 ad H locs ls' pc _ hH hsub (by rw [hr0]; exact hT.1) trivial rfl (by rw [hb]; exact d) (fun h => absurd (hf0.symm.trans h) (by decide))
  · exact hT.elim
