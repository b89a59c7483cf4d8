
/-! ===== the small machine: values, memory by places, operations as transformers ===== -/
abbrev am_V : Type := Int32 ⊕ Nat
abbrev am_M : Type := List (Nat × Nat) × (Nat → Nat → Int32) × (Nat → Nat → Option Nat)
abbrev am_K : Type := Nat → List (Option am_V) → am_M → Prop
abbrev am_R : Type := Option am_V → am_M → Prop
abbrev am_T : Type := List (Option am_V) → List am_V → am_M → am_K → am_R → Prop
abbrev am_sp : Type := List am_V → am_M → am_R → Prop
/-- which fields hold numbers -/
def am_fi (ci j : Nat) : Bool := match ci with
  | 0 => j == 0
  | 1 => j == 0 || j == 4 || j == 9
  | 2 => !(j == 1 || j == 7)
  | 3 => j == 14
  | 4 => j == 2
  | _ => j == 3 || j == 5 || j == 14 || j == 16 || j == 17 || j == 19 || j == 20
def am_nf (ci : Nat) : Nat := match ci with
  | 0 => 2
  | 1 => 14
  | 2 => 8
  | 3 => 17
  | 4 => 7
  | 5 => 21
  | _ => 0
def am_wA (M : am_M) (k : Nat) (f : Nat → Int32) : am_M := (M.1, va_up M.2.1 k f, M.2.2)
def am_wI (M : am_M) (k j : Nat) (x : Int32) : am_M := am_wA M k (upd (M.2.1 k) j x)
def am_wR (M : am_M) (k j q : Nat) : am_M := (M.1, M.2.1, va_up M.2.2 k (va_up (M.2.2 k) j (some q)))
def am_new (M : am_M) (sh : Nat × Nat) : am_M := (M.1 ++ [sh], va_up M.2.1 M.1.length (fun _ => 0), va_up M.2.2 M.1.length (fun _ => none))
def am_sz1 (sh : Nat × Nat) : Nat := if sh.1 = 0 then am_nf sh.2 else sh.2
def am_sz (l : List (Nat × Nat)) : Nat := (l.map am_sz1).sum
def am_cv (ad : Nat → Nat) (v : am_V) : Value := match v with
  | .inl x => .int x
  | .inr k => .ref (ad k)
def am_fv (ad : Nat → Nat) (M : am_M) (k ci j : Nat) : Value := bif am_fi ci j then .int (M.2.1 k j) else va_rf ((M.2.2 k j).map ad)
def am_ent (cA : Nat → ClassId) (ad : Nat → Nat) (M : am_M) (k : Nat) (sh : Nat × Nat) : va_E :=
  if sh.1 = 0 then .inr (sh.2, (List.range (am_nf sh.2)).map (am_fv ad M k sh.2))
  else if sh.1 = 1 then .inl (cA 0, sh.2, .inl (M.2.1 k))
  else if sh.1 = 2 then .inl (cA 1, sh.2, .inl (M.2.1 k))
  else .inl (cA 2, sh.2, .inr (.inr (.inr (.inr (fun j => (M.2.2 k j).map ad)))))
def am_ws (cA : Nat → ClassId) (ad : Nat → Nat) (M : am_M) : va_W := (M.1.mapIdx (fun k sh => (ad k, am_ent cA ad M k sh))).drop 4
theorem am_ws_at {cA : Nat → ClassId} {ad : Nat → Nat} {M : am_M} {k : Nat} {sh : Nat × Nat} (h : M.1[k]? = some sh) (h4 : 4 ≤ k) : (am_ws cA ad M)[k - 4]? = some (ad k, am_ent cA ad M k sh) := by
  simp [am_ws, List.getElem?_drop, List.getElem?_mapIdx, show 4 + (k - 4) = k by omega, h]
theorem am_ent_eq {cA : Nat → ClassId} {ad : Nat → Nat} {M M' : am_M} {k : Nat} (hI : M'.2.1 k = M.2.1 k) (hR : M'.2.2 k = M.2.2 k) (sh : Nat × Nat) : am_ent cA ad M' k sh = am_ent cA ad M k sh := by
  have h : ∀ ci, am_fv ad M' k ci = am_fv ad M k ci := fun ci => by funext j; simp only [am_fv, hI, hR]
  simp only [am_ent, hI, hR, h]
theorem am_ws_set {cA : Nat → ClassId} {ad : Nat → Nat} {M M' : am_M} {k : Nat} {sh : Nat × Nat} {e : va_E} (h1 : M'.1 = M.1) (hk : M.1[k]? = some sh) (h4 : 4 ≤ k) (hI : ∀ i, i ≠ k → M'.2.1 i = M.2.1 i) (hR : ∀ i, i ≠ k → M'.2.2 i = M.2.2 i) (he : am_ent cA ad M' k sh = e) : am_ws cA ad M' = (am_ws cA ad M).set (k - 4) (ad k, e) := by
  apply List.ext_getElem?
  intro i
  have hlen : k < M.1.length := (List.getElem?_eq_some_iff.mp hk).1
  rw [List.getElem?_set]
  by_cases hi : k - 4 = i
  · subst hi
    rw [am_ws_at (by rw [h1]; exact hk) h4, he, if_pos rfl, if_pos (by simp [am_ws]; omega)]
  · rw [if_neg hi]
    simp only [am_ws, List.getElem?_drop, List.getElem?_mapIdx, h1]
    cases hj : M.1[4 + i]? with
    | none => rfl
    | some q =>
      simp only [Option.map_some]
      rw [am_ent_eq (hI _ (by omega)) (hR _ (by omega))]
theorem am_ws_new {cA : Nat → ClassId} {ad ad' : Nat → Nat} {M : am_M} {sh : Nat × Nat} {q : Nat} {e : va_E} (h4 : 4 ≤ M.1.length) (had : ∀ k, k < M.1.length → ad' k = ad k) (hq : ad' M.1.length = q) (hcl : ∀ k j y, k < M.1.length → M.2.2 k j = some y → y < M.1.length) (he : am_ent cA ad' (am_new M sh) M.1.length sh = e) : am_ws cA ad' (am_new M sh) = am_ws cA ad M ++ [(q, e)] := by
  apply List.ext_getElem?
  intro i
  have hl : (am_ws cA ad M).length = M.1.length - 4 := by simp [am_ws]
  by_cases hi : i < M.1.length - 4
  · rw [List.getElem?_append_left (by omega)]
    simp only [am_ws, am_new, List.getElem?_drop, List.getElem?_mapIdx]
    rw [List.getElem?_append_left (by omega)]
    cases hj : M.1[4 + i]? with
    | none => rfl
    | some z =>
      simp only [Option.map_some]
      have hlt : 4 + i < M.1.length := by omega
      have hne : 4 + i ≠ M.1.length := by omega
      have h1 : ∀ ci, am_fv ad' (am_new M sh) (4 + i) ci = am_fv ad M (4 + i) ci := fun ci => by
        funext j
        simp only [am_fv, am_new, va_up, if_neg hne]
        cases am_fi ci j with
        | true => rfl
        | false =>
          simp only [cond_false]
          cases hr : M.2.2 (4 + i) j with
          | none => rfl
          | some y => simp only [Option.map_some]; rw [had y (hcl _ _ _ hlt hr)]
      have h2 : (fun j => ((am_new M sh).2.2 (4 + i) j).map ad') = (fun j => (M.2.2 (4 + i) j).map ad) := by
        funext j
        simp only [am_new, va_up, if_neg hne]
        cases hr : M.2.2 (4 + i) j with
        | none => rfl
        | some y => simp only [Option.map_some]; rw [had y (hcl _ _ _ hlt hr)]
      have h3 : (am_new M sh).2.1 (4 + i) = M.2.1 (4 + i) := by simp only [am_new, va_up, if_neg hne]
      have h5 : am_ent cA ad' (am_new M sh) (4 + i) z = am_ent cA ad M (4 + i) z := by
        unfold am_ent
        rw [h1, h2, h3]
      exact congrArg some (Prod.ext (had _ hlt) h5)
  · rw [List.getElem?_append_right (by omega)]
    rw [hl]
    simp only [am_ws, List.getElem?_drop, List.getElem?_mapIdx]
    by_cases hi2 : i = M.1.length - 4
    · subst hi2
      have h6 : 4 + (M.1.length - 4) = M.1.length := by omega
      have h7 : (am_new M sh).1[M.1.length]? = some sh := by simp [am_new]
      rw [h6, h7]
      simp only [Nat.sub_self, List.getElem?_cons_zero, Option.map_some]
      rw [hq, he]
    · rw [List.getElem?_eq_none (by simp [am_new]; omega), List.getElem?_eq_none (by simp; omega)]
      rfl
/-- the locals -/
def am_L (ad : Nat → Nat) (nL : Nat) (ls : List (Option am_V)) (ls' : Array Slot) : Prop := ls'.size = nL ∧ lv_wf ls' ∧ ls.length = nL ∧ ∀ (i : Nat) (v : am_V), ls[i]? = some (some v) → ls'[i]? = some (Slot.val (am_cv ad v))
def am_lv (ad : Nat → Nat) (ls : List (Option am_V)) : List (Nat × Value) := (ls.mapIdx (fun i o => (i, o))).filterMap (fun q => q.2.map (fun v => (q.1, am_cv ad v)))
theorem am_lv_mem {ad : Nat → Nat} {ls : List (Option am_V)} {q : Nat × Value} : q ∈ am_lv ad ls ↔ ∃ v, ls[q.1]? = some (some v) ∧ q.2 = am_cv ad v := by
  unfold am_lv
  constructor
  · intro h0
    obtain ⟨a, ha, h2⟩ := List.mem_filterMap.mp h0
    obtain ⟨i, hi⟩ := List.mem_iff_getElem?.mp ha
    rw [List.getElem?_mapIdx] at hi
    cases hj : ls[i]? with
    | none => rw [hj] at hi; cases hi
    | some o =>
      rw [hj] at hi
      cases hi
      cases o with
      | none => cases h2
      | some v =>
        cases h2
        exact ⟨v, hj, rfl⟩
  · rintro ⟨v, h, h2⟩
    refine List.mem_filterMap.mpr ⟨(q.1, some v), List.mem_iff_getElem?.mpr ⟨q.1, by rw [List.getElem?_mapIdx, h]; rfl⟩, ?_⟩
    show some (q.1, am_cv ad v) = some q
    rw [← h2]
theorem am_cat (ad : Nat → Nat) (v : am_V) : (am_cv ad v).category = 1 := by cases v <;> rfl
theorem am_L_has {ad : Nat → Nat} {nL : Nat} {ls : List (Option am_V)} {ls' : Array Slot} (h : am_L ad nL ls ls') : lv_has ls' nL (am_lv ad ls) := by
  refine ⟨h.1, h.2.1, fun q hq => ?_⟩
  obtain ⟨v, h1, h2⟩ := am_lv_mem.mp hq
  rw [h2]
  exact h.2.2.2 _ _ h1
theorem am_L_set {ad : Nat → Nat} {nL : Nat} {ls : List (Option am_V)} {ls' : Array Slot} {i : Nat} {v : am_V} (hlen : ls.length = nL) (h : lv_has ls' nL ((i, am_cv ad v) :: (am_lv ad ls).filter (fun q => !(q.1 == i) && !(q.1 + 1 == i && q.2.category == 2)))) : am_L ad nL (ls.set i (some v)) ls' := by
  refine ⟨h.1, h.2.1, by rw [List.length_set]; exact hlen, fun j w hj => ?_⟩
  rw [List.getElem?_set] at hj
  by_cases hij : i = j
  · subst hij
    split at hj
    · split at hj
      · cases hj
        exact h.2.2 _ List.mem_cons_self
      · cases hj
    · exact absurd rfl (by assumption)
  · rw [if_neg hij] at hj
    refine h.2.2 (j, am_cv ad w) (List.mem_cons_of_mem _ (List.mem_filter.mpr ⟨am_lv_mem.mpr ⟨w, hj, rfl⟩, ?_⟩))
    simp [am_cat, Ne.symm hij]
/-! the surroundings of a walk -/
abbrev am_G : Type := Program × Launch × Env × Room × State × MethodId × Array Value × List Frame × Method × Code × (State → Prop) × va_G × (Nat → ClassId) × (Nat → Prop) × Nat × am_M × (Nat → Nat) × Option FieldType × Bool
def am_tys (cA : Nat → ClassId) : List (ClassId × FieldType) := [(cA 0, .int), (cA 1, .char), (cA 2, .object RX1)]
/-- links between nest mates, and the rows of logs -/
def am_NW : List Cond := [.methodLinkNest RX4 9 yX3_init RX4, .fieldLinkNest RX1 55 "ChatThreads" "FIRST_VALUES" "[I" RX4, .methodLinkNest RX4 34 yX2_init RX4, .methodLinkNest RX1 68 yX4_isIn RX4, .methodLinkNest RX3 119 yX4_isIn RX4]
def am_nest (U : State) : Prop := (∀ w ∈ am_NW, va_Nw w U) ∧ va_AO RX1 U
theorem am_nest.warm {s U : State} (hW : s.WarmedH U.vm) (h : am_nest s) : am_nest U := by
  refine ⟨fun w hw => ?_, va_AO.moved hW.alike h.2⟩
  have h1 := h.1 w hw
  simp only [am_NW, List.mem_cons, List.not_mem_nil, or_false] at hw
  rcases hw with rfl | rfl | rfl | rfl | rfl
  · exact va_Nw.warmM hW h1
  · exact va_Nw.warmF hW h1
  · exact va_Nw.warmM hW h1
  · exact va_Nw.warmM hW h1
  · exact va_Nw.warmM hW h1
theorem am_nest.same {u U : State} (h : u.vm = U.vm) (hn : am_nest u) : am_nest U := by
  refine ⟨fun w hw => va_Nw.same ?_ h (hn.1 w hw), va_AO.moved (by rw [h]; exact Vm.Alike.refl _) hn.2⟩
  simp only [am_NW, List.mem_cons, List.not_mem_nil, or_false] at hw
  rcases hw with rfl | rfl | rfl | rfl | rfl <;> rfl
def am_ro (s : State) (A : Nat → Prop) (ad : Nat → Nat) (M : am_M) : Prop := (∀ j n, j < 4 → M.1[j]? = some (4, n) → va_T .int (ad j) n (fun i => .int (M.2.1 j i)) A s s.heap) ∧ va_Z RX4 "FIRST_VALUES" "[I" (.ref (ad 0)) A s s.heap ∧ va_Z RX4 "LEAST_VALUES" "[I" (.ref (ad 1)) A s s.heap ∧ va_Z RX4 "GREATEST_VALUES" "[I" (.ref (ad 2)) A s s.heap
def am_ok (M : am_M) : Prop := 4 ≤ M.1.length ∧ (∀ k sh, M.1[k]? = some sh → (k < 4 ↔ sh.1 = 4)) ∧ (∀ k j y, k < M.1.length → M.2.2 k j = some y → y < M.1.length)
def am_H (s : State) (A : Nat → Prop) (D : va_G) (cA : Nat → ClassId) (ad : Nat → Nat) (M : am_M) (H : Heap) (locs : List Loc) : Prop := am_ok M ∧ am_ro s A ad M ∧ va_P D vwCl (am_ws cA ad M) H ∧ va_D A (am_ws cA ad M) ∧ va_S A s.heap H locs
def am_sub (R : Room) (M0 : am_M) (ad0 : Nat → Nat) (M : am_M) (ad : Nat → Nat) : Prop := M0.1.length ≤ M.1.length ∧ am_sz M0.1 ≤ am_sz M.1 ∧ M.1.length ≤ M0.1.length + R.cells ∧ am_sz M.1 ≤ am_sz M0.1 + R.slots ∧ (∀ j, j < 4 → M.2.1 j = M0.2.1 j ∧ M.1[j]? = M0.1[j]?) ∧ ∀ k, k < M0.1.length → ad k = ad0 k
def am_AW (G : am_G) (pc : Nat) (ls : List (Option am_V)) (st : List am_V) (M : am_M) : Prop := match G with
  | (p, l, e, R, s, m, args, below, meth, c, Q, D, cA, A, nL, M0, ad0, _, _) => ∀ (ad : Nat → Nat) (H : Heap) (locs : List Loc) (ls' : Array Slot), am_H s A D cA ad M H locs → am_sub R M0 ad0 M ad → am_L ad nL ls ls' →
      W p l e R s m args below meth c H locs (M.1.length - M0.1.length) (am_sz M.1 - am_sz M0.1) Q (F0 m pc ls' (st.map (am_cv ad)))
def am_rok (ret : Option FieldType) (r : Option am_V) : Prop := match ret, r with
  | none, none => True
  | some .int, some (.inl _) => True
  | some .boolean, some (.inl x) => x = 0 ∨ x = 1
  | some (.object _), some (.inr _) => True
  | _, _ => False
def am_rin (r : Option am_V) (M : am_M) : Prop := match r with
  | some (.inr x) => x < M.1.length
  | _ => True
def am_ri (r : Option am_V) (i : Instr) : Prop := match r with
  | none => i = .return_
  | some (.inl _) => i = .ireturn
  | some (.inr _) => i = .areturn
def am_Ret (G : am_G) (r : Option am_V) (M : am_M) : Prop := match G with
  | (p, l, e, R, s, m, args, below, meth, c, Q, D, cA, A, _, M0, ad0, ret, fz) => ∀ (ad : Nat → Nat) (H : Heap) (locs : List Loc) (ls' : Array Slot) (pc : Nat) (i : Instr), am_H s A D cA ad M H locs → am_sub R M0 ad0 M ad → am_rok ret r → am_rin r M → am_ri r i → decode c.code pc = .ok (i, 1) → (fz = true → M.1.length = M0.1.length + R.cells ∧ am_sz M.1 = am_sz M0.1 + R.slots) →
      W p l e R s m args below meth c H locs (M.1.length - M0.1.length) (am_sz M.1 - am_sz M0.1) Q (F0 m pc ls' (r.toList.map (am_cv ad)))
def am_Cx (G : am_G) (cc : ByteArray) (own nm : String) (R0 : Room) (ret0 : Option FieldType) (nL0 bc bs : Nat) (f0 : Bool) : Prop := match G with
  | (p, _, _, R, s, m, args, _, meth, c, _, D, cA, A, nL, M0, _, ret, fz) => p.tables.exec = Jvm.exec ∧ c.code = cc ∧ c.maxLocals = nL ∧ s.vm.findClass own = some m.cls ∧ (∀ w ∈ am_W, w.before args s = true) ∧ va_K D vwCl (am_tys cA) s ∧ (∀ q, s.heap.size ≤ q → A q) ∧ meth.locks = false ∧ meth.name = nm ∧ R = R0 ∧ nL = nL0 ∧ ret = ret0 ∧ bc = M0.1.length + R.cells ∧ bs = am_sz M0.1 + R.slots ∧ fz = f0 ∧ am_nest s
def am_S (G : am_G) (pc : Nat) (T : am_T) : Prop := ∀ (K : am_K) (Q' : am_R) (ls : List (Option am_V)) (st : List am_V) (M : am_M), (∀ h ls M, K h ls M → am_AW G h ls [] M) → (∀ r M, Q' r M → am_Ret G r M) → T ls st M K Q' → am_AW G pc ls st M
/-! a memory that changed at one place -/
theorem am_H_set {s : State} {A : Nat → Prop} {D : va_G} {cA : Nat → ClassId} {ad : Nat → Nat} {M M' : am_M} {H H1 : Heap} {locs locs1 : List Loc} {k : Nat} {sh : Nat × Nat} {e : va_E} (hH : am_H s A D cA ad M H locs) (h1 : M'.1 = M.1) (hk : M.1[k]? = some sh) (h4 : 4 ≤ k) (hI : ∀ i, i ≠ k → M'.2.1 i = M.2.1 i) (hR : ∀ i, i ≠ k → M'.2.2 i = M.2.2 i) (hcl : ∀ j y, M'.2.2 k j = some y → y < M.1.length) (he : am_ent cA ad M' k sh = e) (hP : va_P D vwCl ((am_ws cA ad M).set (k - 4) (ad k, e)) H1) (hD : va_D A ((am_ws cA ad M).set (k - 4) (ad k, e))) (hS : va_S A s.heap H1 locs1) : am_H s A D cA ad M' H1 locs1 := by
  obtain ⟨⟨o1, o2, o3⟩, ⟨r1, r2⟩, -⟩ := hH
  refine ⟨⟨by rw [h1]; exact o1, by rw [h1]; exact o2, fun i j y hi hy => ?_⟩, ⟨fun j n hj hn => ?_, r2⟩, ?_, ?_, hS⟩
  · rw [h1] at hi ⊢
    by_cases hik : i = k
    · subst hik
      exact hcl j y hy
    · rw [hR i hik] at hy
      exact o3 i j y hi hy
  · rw [hI j (by omega)]
    exact r1 j n hj (by rw [← h1]; exact hn)
  · rw [am_ws_set h1 hk h4 hI hR he]; exact hP
  · rw [am_ws_set h1 hk h4 hI hR he]; exact hD
theorem am_sub_set {R : Room} {M0 M M' : am_M} {ad0 ad : Nat → Nat} {k : Nat} (h : am_sub R M0 ad0 M ad) (h1 : M'.1 = M.1) (h4 : 4 ≤ k) (hI : ∀ i, i ≠ k → M'.2.1 i = M.2.1 i) : am_sub R M0 ad0 M' ad := by
  obtain ⟨g1, g2, g3, g4, g5, g6⟩ := h
  refine ⟨by rw [h1]; exact g1, by rw [h1]; exact g2, by rw [h1]; exact g3, by rw [h1]; exact g4, fun j hj => ?_, g6⟩
  rw [h1, hI j (by omega)]
  exact g5 j hj
theorem am_4 {M : am_M} (h : am_ok M) {k : Nat} {sh : Nat × Nat} (hk : M.1[k]? = some sh) (hn : sh.1 ≠ 4) : 4 ≤ k := by
  have h2 := h.2.1 k sh hk
  have : ¬ k < 4 := fun q => hn (h2.mp q)
  omega
/-! ===== the operations ===== -/
def tb_const (v : Int32) (k : am_T) : am_T := fun ls st M K Q => k ls (.inl v :: st) M K Q
def tb_load (i : Nat) (k : am_T) : am_T := fun ls st M K Q => match ls[i]? with
  | some (some v) => k ls (v :: st) M K Q
  | _ => False
def tb_iload (i : Nat) (k : am_T) : am_T := fun ls st M K Q => match ls[i]? with
  | some (some (.inl x)) => k ls (.inl x :: st) M K Q
  | _ => False
def tb_aload (i : Nat) (k : am_T) : am_T := fun ls st M K Q => match ls[i]? with
  | some (some (.inr x)) => k ls (.inr x :: st) M K Q
  | _ => False
def tb_istore (i : Nat) (k : am_T) : am_T := fun ls st M K Q => match st with
  | .inl x :: r => k (ls.set i (some (.inl x))) r M K Q
  | _ => False
def tb_astore (i : Nat) (k : am_T) : am_T := fun ls st M K Q => match st with
  | .inr x :: r => k (ls.set i (some (.inr x))) r M K Q
  | _ => False
def tb_iinc (i : Nat) (n : Int32) (k : am_T) : am_T := fun ls st M K Q => match ls[i]? with
  | some (some (.inl x)) => k (ls.set i (some (.inl (x + n)))) st M K Q
  | _ => False
def tb_bin (f : Int32 → Int32 → Int32) (k : am_T) : am_T := fun ls st M K Q => match st with
  | .inl y :: .inl x :: r => k ls (.inl (f x y) :: r) M K Q
  | _ => False
def tb_idiv (k : am_T) : am_T := fun ls st M K Q => match st with
  | .inl y :: .inl x :: r => ¬ y = 0 ∧ k ls (.inl (x / y) :: r) M K Q
  | _ => False
def tb_irem (k : am_T) : am_T := fun ls st M K Q => match st with
  | .inl y :: .inl x :: r => ¬ y = 0 ∧ k ls (.inl (x - x / y * y) :: r) M K Q
  | _ => False
def tb_i2c (k : am_T) : am_T := fun ls st M K Q => match st with
  | .inl x :: r => k ls (.inl (x.toUInt32 % 65536).toInt32 :: r) M K Q
  | _ => False
def tb_dup (k : am_T) : am_T := fun ls st M K Q => match st with
  | x :: r => k ls (x :: x :: r) M K Q
  | _ => False
def tb_dup2 (k : am_T) : am_T := fun ls st M K Q => match st with
  | x :: y :: r => k ls (x :: y :: x :: y :: r) M K Q
  | _ => False
def tb_nn (k : am_T) : am_T := fun ls st M K Q => match st with
  | .inr _ :: r => k ls r M K Q
  | _ => False
def tb_ic (p : Int32 → Int32 → Prop) (kt kf : am_T) : am_T := fun ls st M K Q => match st with
  | .inl y :: .inl x :: r => (p x y → kt ls r M K Q) ∧ (¬ p x y → kf ls r M K Q)
  | _ => False
def tb_if (p : Int32 → Prop) (kt kf : am_T) : am_T := fun ls st M K Q => match st with
  | .inl x :: r => (p x → kt ls r M K Q) ∧ (¬ p x → kf ls r M K Q)
  | _ => False
def tb_sw (lo hi : Int) (ks : Nat → am_T) (kd : am_T) : am_T := fun ls st M K Q => match st with
  | .inl x :: r => ((x.toInt < lo ∨ hi < x.toInt) → kd ls r M K Q) ∧ (∀ j : Nat, x.toInt = lo + j → lo + j ≤ hi → ks j ls r M K Q)
  | _ => False
def tb_head (h : Nat) : am_T := fun ls st M K _ => st = [] ∧ K h ls M
def tb_getI (ci j : Nat) (k : am_T) : am_T := fun ls st M K Q => match st with
  | .inr a :: r => M.1[a]? = some (0, ci) ∧ k ls (.inl (M.2.1 a j) :: r) M K Q
  | _ => False
def tb_getR (ci j : Nat) (k : am_T) : am_T := fun ls st M K Q => match st with
  | .inr a :: r => M.1[a]? = some (0, ci) ∧ ∃ q, M.2.2 a j = some q ∧ k ls (.inr q :: r) M K Q
  | _ => False
def tb_putI (ci j : Nat) (k : am_T) : am_T := fun ls st M K Q => match st with
  | .inl x :: .inr a :: r => M.1[a]? = some (0, ci) ∧ k ls r (am_wI M a j x) K Q
  | _ => False
def tb_putN (ty : FieldType) (ci j : Nat) (k : am_T) : am_T := fun ls st M K Q => match st with
  | .inl x :: .inr a :: r => M.1[a]? = some (0, ci) ∧ (narrow ty (.int x) = .int x ∧ fits ty (.int x) = true) ∧ k ls r (am_wI M a j x) K Q
  | _ => False
def tb_putR (ci j : Nat) (k : am_T) : am_T := fun ls st M K Q => match st with
  | .inr q :: .inr a :: r => M.1[a]? = some (0, ci) ∧ q < M.1.length ∧ k ls r (am_wR M a j q) K Q
  | _ => False
/-- a row of numbers at a place, and an index in it -/
def am_arr (M : am_M) (a : Nat) (i : Int32) : Prop := ∃ n, (M.1[a]? = some (1, n) ∨ M.1[a]? = some (4, n)) ∧ vp_in i n
def tb_iald (k : am_T) : am_T := fun ls st M K Q => match st with
  | .inl i :: .inr a :: r => am_arr M a i ∧ k ls (.inl (M.2.1 a i.toNatClampNeg) :: r) M K Q
  | _ => False
def tb_cald (k : am_T) : am_T := fun ls st M K Q => match st with
  | .inl i :: .inr a :: r => (∃ n, M.1[a]? = some (2, n) ∧ vp_in i n) ∧ k ls (.inl (M.2.1 a i.toNatClampNeg) :: r) M K Q
  | _ => False
def tb_iast (k : am_T) : am_T := fun ls st M K Q => match st with
  | .inl x :: .inl i :: .inr a :: r => (∃ n, M.1[a]? = some (1, n) ∧ vp_in i n) ∧ k ls r (am_wI M a i.toNatClampNeg x) K Q
  | _ => False
def tb_cast (k : am_T) : am_T := fun ls st M K Q => match st with
  | .inl x :: .inl i :: .inr a :: r => (∃ n, M.1[a]? = some (2, n) ∧ vp_in i n) ∧ k ls r (am_wI M a i.toNatClampNeg (vp_nar .char x)) K Q
  | _ => False
def tb_aald (k : am_T) : am_T := fun ls st M K Q => match st with
  | .inl i :: .inr a :: r => (∃ n, M.1[a]? = some (3, n) ∧ vp_in i n) ∧ ∃ q, M.2.2 a i.toNatClampNeg = some q ∧ k ls (.inr q :: r) M K Q
  | _ => False
def tb_aast (k : am_T) : am_T := fun ls st M K Q => match st with
  | .inr q :: .inl i :: .inr a :: r => (∃ n, M.1[a]? = some (3, n) ∧ vp_in i n) ∧ M.1[q]? = some (0, 1) ∧ k ls r (am_wR M a i.toNatClampNeg q) K Q
  | _ => False
def tb_alen (k : am_T) : am_T := fun ls st M K Q => match st with
  | .inr a :: r => ∃ n, M.1[a]? = some (4, n) ∧ k ls (.inl (Int32.ofNat n) :: r) M K Q
  | _ => False
def tb_stat (j : Nat) (k : am_T) : am_T := fun ls st M K Q => k ls (.inr j :: st) M K Q
def tb_bad : am_T := fun _ _ _ _ _ => False
def tb_pop (k : am_T) : am_T := fun ls st M K Q => match st with
  | .inr _ :: r => r.length ≤ 8 ∧ k ls r M K Q
  | _ => False
def tb_mm (f : Int32 → Int32 → Int32) (k : am_T) : am_T := fun ls st M K Q => match st with
  | .inl y :: .inl x :: r => r.length ≤ 8 ∧ k ls (.inl (f x y) :: r) M K Q
  | _ => False
/-- a copy within rows of numbers: all of it, from place 0 to place 0 -/
def tb_copy (k : am_T) : am_T := fun ls st M K Q => match st with
  | .inl n :: .inl dp :: .inr b :: .inl sp :: .inr a :: r => (r.length ≤ 8 ∧ sp = 0 ∧ dp = 0 ∧ ¬ n < 0 ∧ (∃ n0, (M.1[a]? = some (1, n0) ∨ M.1[a]? = some (4, n0)) ∧ n.toNatClampNeg ≤ n0) ∧ ∃ n1, M.1[b]? = some (1, n1) ∧ n.toNatClampNeg ≤ n1) ∧ k ls r (am_wA M b (va_cpy (M.2.1 a) (M.2.1 b) 0 0 n.toNatClampNeg)) K Q
  | _ => False
def tb_ret : am_T := fun _ st M _ Q => st = [] ∧ Q none M
def tb_iret : am_T := fun _ st M _ Q => match st with
  | [.inl x] => Q (some (.inl x)) M
  | _ => False
def tb_zret : am_T := fun _ st M _ Q => match st with
  | [.inl x] => (x = 0 ∨ x = 1) ∧ Q (some (.inl x)) M
  | _ => False
def tb_aret : am_T := fun _ st M _ Q => match st with
  | [.inr x] => x < M.1.length ∧ Q (some (.inr x)) M
  | _ => False
def tb_retA (bc bs : Nat) : am_T := fun _ st M _ Q => st = [] ∧ (M.1.length = bc ∧ am_sz M.1 = bs) ∧ Q none M
def tb_iretA (bc bs : Nat) : am_T := fun _ st M _ Q => match st with
  | [.inl x] => (M.1.length = bc ∧ am_sz M.1 = bs) ∧ Q (some (.inl x)) M
  | _ => False
def tb_zretA (bc bs : Nat) : am_T := fun _ st M _ Q => match st with
  | [.inl x] => ((x = 0 ∨ x = 1) ∧ M.1.length = bc ∧ am_sz M.1 = bs) ∧ Q (some (.inl x)) M
  | _ => False
def am_all (M : am_M) (ls : List (Option am_V)) (st : List am_V) : Prop := (∀ i k : Nat, ls[i]? = some (some (Sum.inr k)) → k < M.1.length) ∧ ∀ k : Nat, Sum.inr k ∈ st → k < M.1.length
def tb_new (bc bs : Nat) (ci : Nat) (k : am_T) : am_T := fun ls st M K Q => (M.1.length + 1 ≤ bc ∧ am_sz M.1 + am_nf ci ≤ bs ∧ am_all M ls st) ∧ k ls (.inr M.1.length :: st) (am_new M (0, ci)) K Q
def tb_newa (bc bs : Nat) (kd : Nat) (k : am_T) : am_T := fun ls st M K Q => match st with
  | .inl n :: r => (¬ n < 0 ∧ n.toNatClampNeg ≤ 100000 ∧ M.1.length + 1 ≤ bc ∧ am_sz M.1 + n.toNatClampNeg ≤ bs ∧ am_all M ls r) ∧ k ls (.inr M.1.length :: r) (am_new M (kd, n.toNatClampNeg)) K Q
  | _ => False
def tb_callV (ci : Nat) (sp : am_sp) (n : Nat) (k : am_T) : am_T := fun ls st M K Q => match (st.take n).reverse with
  | .inr b :: as => (n ≤ st.length ∧ (st.drop n).length ≤ 8 ∧ M.1[b]? = some (0, ci)) ∧ sp (.inr b :: as) M (fun r M' => k ls (r.toList ++ st.drop n) M' K Q)
  | _ => False
def tb_callS (sp : am_sp) (n : Nat) (k : am_T) : am_T := fun ls st M K Q => (n ≤ st.length ∧ (st.drop n).length ≤ 8) ∧ sp (st.take n).reverse M (fun r M' => k ls (r.toList ++ st.drop n) M' K Q)
/-- a call of what makes mc cells of ms places -/
def tb_callSA (bc bs mc ms : Nat) (sp : am_sp) (n : Nat) (k : am_T) : am_T := fun ls st M K Q => (n ≤ st.length ∧ (st.drop n).length ≤ 8 ∧ M.1.length + mc ≤ bc ∧ am_sz M.1 + ms ≤ bs ∧ am_all M ls (st.drop n)) ∧ sp (st.take n).reverse M (fun r M' => k ls (r.toList ++ st.drop n) M' K Q)
/-- a constructor's call: it makes mc cells of ms places -/
def tb_callI (bc bs mc ms : Nat) (sp : am_sp) (n : Nat) (k : am_T) : am_T := fun ls st M K Q => match (st.take n).reverse with
  | .inr b :: as => (n ≤ st.length ∧ (st.drop n).length ≤ 8 ∧ M.1.length + mc ≤ bc ∧ am_sz M.1 + ms ≤ bs ∧ am_all M ls (st.drop n)) ∧ sp (.inr b :: as) M (fun r M' => k ls (r.toList ++ st.drop n) M' K Q)
  | _ => False
theorem as_iconst {G : am_G} {cc : ByteArray} {own nm : String} {R0 : Room} {ret0 : Option FieldType} {nL0 bc bs : Nat} {f0 : Bool} {pc : Nat} {k : am_T} (X : am_Cx G cc own nm R0 ret0 nL0 bc bs f0) {n : Int} {v : Int32} (d : decode cc pc = .ok (.iconst n, 1)) (hv : Int32.ofInt n = v) (hk : am_S G (pc + 1) k) : am_S G pc (tb_const v k) := by
  obtain ⟨p, l, e, R, s, m, args, below, meth, c, Q, D, cA, A, nL, M0, ad0, ret, fz⟩ := G
  obtain ⟨hx, hb, hml, hown, hts, hK, hA, hlk, hnm, hR, hnL, hrt, hbc, hbs, hfz, hne⟩ := X
  subst hR hnL hrt hfz
  intro K Q' ls st M hKK hQ hT
  intro ad H locs ls' hH hsub hL
  exact lv_iconst hx hb d hv (hk K Q' _ _ _ hKK hQ hT _ _ _ _ hH hsub hL)
theorem as_bipush {G : am_G} {cc : ByteArray} {own nm : String} {R0 : Room} {ret0 : Option FieldType} {nL0 bc bs : Nat} {f0 : Bool} {pc : Nat} {k : am_T} (X : am_Cx G cc own nm R0 ret0 nL0 bc bs f0) {n : Int} {v : Int32} (d : decode cc pc = .ok (.bipush n, 2)) (hv : (Int8.ofInt n).toInt32 = v) (hk : am_S G (pc + 2) k) : am_S G pc (tb_const v k) := by
  obtain ⟨p, l, e, R, s, m, args, below, meth, c, Q, D, cA, A, nL, M0, ad0, ret, fz⟩ := G
  obtain ⟨hx, hb, hml, hown, hts, hK, hA, hlk, hnm, hR, hnL, hrt, hbc, hbs, hfz, hne⟩ := X
  subst hR hnL hrt hfz
  intro K Q' ls st M hKK hQ hT
  intro ad H locs ls' hH hsub hL
  exact lv_bipush hx hb d hv (hk K Q' _ _ _ hKK hQ hT _ _ _ _ hH hsub hL)
theorem as_sipush {G : am_G} {cc : ByteArray} {own nm : String} {R0 : Room} {ret0 : Option FieldType} {nL0 bc bs : Nat} {f0 : Bool} {pc : Nat} {k : am_T} (X : am_Cx G cc own nm R0 ret0 nL0 bc bs f0) {n : Int} {v : Int32} (d : decode cc pc = .ok (.sipush n, 3)) (hv : (Int16.ofInt n).toInt32 = v) (hk : am_S G (pc + 3) k) : am_S G pc (tb_const v k) := by
  obtain ⟨p, l, e, R, s, m, args, below, meth, c, Q, D, cA, A, nL, M0, ad0, ret, fz⟩ := G
  obtain ⟨hx, hb, hml, hown, hts, hK, hA, hlk, hnm, hR, hnL, hrt, hbc, hbs, hfz, hne⟩ := X
  subst hR hnL hrt hfz
  intro K Q' ls st M hKK hQ hT
  intro ad H locs ls' hH hsub hL
  exact lv_sipush hx hb d hv (hk K Q' _ _ _ hKK hQ hT _ _ _ _ hH hsub hL)
theorem as_ldc {G : am_G} {cc : ByteArray} {own nm : String} {R0 : Room} {ret0 : Option FieldType} {nL0 bc bs : Nat} {f0 : Bool} {pc : Nat} {k : am_T} (X : am_Cx G cc own nm R0 ret0 nL0 bc bs f0) {ix : Nat} {v : Int32} (d : decode cc pc = .ok (.ldc ix, 2)) (hw : Cond.constant own ix v ∈ am_W) (hk : am_S G (pc + 2) k) : am_S G pc (tb_const v k) := by
  obtain ⟨p, l, e, R, s, m, args, below, meth, c, Q, D, cA, A, nL, M0, ad0, ret, fz⟩ := G
  obtain ⟨hx, hb, hml, hown, hts, hK, hA, hlk, hnm, hR, hnL, hrt, hbc, hbs, hfz, hne⟩ := X
  subst hR hnL hrt hfz
  intro K Q' ls st M hKK hQ hT
  intro ad H locs ls' hH hsub hL
  exact lv_ldc hx hb hown (hts _ hw) d (hk K Q' _ _ _ hKK hQ hT _ _ _ _ hH hsub hL)
theorem as_ldcw {G : am_G} {cc : ByteArray} {own nm : String} {R0 : Room} {ret0 : Option FieldType} {nL0 bc bs : Nat} {f0 : Bool} {pc : Nat} {k : am_T} (X : am_Cx G cc own nm R0 ret0 nL0 bc bs f0) {ix : Nat} {v : Int32} (d : decode cc pc = .ok (.ldc_w ix, 3)) (hw : Cond.constant own ix v ∈ am_W) (hk : am_S G (pc + 3) k) : am_S G pc (tb_const v k) := by
  obtain ⟨p, l, e, R, s, m, args, below, meth, c, Q, D, cA, A, nL, M0, ad0, ret, fz⟩ := G
  obtain ⟨hx, hb, hml, hown, hts, hK, hA, hlk, hnm, hR, hnL, hrt, hbc, hbs, hfz, hne⟩ := X
  subst hR hnL hrt hfz
  intro K Q' ls st M hKK hQ hT
  intro ad H locs ls' hH hsub hL
  exact lv_ldcw hx hb hown (hts _ hw) d (hk K Q' _ _ _ hKK hQ hT _ _ _ _ hH hsub hL)
theorem as_iload_n {G : am_G} {cc : ByteArray} {own nm : String} {R0 : Room} {ret0 : Option FieldType} {nL0 bc bs : Nat} {f0 : Bool} {pc : Nat} {k : am_T} (X : am_Cx G cc own nm R0 ret0 nL0 bc bs f0) {f : Fin 4} {i : Nat} (d : decode cc pc = .ok (.iload_n f, 1)) (hi : (f : Nat) = i) (hk : am_S G (pc + 1) k) : am_S G pc (tb_iload i k) := by
  obtain ⟨p, l, e, R, s, m, args, below, meth, c, Q, D, cA, A, nL, M0, ad0, ret, fz⟩ := G
  obtain ⟨hx, hb, hml, hown, hts, hK, hA, hlk, hnm, hR, hnL, hrt, hbc, hbs, hfz, hne⟩ := X
  subst hR hnL hrt hfz
  intro K Q' ls st M hKK hQ hT
  unfold tb_iload at hT
  split at hT
  · next x hls =>
    intro ad H locs ls' hH hsub hL
    exact lv_iload_n hx hb d hi (hL.2.2.2 _ _ hls) (hk K Q' _ _ _ hKK hQ hT _ _ _ _ hH hsub hL)
  · exact hT.elim
theorem as_istore_n {G : am_G} {cc : ByteArray} {own nm : String} {R0 : Room} {ret0 : Option FieldType} {nL0 bc bs : Nat} {f0 : Bool} {pc : Nat} {k : am_T} (X : am_Cx G cc own nm R0 ret0 nL0 bc bs f0) {f : Fin 4} {i : Nat} (d : decode cc pc = .ok (.istore_n f, 1)) (hi : (f : Nat) = i) (hk : am_S G (pc + 1) k) (hn : i < nL0) : am_S G pc (tb_istore i k) := by
  obtain ⟨p, l, e, R, s, m, args, below, meth, c, Q, D, cA, A, nL, M0, ad0, ret, fz⟩ := G
  obtain ⟨hx, hb, hml, hown, hts, hK, hA, hlk, hnm, hR, hnL, hrt, hbc, hbs, hfz, hne⟩ := X
  subst hR hnL hrt hfz
  intro K Q' ls st M hKK hQ hT
  unfold tb_istore at hT
  split at hT
  · next x r =>
    intro ad H locs ls' hH hsub hL
    exact lv_istore_n hx hb d hi (am_L_has hL) hn rfl (fun ls2 hl2 => hk K Q' _ _ _ hKK hQ hT _ _ _ _ hH hsub (am_L_set (v := .inl x) hL.2.2.1 hl2))
  · exact hT.elim
theorem as_iload {G : am_G} {cc : ByteArray} {own nm : String} {R0 : Room} {ret0 : Option FieldType} {nL0 bc bs : Nat} {f0 : Bool} {pc : Nat} {k : am_T} (X : am_Cx G cc own nm R0 ret0 nL0 bc bs f0) {i : Nat} (d : decode cc pc = .ok (.iload i, 2)) (hk : am_S G (pc + 2) k) : am_S G pc (tb_iload i k) := by
  obtain ⟨p, l, e, R, s, m, args, below, meth, c, Q, D, cA, A, nL, M0, ad0, ret, fz⟩ := G
  obtain ⟨hx, hb, hml, hown, hts, hK, hA, hlk, hnm, hR, hnL, hrt, hbc, hbs, hfz, hne⟩ := X
  subst hR hnL hrt hfz
  intro K Q' ls st M hKK hQ hT
  unfold tb_iload at hT
  split at hT
  · next x hls =>
    intro ad H locs ls' hH hsub hL
    exact lv_iload hx hb d (hL.2.2.2 _ _ hls) (hk K Q' _ _ _ hKK hQ hT _ _ _ _ hH hsub hL)
  · exact hT.elim
theorem as_istore {G : am_G} {cc : ByteArray} {own nm : String} {R0 : Room} {ret0 : Option FieldType} {nL0 bc bs : Nat} {f0 : Bool} {pc : Nat} {k : am_T} (X : am_Cx G cc own nm R0 ret0 nL0 bc bs f0) {i : Nat} (d : decode cc pc = .ok (.istore i, 2)) (hk : am_S G (pc + 2) k) (hn : i < nL0) : am_S G pc (tb_istore i k) := by
  obtain ⟨p, l, e, R, s, m, args, below, meth, c, Q, D, cA, A, nL, M0, ad0, ret, fz⟩ := G
  obtain ⟨hx, hb, hml, hown, hts, hK, hA, hlk, hnm, hR, hnL, hrt, hbc, hbs, hfz, hne⟩ := X
  subst hR hnL hrt hfz
  intro K Q' ls st M hKK hQ hT
  unfold tb_istore at hT
  split at hT
  · next x r =>
    intro ad H locs ls' hH hsub hL
    exact lv_istore hx hb d (am_L_has hL) hn rfl (fun ls2 hl2 => hk K Q' _ _ _ hKK hQ hT _ _ _ _ hH hsub (am_L_set (v := .inl x) hL.2.2.1 hl2))
  · exact hT.elim
theorem as_aload_n {G : am_G} {cc : ByteArray} {own nm : String} {R0 : Room} {ret0 : Option FieldType} {nL0 bc bs : Nat} {f0 : Bool} {pc : Nat} {k : am_T} (X : am_Cx G cc own nm R0 ret0 nL0 bc bs f0) {f : Fin 4} {i : Nat} (d : decode cc pc = .ok (.aload_n f, 1)) (hi : (f : Nat) = i) (hk : am_S G (pc + 1) k) : am_S G pc (tb_aload i k) := by
  obtain ⟨p, l, e, R, s, m, args, below, meth, c, Q, D, cA, A, nL, M0, ad0, ret, fz⟩ := G
  obtain ⟨hx, hb, hml, hown, hts, hK, hA, hlk, hnm, hR, hnL, hrt, hbc, hbs, hfz, hne⟩ := X
  subst hR hnL hrt hfz
  intro K Q' ls st M hKK hQ hT
  unfold tb_aload at hT
  split at hT
  · next x hls =>
    intro ad H locs ls' hH hsub hL
    exact lv_aload_n hx hb d hi (hL.2.2.2 _ _ hls) (hk K Q' _ _ _ hKK hQ hT _ _ _ _ hH hsub hL)
  · exact hT.elim
theorem as_astore_n {G : am_G} {cc : ByteArray} {own nm : String} {R0 : Room} {ret0 : Option FieldType} {nL0 bc bs : Nat} {f0 : Bool} {pc : Nat} {k : am_T} (X : am_Cx G cc own nm R0 ret0 nL0 bc bs f0) {f : Fin 4} {i : Nat} (d : decode cc pc = .ok (.astore_n f, 1)) (hi : (f : Nat) = i) (hk : am_S G (pc + 1) k) (hn : i < nL0) : am_S G pc (tb_astore i k) := by
  obtain ⟨p, l, e, R, s, m, args, below, meth, c, Q, D, cA, A, nL, M0, ad0, ret, fz⟩ := G
  obtain ⟨hx, hb, hml, hown, hts, hK, hA, hlk, hnm, hR, hnL, hrt, hbc, hbs, hfz, hne⟩ := X
  subst hR hnL hrt hfz
  intro K Q' ls st M hKK hQ hT
  unfold tb_astore at hT
  split at hT
  · next x r =>
    intro ad H locs ls' hH hsub hL
    exact lv_astore_n hx hb d hi (am_L_has hL) hn rfl (fun ls2 hl2 => hk K Q' _ _ _ hKK hQ hT _ _ _ _ hH hsub (am_L_set (v := .inr x) hL.2.2.1 hl2))
  · exact hT.elim
theorem as_aload {G : am_G} {cc : ByteArray} {own nm : String} {R0 : Room} {ret0 : Option FieldType} {nL0 bc bs : Nat} {f0 : Bool} {pc : Nat} {k : am_T} (X : am_Cx G cc own nm R0 ret0 nL0 bc bs f0) {i : Nat} (d : decode cc pc = .ok (.aload i, 2)) (hk : am_S G (pc + 2) k) : am_S G pc (tb_aload i k) := by
  obtain ⟨p, l, e, R, s, m, args, below, meth, c, Q, D, cA, A, nL, M0, ad0, ret, fz⟩ := G
  obtain ⟨hx, hb, hml, hown, hts, hK, hA, hlk, hnm, hR, hnL, hrt, hbc, hbs, hfz, hne⟩ := X
  subst hR hnL hrt hfz
  intro K Q' ls st M hKK hQ hT
  unfold tb_aload at hT
  split at hT
  · next x hls =>
    intro ad H locs ls' hH hsub hL
    exact lv_aload hx hb d (hL.2.2.2 _ _ hls) (hk K Q' _ _ _ hKK hQ hT _ _ _ _ hH hsub hL)
  · exact hT.elim
theorem as_astore {G : am_G} {cc : ByteArray} {own nm : String} {R0 : Room} {ret0 : Option FieldType} {nL0 bc bs : Nat} {f0 : Bool} {pc : Nat} {k : am_T} (X : am_Cx G cc own nm R0 ret0 nL0 bc bs f0) {i : Nat} (d : decode cc pc = .ok (.astore i, 2)) (hk : am_S G (pc + 2) k) (hn : i < nL0) : am_S G pc (tb_astore i k) := by
  obtain ⟨p, l, e, R, s, m, args, below, meth, c, Q, D, cA, A, nL, M0, ad0, ret, fz⟩ := G
  obtain ⟨hx, hb, hml, hown, hts, hK, hA, hlk, hnm, hR, hnL, hrt, hbc, hbs, hfz, hne⟩ := X
  subst hR hnL hrt hfz
  intro K Q' ls st M hKK hQ hT
  unfold tb_astore at hT
  split at hT
  · next x r =>
    intro ad H locs ls' hH hsub hL
    exact lv_astore hx hb d (am_L_has hL) hn rfl (fun ls2 hl2 => hk K Q' _ _ _ hKK hQ hT _ _ _ _ hH hsub (am_L_set (v := .inr x) hL.2.2.1 hl2))
  · exact hT.elim
theorem as_iinc {G : am_G} {cc : ByteArray} {own nm : String} {R0 : Room} {ret0 : Option FieldType} {nL0 bc bs : Nat} {f0 : Bool} {pc : Nat} {k : am_T} (X : am_Cx G cc own nm R0 ret0 nL0 bc bs f0) {i : Nat} {n : Int} {v : Int32} (d : decode cc pc = .ok (.iinc i n, 3)) (hv : Int32.ofInt n = v) (hn : i < nL0) (hk : am_S G (pc + 3) k) : am_S G pc (tb_iinc i v k) := by
  obtain ⟨p, l, e, R, s, m, args, below, meth, c, Q, D, cA, A, nL, M0, ad0, ret, fz⟩ := G
  obtain ⟨hx, hb, hml, hown, hts, hK, hA, hlk, hnm, hR, hnL, hrt, hbc, hbs, hfz, hne⟩ := X
  subst hR hnL hrt hfz
  intro K Q' ls st M hKK hQ hT
  unfold tb_iinc at hT
  split at hT
  · next x hls =>
    intro ad H locs ls' hH hsub hL
    obtain ⟨kk, hkk⟩ := List.getElem?_of_mem (am_lv_mem (ad := ad) (q := (i, .int x)).mpr ⟨.inl x, hls, rfl⟩)
    exact lv_iinc hx hb d (am_L_has hL) hkk (by rw [hv]) hn rfl (fun ls2 hl2 => hk K Q' _ _ _ hKK hQ hT _ _ _ _ hH hsub (am_L_set (v := .inl (x + v)) hL.2.2.1 hl2))
  · exact hT.elim
theorem as_iadd {G : am_G} {cc : ByteArray} {own nm : String} {R0 : Room} {ret0 : Option FieldType} {nL0 bc bs : Nat} {f0 : Bool} {pc : Nat} {k : am_T} (X : am_Cx G cc own nm R0 ret0 nL0 bc bs f0) (d : decode cc pc = .ok (.iadd, 1)) (hk : am_S G (pc + 1) k) : am_S G pc (tb_bin (fun x y => x + y) k) := by
  obtain ⟨p, l, e, R, s, m, args, below, meth, c, Q, D, cA, A, nL, M0, ad0, ret, fz⟩ := G
  obtain ⟨hx, hb, hml, hown, hts, hK, hA, hlk, hnm, hR, hnL, hrt, hbc, hbs, hfz, hne⟩ := X
  subst hR hnL hrt hfz
  intro K Q' ls st M hKK hQ hT
  unfold tb_bin at hT
  split at hT
  · next y x r =>
    intro ad H locs ls' hH hsub hL
    exact lv_iadd hx hb d (hk K Q' _ _ _ hKK hQ hT _ _ _ _ hH hsub hL)
  · exact hT.elim
theorem as_isub {G : am_G} {cc : ByteArray} {own nm : String} {R0 : Room} {ret0 : Option FieldType} {nL0 bc bs : Nat} {f0 : Bool} {pc : Nat} {k : am_T} (X : am_Cx G cc own nm R0 ret0 nL0 bc bs f0) (d : decode cc pc = .ok (.isub, 1)) (hk : am_S G (pc + 1) k) : am_S G pc (tb_bin (fun x y => x - y) k) := by
  obtain ⟨p, l, e, R, s, m, args, below, meth, c, Q, D, cA, A, nL, M0, ad0, ret, fz⟩ := G
  obtain ⟨hx, hb, hml, hown, hts, hK, hA, hlk, hnm, hR, hnL, hrt, hbc, hbs, hfz, hne⟩ := X
  subst hR hnL hrt hfz
  intro K Q' ls st M hKK hQ hT
  unfold tb_bin at hT
  split at hT
  · next y x r =>
    intro ad H locs ls' hH hsub hL
    exact lv_isub hx hb d (hk K Q' _ _ _ hKK hQ hT _ _ _ _ hH hsub hL)
  · exact hT.elim
theorem as_imul {G : am_G} {cc : ByteArray} {own nm : String} {R0 : Room} {ret0 : Option FieldType} {nL0 bc bs : Nat} {f0 : Bool} {pc : Nat} {k : am_T} (X : am_Cx G cc own nm R0 ret0 nL0 bc bs f0) (d : decode cc pc = .ok (.imul, 1)) (hk : am_S G (pc + 1) k) : am_S G pc (tb_bin (fun x y => x * y) k) := by
  obtain ⟨p, l, e, R, s, m, args, below, meth, c, Q, D, cA, A, nL, M0, ad0, ret, fz⟩ := G
  obtain ⟨hx, hb, hml, hown, hts, hK, hA, hlk, hnm, hR, hnL, hrt, hbc, hbs, hfz, hne⟩ := X
  subst hR hnL hrt hfz
  intro K Q' ls st M hKK hQ hT
  unfold tb_bin at hT
  split at hT
  · next y x r =>
    intro ad H locs ls' hH hsub hL
    exact lv_imul hx hb d (hk K Q' _ _ _ hKK hQ hT _ _ _ _ hH hsub hL)
  · exact hT.elim
theorem as_iand {G : am_G} {cc : ByteArray} {own nm : String} {R0 : Room} {ret0 : Option FieldType} {nL0 bc bs : Nat} {f0 : Bool} {pc : Nat} {k : am_T} (X : am_Cx G cc own nm R0 ret0 nL0 bc bs f0) (d : decode cc pc = .ok (.iand, 1)) (hk : am_S G (pc + 1) k) : am_S G pc (tb_bin (fun x y => x &&& y) k) := by
  obtain ⟨p, l, e, R, s, m, args, below, meth, c, Q, D, cA, A, nL, M0, ad0, ret, fz⟩ := G
  obtain ⟨hx, hb, hml, hown, hts, hK, hA, hlk, hnm, hR, hnL, hrt, hbc, hbs, hfz, hne⟩ := X
  subst hR hnL hrt hfz
  intro K Q' ls st M hKK hQ hT
  unfold tb_bin at hT
  split at hT
  · next y x r =>
    intro ad H locs ls' hH hsub hL
    exact lv_iand hx hb d (hk K Q' _ _ _ hKK hQ hT _ _ _ _ hH hsub hL)
  · exact hT.elim
theorem as_ior {G : am_G} {cc : ByteArray} {own nm : String} {R0 : Room} {ret0 : Option FieldType} {nL0 bc bs : Nat} {f0 : Bool} {pc : Nat} {k : am_T} (X : am_Cx G cc own nm R0 ret0 nL0 bc bs f0) (d : decode cc pc = .ok (.ior, 1)) (hk : am_S G (pc + 1) k) : am_S G pc (tb_bin (fun x y => x ||| y) k) := by
  obtain ⟨p, l, e, R, s, m, args, below, meth, c, Q, D, cA, A, nL, M0, ad0, ret, fz⟩ := G
  obtain ⟨hx, hb, hml, hown, hts, hK, hA, hlk, hnm, hR, hnL, hrt, hbc, hbs, hfz, hne⟩ := X
  subst hR hnL hrt hfz
  intro K Q' ls st M hKK hQ hT
  unfold tb_bin at hT
  split at hT
  · next y x r =>
    intro ad H locs ls' hH hsub hL
    exact lv_ior hx hb d (hk K Q' _ _ _ hKK hQ hT _ _ _ _ hH hsub hL)
  · exact hT.elim
theorem as_ixor {G : am_G} {cc : ByteArray} {own nm : String} {R0 : Room} {ret0 : Option FieldType} {nL0 bc bs : Nat} {f0 : Bool} {pc : Nat} {k : am_T} (X : am_Cx G cc own nm R0 ret0 nL0 bc bs f0) (d : decode cc pc = .ok (.ixor, 1)) (hk : am_S G (pc + 1) k) : am_S G pc (tb_bin (fun x y => x ^^^ y) k) := by
  obtain ⟨p, l, e, R, s, m, args, below, meth, c, Q, D, cA, A, nL, M0, ad0, ret, fz⟩ := G
  obtain ⟨hx, hb, hml, hown, hts, hK, hA, hlk, hnm, hR, hnL, hrt, hbc, hbs, hfz, hne⟩ := X
  subst hR hnL hrt hfz
  intro K Q' ls st M hKK hQ hT
  unfold tb_bin at hT
  split at hT
  · next y x r =>
    intro ad H locs ls' hH hsub hL
    exact lv_ixor hx hb d (hk K Q' _ _ _ hKK hQ hT _ _ _ _ hH hsub hL)
  · exact hT.elim
theorem as_ishl {G : am_G} {cc : ByteArray} {own nm : String} {R0 : Room} {ret0 : Option FieldType} {nL0 bc bs : Nat} {f0 : Bool} {pc : Nat} {k : am_T} (X : am_Cx G cc own nm R0 ret0 nL0 bc bs f0) (d : decode cc pc = .ok (.ishl, 1)) (hk : am_S G (pc + 1) k) : am_S G pc (tb_bin (fun x y => x <<< (y &&& 31)) k) := by
  obtain ⟨p, l, e, R, s, m, args, below, meth, c, Q, D, cA, A, nL, M0, ad0, ret, fz⟩ := G
  obtain ⟨hx, hb, hml, hown, hts, hK, hA, hlk, hnm, hR, hnL, hrt, hbc, hbs, hfz, hne⟩ := X
  subst hR hnL hrt hfz
  intro K Q' ls st M hKK hQ hT
  unfold tb_bin at hT
  split at hT
  · next y x r =>
    intro ad H locs ls' hH hsub hL
    exact lv_ishl hx hb d (hk K Q' _ _ _ hKK hQ hT _ _ _ _ hH hsub hL)
  · exact hT.elim
theorem as_ishr {G : am_G} {cc : ByteArray} {own nm : String} {R0 : Room} {ret0 : Option FieldType} {nL0 bc bs : Nat} {f0 : Bool} {pc : Nat} {k : am_T} (X : am_Cx G cc own nm R0 ret0 nL0 bc bs f0) (d : decode cc pc = .ok (.ishr, 1)) (hk : am_S G (pc + 1) k) : am_S G pc (tb_bin (fun x y => x >>> (y &&& 31)) k) := by
  obtain ⟨p, l, e, R, s, m, args, below, meth, c, Q, D, cA, A, nL, M0, ad0, ret, fz⟩ := G
  obtain ⟨hx, hb, hml, hown, hts, hK, hA, hlk, hnm, hR, hnL, hrt, hbc, hbs, hfz, hne⟩ := X
  subst hR hnL hrt hfz
  intro K Q' ls st M hKK hQ hT
  unfold tb_bin at hT
  split at hT
  · next y x r =>
    intro ad H locs ls' hH hsub hL
    exact lv_ishr hx hb d (hk K Q' _ _ _ hKK hQ hT _ _ _ _ hH hsub hL)
  · exact hT.elim
theorem as_iushr {G : am_G} {cc : ByteArray} {own nm : String} {R0 : Room} {ret0 : Option FieldType} {nL0 bc bs : Nat} {f0 : Bool} {pc : Nat} {k : am_T} (X : am_Cx G cc own nm R0 ret0 nL0 bc bs f0) (d : decode cc pc = .ok (.iushr, 1)) (hk : am_S G (pc + 1) k) : am_S G pc (tb_bin (fun x y => (x.toUInt32 >>> (y.toUInt32 &&& Int32.toUInt32 31)).toInt32) k) := by
  obtain ⟨p, l, e, R, s, m, args, below, meth, c, Q, D, cA, A, nL, M0, ad0, ret, fz⟩ := G
  obtain ⟨hx, hb, hml, hown, hts, hK, hA, hlk, hnm, hR, hnL, hrt, hbc, hbs, hfz, hne⟩ := X
  subst hR hnL hrt hfz
  intro K Q' ls st M hKK hQ hT
  unfold tb_bin at hT
  split at hT
  · next y x r =>
    intro ad H locs ls' hH hsub hL
    exact lv_iushr hx hb d rfl (hk K Q' _ _ _ hKK hQ hT _ _ _ _ hH hsub hL)
  · exact hT.elim
theorem as_idiv {G : am_G} {cc : ByteArray} {own nm : String} {R0 : Room} {ret0 : Option FieldType} {nL0 bc bs : Nat} {f0 : Bool} {pc : Nat} {k : am_T} (X : am_Cx G cc own nm R0 ret0 nL0 bc bs f0) (d : decode cc pc = .ok (.idiv, 1)) (hk : am_S G (pc + 1) k) : am_S G pc (tb_idiv k) := by
  obtain ⟨p, l, e, R, s, m, args, below, meth, c, Q, D, cA, A, nL, M0, ad0, ret, fz⟩ := G
  obtain ⟨hx, hb, hml, hown, hts, hK, hA, hlk, hnm, hR, hnL, hrt, hbc, hbs, hfz, hne⟩ := X
  subst hR hnL hrt hfz
  intro K Q' ls st M hKK hQ hT
  unfold tb_idiv at hT
  split at hT
  · next y x r =>
    intro ad H locs ls' hH hsub hL
    exact lv_idiv hx hb d hT.1 (hk K Q' _ _ _ hKK hQ hT.2 _ _ _ _ hH hsub hL)
  · exact hT.elim
theorem as_irem {G : am_G} {cc : ByteArray} {own nm : String} {R0 : Room} {ret0 : Option FieldType} {nL0 bc bs : Nat} {f0 : Bool} {pc : Nat} {k : am_T} (X : am_Cx G cc own nm R0 ret0 nL0 bc bs f0) (d : decode cc pc = .ok (.irem, 1)) (hk : am_S G (pc + 1) k) : am_S G pc (tb_irem k) := by
  obtain ⟨p, l, e, R, s, m, args, below, meth, c, Q, D, cA, A, nL, M0, ad0, ret, fz⟩ := G
  obtain ⟨hx, hb, hml, hown, hts, hK, hA, hlk, hnm, hR, hnL, hrt, hbc, hbs, hfz, hne⟩ := X
  subst hR hnL hrt hfz
  intro K Q' ls st M hKK hQ hT
  unfold tb_irem at hT
  split at hT
  · next y x r =>
    intro ad H locs ls' hH hsub hL
    exact lv_irem hx hb d hT.1 (hk K Q' _ _ _ hKK hQ hT.2 _ _ _ _ hH hsub hL)
  · exact hT.elim
theorem as_i2c {G : am_G} {cc : ByteArray} {own nm : String} {R0 : Room} {ret0 : Option FieldType} {nL0 bc bs : Nat} {f0 : Bool} {pc : Nat} {k : am_T} (X : am_Cx G cc own nm R0 ret0 nL0 bc bs f0) (d : decode cc pc = .ok (.i2c, 1)) (hk : am_S G (pc + 1) k) : am_S G pc (tb_i2c k) := by
  obtain ⟨p, l, e, R, s, m, args, below, meth, c, Q, D, cA, A, nL, M0, ad0, ret, fz⟩ := G
  obtain ⟨hx, hb, hml, hown, hts, hK, hA, hlk, hnm, hR, hnL, hrt, hbc, hbs, hfz, hne⟩ := X
  subst hR hnL hrt hfz
  intro K Q' ls st M hKK hQ hT
  unfold tb_i2c at hT
  split at hT
  · next x r =>
    intro ad H locs ls' hH hsub hL
    exact lv_i2c hx hb d rfl (hk K Q' _ _ _ hKK hQ hT _ _ _ _ hH hsub hL)
  · exact hT.elim
theorem as_dup {G : am_G} {cc : ByteArray} {own nm : String} {R0 : Room} {ret0 : Option FieldType} {nL0 bc bs : Nat} {f0 : Bool} {pc : Nat} {k : am_T} (X : am_Cx G cc own nm R0 ret0 nL0 bc bs f0) (d : decode cc pc = .ok (.dup, 1)) (hk : am_S G (pc + 1) k) : am_S G pc (tb_dup k) := by
  obtain ⟨p, l, e, R, s, m, args, below, meth, c, Q, D, cA, A, nL, M0, ad0, ret, fz⟩ := G
  obtain ⟨hx, hb, hml, hown, hts, hK, hA, hlk, hnm, hR, hnL, hrt, hbc, hbs, hfz, hne⟩ := X
  subst hR hnL hrt hfz
  intro K Q' ls st M hKK hQ hT
  unfold tb_dup at hT
  split at hT
  · next x r =>
    intro ad H locs ls' hH hsub hL
    exact lv_dup hx hb d (am_cat ad x) (hk K Q' _ _ _ hKK hQ hT _ _ _ _ hH hsub hL)
  · exact hT.elim
theorem as_dup2 {G : am_G} {cc : ByteArray} {own nm : String} {R0 : Room} {ret0 : Option FieldType} {nL0 bc bs : Nat} {f0 : Bool} {pc : Nat} {k : am_T} (X : am_Cx G cc own nm R0 ret0 nL0 bc bs f0) (d : decode cc pc = .ok (.dup2, 1)) (hk : am_S G (pc + 1) k) : am_S G pc (tb_dup2 k) := by
  obtain ⟨p, l, e, R, s, m, args, below, meth, c, Q, D, cA, A, nL, M0, ad0, ret, fz⟩ := G
  obtain ⟨hx, hb, hml, hown, hts, hK, hA, hlk, hnm, hR, hnL, hrt, hbc, hbs, hfz, hne⟩ := X
  subst hR hnL hrt hfz
  intro K Q' ls st M hKK hQ hT
  unfold tb_dup2 at hT
  split at hT
  · next x y r =>
    intro ad H locs ls' hH hsub hL
    exact lv_dup2_11 hx hb d (am_cat ad x) (am_cat ad y) (hk K Q' _ _ _ hKK hQ hT _ _ _ _ hH hsub hL)
  · exact hT.elim
theorem as_nn {G : am_G} {cc : ByteArray} {own nm : String} {R0 : Room} {ret0 : Option FieldType} {nL0 bc bs : Nat} {f0 : Bool} {pc : Nat} {k : am_T} (X : am_Cx G cc own nm R0 ret0 nL0 bc bs f0) {off : Int} (d : decode cc pc = .ok (.ifnull off, 3)) (hk : am_S G (pc + 3) k) : am_S G pc (tb_nn k) := by
  obtain ⟨p, l, e, R, s, m, args, below, meth, c, Q, D, cA, A, nL, M0, ad0, ret, fz⟩ := G
  obtain ⟨hx, hb, hml, hown, hts, hK, hA, hlk, hnm, hR, hnL, hrt, hbc, hbs, hfz, hne⟩ := X
  subst hR hnL hrt hfz
  intro K Q' ls st M hKK hQ hT
  unfold tb_nn at hT
  split at hT
  · next x r =>
    intro ad H locs ls' hH hsub hL
    exact lv_ifnull hx hb d (hk K Q' _ _ _ hKK hQ hT _ _ _ _ hH hsub hL)
  · exact hT.elim
theorem as_ic_eq {G : am_G} {cc : ByteArray} {own nm : String} {R0 : Room} {ret0 : Option FieldType} {nL0 bc bs : Nat} {f0 : Bool} {pc : Nat} {kt kf : am_T} (X : am_Cx G cc own nm R0 ret0 nL0 bc bs f0) {off : Int} (tgt : Nat) (d : decode cc pc = .ok (.if_icmp .eq off, 3)) (ht : (pc : Int) + off = (tgt : Int)) (hkt : am_S G tgt kt) (hkf : am_S G (pc + 3) kf) : am_S G pc (tb_ic (fun x y => x = y) kt kf) := by
  obtain ⟨p, l, e, R, s, m, args, below, meth, c, Q, D, cA, A, nL, M0, ad0, ret, fz⟩ := G
  obtain ⟨hx, hb, hml, hown, hts, hK, hA, hlk, hnm, hR, hnL, hrt, hbc, hbs, hfz, hne⟩ := X
  subst hR hnL hrt hfz
  intro K Q' ls st M hKK hQ hT
  unfold tb_ic at hT
  split at hT
  · next y x r =>
    intro ad H locs ls' hH hsub hL
    exact lv_icmp_eq hx hb d ht (fun h => hkt K Q' _ _ _ hKK hQ (hT.1 h) _ _ _ _ hH hsub hL) (fun h => hkf K Q' _ _ _ hKK hQ (hT.2 h) _ _ _ _ hH hsub hL)
  · exact hT.elim
theorem as_if_eq {G : am_G} {cc : ByteArray} {own nm : String} {R0 : Room} {ret0 : Option FieldType} {nL0 bc bs : Nat} {f0 : Bool} {pc : Nat} {kt kf : am_T} (X : am_Cx G cc own nm R0 ret0 nL0 bc bs f0) {off : Int} (tgt : Nat) (d : decode cc pc = .ok (.ifCond .eq off, 3)) (ht : (pc : Int) + off = (tgt : Int)) (hkt : am_S G tgt kt) (hkf : am_S G (pc + 3) kf) : am_S G pc (tb_if (fun x => x = 0) kt kf) := by
  obtain ⟨p, l, e, R, s, m, args, below, meth, c, Q, D, cA, A, nL, M0, ad0, ret, fz⟩ := G
  obtain ⟨hx, hb, hml, hown, hts, hK, hA, hlk, hnm, hR, hnL, hrt, hbc, hbs, hfz, hne⟩ := X
  subst hR hnL hrt hfz
  intro K Q' ls st M hKK hQ hT
  unfold tb_if at hT
  split at hT
  · next x r =>
    intro ad H locs ls' hH hsub hL
    exact lv_if_eq hx hb d ht (fun h => hkt K Q' _ _ _ hKK hQ (hT.1 h) _ _ _ _ hH hsub hL) (fun h => hkf K Q' _ _ _ hKK hQ (hT.2 h) _ _ _ _ hH hsub hL)
  · exact hT.elim
theorem as_ic_ne {G : am_G} {cc : ByteArray} {own nm : String} {R0 : Room} {ret0 : Option FieldType} {nL0 bc bs : Nat} {f0 : Bool} {pc : Nat} {kt kf : am_T} (X : am_Cx G cc own nm R0 ret0 nL0 bc bs f0) {off : Int} (tgt : Nat) (d : decode cc pc = .ok (.if_icmp .ne off, 3)) (ht : (pc : Int) + off = (tgt : Int)) (hkt : am_S G tgt kt) (hkf : am_S G (pc + 3) kf) : am_S G pc (tb_ic (fun x y => x ≠ y) kt kf) := by
  obtain ⟨p, l, e, R, s, m, args, below, meth, c, Q, D, cA, A, nL, M0, ad0, ret, fz⟩ := G
  obtain ⟨hx, hb, hml, hown, hts, hK, hA, hlk, hnm, hR, hnL, hrt, hbc, hbs, hfz, hne⟩ := X
  subst hR hnL hrt hfz
  intro K Q' ls st M hKK hQ hT
  unfold tb_ic at hT
  split at hT
  · next y x r =>
    intro ad H locs ls' hH hsub hL
    exact lv_icmp_ne hx hb d ht (fun h => hkt K Q' _ _ _ hKK hQ (hT.1 h) _ _ _ _ hH hsub hL) (fun h => hkf K Q' _ _ _ hKK hQ (hT.2 (fun g => g h)) _ _ _ _ hH hsub hL)
  · exact hT.elim
theorem as_if_ne {G : am_G} {cc : ByteArray} {own nm : String} {R0 : Room} {ret0 : Option FieldType} {nL0 bc bs : Nat} {f0 : Bool} {pc : Nat} {kt kf : am_T} (X : am_Cx G cc own nm R0 ret0 nL0 bc bs f0) {off : Int} (tgt : Nat) (d : decode cc pc = .ok (.ifCond .ne off, 3)) (ht : (pc : Int) + off = (tgt : Int)) (hkt : am_S G tgt kt) (hkf : am_S G (pc + 3) kf) : am_S G pc (tb_if (fun x => x ≠ 0) kt kf) := by
  obtain ⟨p, l, e, R, s, m, args, below, meth, c, Q, D, cA, A, nL, M0, ad0, ret, fz⟩ := G
  obtain ⟨hx, hb, hml, hown, hts, hK, hA, hlk, hnm, hR, hnL, hrt, hbc, hbs, hfz, hne⟩ := X
  subst hR hnL hrt hfz
  intro K Q' ls st M hKK hQ hT
  unfold tb_if at hT
  split at hT
  · next x r =>
    intro ad H locs ls' hH hsub hL
    exact lv_if_ne hx hb d ht (fun h => hkt K Q' _ _ _ hKK hQ (hT.1 h) _ _ _ _ hH hsub hL) (fun h => hkf K Q' _ _ _ hKK hQ (hT.2 (fun g => g h)) _ _ _ _ hH hsub hL)
  · exact hT.elim
theorem as_ic_lt {G : am_G} {cc : ByteArray} {own nm : String} {R0 : Room} {ret0 : Option FieldType} {nL0 bc bs : Nat} {f0 : Bool} {pc : Nat} {kt kf : am_T} (X : am_Cx G cc own nm R0 ret0 nL0 bc bs f0) {off : Int} (tgt : Nat) (d : decode cc pc = .ok (.if_icmp .lt off, 3)) (ht : (pc : Int) + off = (tgt : Int)) (hkt : am_S G tgt kt) (hkf : am_S G (pc + 3) kf) : am_S G pc (tb_ic (fun x y => x < y) kt kf) := by
  obtain ⟨p, l, e, R, s, m, args, below, meth, c, Q, D, cA, A, nL, M0, ad0, ret, fz⟩ := G
  obtain ⟨hx, hb, hml, hown, hts, hK, hA, hlk, hnm, hR, hnL, hrt, hbc, hbs, hfz, hne⟩ := X
  subst hR hnL hrt hfz
  intro K Q' ls st M hKK hQ hT
  unfold tb_ic at hT
  split at hT
  · next y x r =>
    intro ad H locs ls' hH hsub hL
    exact lv_icmp_lt hx hb d ht (fun h => hkt K Q' _ _ _ hKK hQ (hT.1 h) _ _ _ _ hH hsub hL) (fun h => hkf K Q' _ _ _ hKK hQ (hT.2 h) _ _ _ _ hH hsub hL)
  · exact hT.elim
theorem as_if_lt {G : am_G} {cc : ByteArray} {own nm : String} {R0 : Room} {ret0 : Option FieldType} {nL0 bc bs : Nat} {f0 : Bool} {pc : Nat} {kt kf : am_T} (X : am_Cx G cc own nm R0 ret0 nL0 bc bs f0) {off : Int} (tgt : Nat) (d : decode cc pc = .ok (.ifCond .lt off, 3)) (ht : (pc : Int) + off = (tgt : Int)) (hkt : am_S G tgt kt) (hkf : am_S G (pc + 3) kf) : am_S G pc (tb_if (fun x => x < 0) kt kf) := by
  obtain ⟨p, l, e, R, s, m, args, below, meth, c, Q, D, cA, A, nL, M0, ad0, ret, fz⟩ := G
  obtain ⟨hx, hb, hml, hown, hts, hK, hA, hlk, hnm, hR, hnL, hrt, hbc, hbs, hfz, hne⟩ := X
  subst hR hnL hrt hfz
  intro K Q' ls st M hKK hQ hT
  unfold tb_if at hT
  split at hT
  · next x r =>
    intro ad H locs ls' hH hsub hL
    exact lv_if_lt hx hb d ht (fun h => hkt K Q' _ _ _ hKK hQ (hT.1 h) _ _ _ _ hH hsub hL) (fun h => hkf K Q' _ _ _ hKK hQ (hT.2 h) _ _ _ _ hH hsub hL)
  · exact hT.elim
theorem as_ic_ge {G : am_G} {cc : ByteArray} {own nm : String} {R0 : Room} {ret0 : Option FieldType} {nL0 bc bs : Nat} {f0 : Bool} {pc : Nat} {kt kf : am_T} (X : am_Cx G cc own nm R0 ret0 nL0 bc bs f0) {off : Int} (tgt : Nat) (d : decode cc pc = .ok (.if_icmp .ge off, 3)) (ht : (pc : Int) + off = (tgt : Int)) (hkt : am_S G tgt kt) (hkf : am_S G (pc + 3) kf) : am_S G pc (tb_ic (fun x y => y ≤ x) kt kf) := by
  obtain ⟨p, l, e, R, s, m, args, below, meth, c, Q, D, cA, A, nL, M0, ad0, ret, fz⟩ := G
  obtain ⟨hx, hb, hml, hown, hts, hK, hA, hlk, hnm, hR, hnL, hrt, hbc, hbs, hfz, hne⟩ := X
  subst hR hnL hrt hfz
  intro K Q' ls st M hKK hQ hT
  unfold tb_ic at hT
  split at hT
  · next y x r =>
    intro ad H locs ls' hH hsub hL
    exact lv_icmp_ge hx hb d ht (fun h => hkt K Q' _ _ _ hKK hQ (hT.1 h) _ _ _ _ hH hsub hL) (fun h => hkf K Q' _ _ _ hKK hQ (hT.2 h) _ _ _ _ hH hsub hL)
  · exact hT.elim
theorem as_if_ge {G : am_G} {cc : ByteArray} {own nm : String} {R0 : Room} {ret0 : Option FieldType} {nL0 bc bs : Nat} {f0 : Bool} {pc : Nat} {kt kf : am_T} (X : am_Cx G cc own nm R0 ret0 nL0 bc bs f0) {off : Int} (tgt : Nat) (d : decode cc pc = .ok (.ifCond .ge off, 3)) (ht : (pc : Int) + off = (tgt : Int)) (hkt : am_S G tgt kt) (hkf : am_S G (pc + 3) kf) : am_S G pc (tb_if (fun x => 0 ≤ x) kt kf) := by
  obtain ⟨p, l, e, R, s, m, args, below, meth, c, Q, D, cA, A, nL, M0, ad0, ret, fz⟩ := G
  obtain ⟨hx, hb, hml, hown, hts, hK, hA, hlk, hnm, hR, hnL, hrt, hbc, hbs, hfz, hne⟩ := X
  subst hR hnL hrt hfz
  intro K Q' ls st M hKK hQ hT
  unfold tb_if at hT
  split at hT
  · next x r =>
    intro ad H locs ls' hH hsub hL
    exact lv_if_ge hx hb d ht (fun h => hkt K Q' _ _ _ hKK hQ (hT.1 h) _ _ _ _ hH hsub hL) (fun h => hkf K Q' _ _ _ hKK hQ (hT.2 h) _ _ _ _ hH hsub hL)
  · exact hT.elim
theorem as_ic_gt {G : am_G} {cc : ByteArray} {own nm : String} {R0 : Room} {ret0 : Option FieldType} {nL0 bc bs : Nat} {f0 : Bool} {pc : Nat} {kt kf : am_T} (X : am_Cx G cc own nm R0 ret0 nL0 bc bs f0) {off : Int} (tgt : Nat) (d : decode cc pc = .ok (.if_icmp .gt off, 3)) (ht : (pc : Int) + off = (tgt : Int)) (hkt : am_S G tgt kt) (hkf : am_S G (pc + 3) kf) : am_S G pc (tb_ic (fun x y => y < x) kt kf) := by
  obtain ⟨p, l, e, R, s, m, args, below, meth, c, Q, D, cA, A, nL, M0, ad0, ret, fz⟩ := G
  obtain ⟨hx, hb, hml, hown, hts, hK, hA, hlk, hnm, hR, hnL, hrt, hbc, hbs, hfz, hne⟩ := X
  subst hR hnL hrt hfz
  intro K Q' ls st M hKK hQ hT
  unfold tb_ic at hT
  split at hT
  · next y x r =>
    intro ad H locs ls' hH hsub hL
    exact lv_icmp_gt hx hb d ht (fun h => hkt K Q' _ _ _ hKK hQ (hT.1 h) _ _ _ _ hH hsub hL) (fun h => hkf K Q' _ _ _ hKK hQ (hT.2 h) _ _ _ _ hH hsub hL)
  · exact hT.elim
theorem as_if_gt {G : am_G} {cc : ByteArray} {own nm : String} {R0 : Room} {ret0 : Option FieldType} {nL0 bc bs : Nat} {f0 : Bool} {pc : Nat} {kt kf : am_T} (X : am_Cx G cc own nm R0 ret0 nL0 bc bs f0) {off : Int} (tgt : Nat) (d : decode cc pc = .ok (.ifCond .gt off, 3)) (ht : (pc : Int) + off = (tgt : Int)) (hkt : am_S G tgt kt) (hkf : am_S G (pc + 3) kf) : am_S G pc (tb_if (fun x => 0 < x) kt kf) := by
  obtain ⟨p, l, e, R, s, m, args, below, meth, c, Q, D, cA, A, nL, M0, ad0, ret, fz⟩ := G
  obtain ⟨hx, hb, hml, hown, hts, hK, hA, hlk, hnm, hR, hnL, hrt, hbc, hbs, hfz, hne⟩ := X
  subst hR hnL hrt hfz
  intro K Q' ls st M hKK hQ hT
  unfold tb_if at hT
  split at hT
  · next x r =>
    intro ad H locs ls' hH hsub hL
    exact lv_if_gt hx hb d ht (fun h => hkt K Q' _ _ _ hKK hQ (hT.1 h) _ _ _ _ hH hsub hL) (fun h => hkf K Q' _ _ _ hKK hQ (hT.2 h) _ _ _ _ hH hsub hL)
  · exact hT.elim
theorem as_ic_le {G : am_G} {cc : ByteArray} {own nm : String} {R0 : Room} {ret0 : Option FieldType} {nL0 bc bs : Nat} {f0 : Bool} {pc : Nat} {kt kf : am_T} (X : am_Cx G cc own nm R0 ret0 nL0 bc bs f0) {off : Int} (tgt : Nat) (d : decode cc pc = .ok (.if_icmp .le off, 3)) (ht : (pc : Int) + off = (tgt : Int)) (hkt : am_S G tgt kt) (hkf : am_S G (pc + 3) kf) : am_S G pc (tb_ic (fun x y => x ≤ y) kt kf) := by
  obtain ⟨p, l, e, R, s, m, args, below, meth, c, Q, D, cA, A, nL, M0, ad0, ret, fz⟩ := G
  obtain ⟨hx, hb, hml, hown, hts, hK, hA, hlk, hnm, hR, hnL, hrt, hbc, hbs, hfz, hne⟩ := X
  subst hR hnL hrt hfz
  intro K Q' ls st M hKK hQ hT
  unfold tb_ic at hT
  split at hT
  · next y x r =>
    intro ad H locs ls' hH hsub hL
    exact lv_icmp_le hx hb d ht (fun h => hkt K Q' _ _ _ hKK hQ (hT.1 h) _ _ _ _ hH hsub hL) (fun h => hkf K Q' _ _ _ hKK hQ (hT.2 h) _ _ _ _ hH hsub hL)
  · exact hT.elim
theorem as_if_le {G : am_G} {cc : ByteArray} {own nm : String} {R0 : Room} {ret0 : Option FieldType} {nL0 bc bs : Nat} {f0 : Bool} {pc : Nat} {kt kf : am_T} (X : am_Cx G cc own nm R0 ret0 nL0 bc bs f0) {off : Int} (tgt : Nat) (d : decode cc pc = .ok (.ifCond .le off, 3)) (ht : (pc : Int) + off = (tgt : Int)) (hkt : am_S G tgt kt) (hkf : am_S G (pc + 3) kf) : am_S G pc (tb_if (fun x => x ≤ 0) kt kf) := by
  obtain ⟨p, l, e, R, s, m, args, below, meth, c, Q, D, cA, A, nL, M0, ad0, ret, fz⟩ := G
  obtain ⟨hx, hb, hml, hown, hts, hK, hA, hlk, hnm, hR, hnL, hrt, hbc, hbs, hfz, hne⟩ := X
  subst hR hnL hrt hfz
  intro K Q' ls st M hKK hQ hT
  unfold tb_if at hT
  split at hT
  · next x r =>
    intro ad H locs ls' hH hsub hL
    exact lv_if_le hx hb d ht (fun h => hkt K Q' _ _ _ hKK hQ (hT.1 h) _ _ _ _ hH hsub hL) (fun h => hkf K Q' _ _ _ hKK hQ (hT.2 h) _ _ _ _ hH hsub hL)
  · exact hT.elim
theorem as_goto {G : am_G} {cc : ByteArray} {own nm : String} {R0 : Room} {ret0 : Option FieldType} {nL0 bc bs : Nat} {f0 : Bool} {pc : Nat} {k : am_T} (X : am_Cx G cc own nm R0 ret0 nL0 bc bs f0) {off : Int} (tgt : Nat) (d : decode cc pc = .ok (.goto off, 3)) (ht : (pc : Int) + off = (tgt : Int)) (hk : am_S G tgt k) : am_S G pc (k) := by
  obtain ⟨p, l, e, R, s, m, args, below, meth, c, Q, D, cA, A, nL, M0, ad0, ret, fz⟩ := G
  obtain ⟨hx, hb, hml, hown, hts, hK, hA, hlk, hnm, hR, hnL, hrt, hbc, hbs, hfz, hne⟩ := X
  subst hR hnL hrt hfz
  intro K Q' ls st M hKK hQ hT
  intro ad H locs ls' hH hsub hL
  exact lv_goto hx hb d ht (hk K Q' _ _ _ hKK hQ hT _ _ _ _ hH hsub hL)
theorem as_head {G : am_G} {pc : Nat} : am_S G pc (tb_head pc) := by
  intro K Q' ls st M hKK hQ hT
  obtain ⟨rfl, h⟩ := hT
  exact hKK _ _ _ h
theorem as_bad {G : am_G} {pc : Nat} : am_S G pc tb_bad := by
  intro K Q' ls st M hKK hQ hT
  exact hT.elim
theorem as_sw {G : am_G} {cc : ByteArray} {own nm : String} {R0 : Room} {ret0 : Option FieldType} {nL0 bc bs : Nat} {f0 : Bool} {pc : Nat} {ks : Nat → am_T} {kd : am_T} (X : am_Cx G cc own nm R0 ret0 nL0 bc bs f0) {df lo hi : Int} {offs : Array Int} {len : Nat} (d : decode cc pc = .ok (.tableswitch df lo hi offs, len)) (tgt : Nat → Nat) (td : Nat) (htd : (pc : Int) + df = (td : Int)) (hks : ∀ j : Nat, lo + j ≤ hi → ∃ off : Int, offs[j]? = some off ∧ (pc : Int) + off = (tgt j : Int) ∧ am_S G (tgt j) (ks j)) (hkd : am_S G td kd) : am_S G pc (tb_sw lo hi ks kd) := by
  obtain ⟨p, l, e, R, s, m, args, below, meth, c, Q, D, cA, A, nL, M0, ad0, ret, fz⟩ := G
  obtain ⟨hx, hb, hml, hown, hts, hK, hA, hlk, hnm, hR, hnL, hrt, hbc, hbs, hfz, hne⟩ := X
  subst hR hnL hrt hfz
  intro K Q' ls st M hKK hQ hT
  unfold tb_sw at hT
  split at hT
  · next x r =>
    intro ad H locs ls' hH hsub hL
    by_cases hc : x.toInt < lo ∨ hi < x.toInt
    · exact lv_tableOut hx hb d hc htd (hkd K Q' _ _ _ hKK hQ (hT.1 hc) _ _ _ _ hH hsub hL)
    · have h1 : ¬ x.toInt < lo := fun h => hc (Or.inl h)
      have h2 : ¬ hi < x.toInt := fun h => hc (Or.inr h)
      have hj : lo + (((x.toInt - lo).toNat : Nat) : Int) ≤ hi := by omega
      obtain ⟨off, ho, htt, hS⟩ := hks (x.toInt - lo).toNat hj
      exact lv_tableIn hx hb d h1 h2 ho htt (hS K Q' _ _ _ hKK hQ (hT.2 _ (by omega) hj) _ _ _ _ hH hsub hL)
  · exact hT.elim
