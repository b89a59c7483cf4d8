def R_law : String := "ChatThreadsLaw"
def lw_P (b : Addr) (xs : List Int32) (args : Array Value) (s : State) : Prop := args = #[.ref b] ∧ s.IntsAt b xs ∧ xs.length ≤ 260 ∧ (Jvm.Cond.and given_1 narrow_1).before args s = true
def lw_Q (_ : Array Value) (s : State) (o : Outcome) (t : State) : Prop := o = .returned (some (.int 1)) ∧ Framed s o t [] 600000 7302250
def lw_Z (below : List Frame) (a : Array Value) (s : State) : State → Prop := fun t => ∃ o, t.status = .running ∧ Ended t below o ∧ lw_Q a s o t
/-- the law's own end, with 1 on the stack, nothing written that was there before, its room as the claim has it -/
theorem lw_ret {p : Program} {l : Launch} {e : Env} {s : State} {m : MethodId} {below : List Frame} {meth : Method} {c : Code} {b : Nat} (hx : p.tables.exec = Jvm.exec) (hb : c.code = code) (hr : meth.sig.returnType = ret) (hlocks : meth.locks = false) {pc : Nat} {H : Heap} {ls : Array Slot} (hdg : decode code pc = .ok (.ireturn, 1)) : W p l e room_1 s m #[Value.ref b] below meth c H [] 600000 7302250 (lw_Z below #[Value.ref b] s) (F0 m pc ls [.int 1]) := by
  intro T hT X
  obtain ⟨fs, hret, hrun, hended, hW, hframe⟩ := X.leave (v := some (.int 1)) (hlocks := hlocks) (fun h => by rw [hr] at h; cases h)
  have hmeth' : T.vm.method? m = some meth := X.method'
  refine ⟨T.setFrames fs, ?_, .returned (some (.int 1)), hrun, hended, rfl, ⟨_, rfl⟩, hW, hframe⟩
  jvm_step X.here [X.here.top, hx, hb, hdg, hmeth', hr, ret, narrow_b1]
  (try refine ⟨rfl, ?_⟩); (try refine ⟨rfl, ?_⟩)
  first | (intro acts; rw [hret _ acts rfl rfl rfl]) | rw [hret _ _ rfl rfl rfl]
  exact Steps.refl _
/-- what holds at the law's entry: the machine, the code, the tables' words (any of lw_tbl by 'hts w (by decide +kernel)'), the script of L ints xs at the cell b, what the Statement gives of the start (any of its parts by flat_of_before) -/
def lw_At (p : Program) (s : State) (m : MethodId) (meth : Method) (c : Code) (b L : Nat) (xs : Nat → Int32) : Prop :=
  p.tables.exec = Jvm.exec ∧ c.code = code ∧ meth.sig.returnType = ret ∧ c.maxLocals = 10 ∧ s.vm.findClass R_law = some m.cls ∧ (∀ w ∈ lw_tbl, w.before #[Value.ref b] s = true) ∧ va_X b L xs s s.heap ∧ b < s.heap.size ∧ meth.locks = false ∧ (Jvm.Cond.and given_1 narrow_1).before #[Value.ref b] s = true

/-! ===== the law's start, as a run of the small machine ===== -/
def am_t0 (j : Nat) : Int32 := [600, 20, 40, 25, 10, 15, 30, 5].getD j 0
def am_t1 (j : Nat) : Int32 := [0, 0, 0, 0, 0, 0, 1, 0].getD j 0
def am_t2 (j : Nat) : Int32 := [100000, 200, 100, 100, 50, 100, 1000, 100].getD j 0
def am_I0 (xs : Nat → Int32) (k : Nat) : Nat → Int32 := if k = 0 then am_t0 else if k = 1 then am_t1 else if k = 2 then am_t2 else if k = 3 then xs else fun _ => 0
def am_M0 (L : Nat) (xs : Nat → Int32) : am_M := ([(4, 8), (4, 8), (4, 8), (4, L)], am_I0 xs, fun _ _ => none)
theorem am_tbl {args : Array Value} {s : State} (hts : ∀ w ∈ lw_tbl, w.before args s = true) (i : Nat) {x : Cond} (h : lw_tbl[i]? = some x) : x.before args s = true := hts _ (List.mem_of_getElem? h)
set_option maxRecDepth 20000 in
theorem am_nest0 {args : Array Value} {s : State} (hts : ∀ w ∈ lw_tbl, w.before args s = true) : am_nest s := by
  refine ⟨fun w hw => ?_, va_AO.of (am_tbl hts 181 rfl)⟩
  simp only [am_NW, List.mem_cons, List.not_mem_nil, or_false] at hw
  rcases hw with rfl | rfl | rfl | rfl | rfl
  · exact va_Nw.of rfl (am_tbl hts 35 rfl)
  · exact va_Nw.of rfl (am_tbl hts 45 rfl)
  · exact va_Nw.of rfl (am_tbl hts 193 rfl)
  · exact va_Nw.of rfl (am_tbl hts 296 rfl)
  · exact va_Nw.of rfl (am_tbl hts 307 rfl)
theorem am_arr0 {args : Array Value} {s : State} {ty : FieldType} (h : (Cond.arrayClass ty).before args s = true) (hty : ty = .int ∨ ty = .char) : ∃ cA : ClassId, ArrOfT s cA ty ∧ va_RA s cA ty := by
  obtain ⟨c, k, comp, h1, h2, h3⟩ := Cond.arrayClass_spec h
  refine ⟨c, fun n z => ⟨fun _ q => (by cases q), k, h2, comp, h3⟩, ?_⟩
  rcases hty with rfl | rfl
  · exact h1
  · exact h1
theorem am_arr3 {args : Array Value} {s : State} (h : (Cond.arrayOver (.object RX1)).before args s = true) : ∃ cA : ClassId, ArrOfT s cA (.object RX1) ∧ va_RA s cA (.object RX1) := by
  obtain ⟨comp, c, k, h1, -, h2, h3, h4⟩ := Cond.arrayOver_spec h
  exact ⟨c, fun n z => ⟨fun _ q => (by cases q), k, h2, comp, h3⟩, k, comp, h2, h3, h1, h4⟩
theorem am_8 {P : Nat → Prop} (h0 : P 0) (h1 : P 1) (h2 : P 2) (h3 : P 3) (h4 : P 4) (h5 : P 5) (h6 : P 6) (h7 : P 7) (j : Nat) (hj : j < 8) : P j := by
  match j, hj with
  | 0, _ => exact h0
  | 1, _ => exact h1
  | 2, _ => exact h2
  | 3, _ => exact h3
  | 4, _ => exact h4
  | 5, _ => exact h5
  | 6, _ => exact h6
  | 7, _ => exact h7
  | j + 8, h => exact absurd h (by omega)
set_option maxRecDepth 20000 in
theorem am_row_am_t0 {args : Array Value} {s : State} {A : Nat → Prop} (hg : (Jvm.Cond.and given_1 narrow_1).before args s = true) (hA : ∀ a : Nat, a < s.heap.size → ¬ A a) : ∃ t : Nat, (Term.static "ChatThreads" "FIRST_VALUES" "[I").eval args s none [] s = some (.ref t) ∧ va_T .int t 8 (fun i => .int (am_t0 i)) A s s.heap := by
  have hs := flat_of_before _ hg
  refine va_Tof (by decide) (hs (Cond.arrayOf (Term.static "ChatThreads" "FIRST_VALUES" "[I") .int) (by decide +kernel)) (va_eqt (hs (Cond.eq (Term.length (Term.static "ChatThreads" "FIRST_VALUES" "[I")) (.int 8)) (by decide +kernel))) (am_8 (va_eqt (hs (Cond.eq (Term.elem (Term.static "ChatThreads" "FIRST_VALUES" "[I") (.int 0)) (.int 600)) (by decide +kernel))) (va_eqt (hs (Cond.eq (Term.elem (Term.static "ChatThreads" "FIRST_VALUES" "[I") (.int 1)) (.int 20)) (by decide +kernel))) (va_eqt (hs (Cond.eq (Term.elem (Term.static "ChatThreads" "FIRST_VALUES" "[I") (.int 2)) (.int 40)) (by decide +kernel))) (va_eqt (hs (Cond.eq (Term.elem (Term.static "ChatThreads" "FIRST_VALUES" "[I") (.int 3)) (.int 25)) (by decide +kernel))) (va_eqt (hs (Cond.eq (Term.elem (Term.static "ChatThreads" "FIRST_VALUES" "[I") (.int 4)) (.int 10)) (by decide +kernel))) (va_eqt (hs (Cond.eq (Term.elem (Term.static "ChatThreads" "FIRST_VALUES" "[I") (.int 5)) (.int 15)) (by decide +kernel))) (va_eqt (hs (Cond.eq (Term.elem (Term.static "ChatThreads" "FIRST_VALUES" "[I") (.int 6)) (.int 30)) (by decide +kernel))) (va_eqt (hs (Cond.eq (Term.elem (Term.static "ChatThreads" "FIRST_VALUES" "[I") (.int 7)) (.int 5)) (by decide +kernel)))) hA
set_option maxRecDepth 20000 in
theorem am_row_am_t1 {args : Array Value} {s : State} {A : Nat → Prop} (hg : (Jvm.Cond.and given_1 narrow_1).before args s = true) (hA : ∀ a : Nat, a < s.heap.size → ¬ A a) : ∃ t : Nat, (Term.static "ChatThreads" "LEAST_VALUES" "[I").eval args s none [] s = some (.ref t) ∧ va_T .int t 8 (fun i => .int (am_t1 i)) A s s.heap := by
  have hs := flat_of_before _ hg
  refine va_Tof (by decide) (hs (Cond.arrayOf (Term.static "ChatThreads" "LEAST_VALUES" "[I") .int) (by decide +kernel)) (va_eqt (hs (Cond.eq (Term.length (Term.static "ChatThreads" "LEAST_VALUES" "[I")) (.int 8)) (by decide +kernel))) (am_8 (va_eqt (hs (Cond.eq (Term.elem (Term.static "ChatThreads" "LEAST_VALUES" "[I") (.int 0)) (.int 0)) (by decide +kernel))) (va_eqt (hs (Cond.eq (Term.elem (Term.static "ChatThreads" "LEAST_VALUES" "[I") (.int 1)) (.int 0)) (by decide +kernel))) (va_eqt (hs (Cond.eq (Term.elem (Term.static "ChatThreads" "LEAST_VALUES" "[I") (.int 2)) (.int 0)) (by decide +kernel))) (va_eqt (hs (Cond.eq (Term.elem (Term.static "ChatThreads" "LEAST_VALUES" "[I") (.int 3)) (.int 0)) (by decide +kernel))) (va_eqt (hs (Cond.eq (Term.elem (Term.static "ChatThreads" "LEAST_VALUES" "[I") (.int 4)) (.int 0)) (by decide +kernel))) (va_eqt (hs (Cond.eq (Term.elem (Term.static "ChatThreads" "LEAST_VALUES" "[I") (.int 5)) (.int 0)) (by decide +kernel))) (va_eqt (hs (Cond.eq (Term.elem (Term.static "ChatThreads" "LEAST_VALUES" "[I") (.int 6)) (.int 1)) (by decide +kernel))) (va_eqt (hs (Cond.eq (Term.elem (Term.static "ChatThreads" "LEAST_VALUES" "[I") (.int 7)) (.int 0)) (by decide +kernel)))) hA
set_option maxRecDepth 20000 in
theorem am_row_am_t2 {args : Array Value} {s : State} {A : Nat → Prop} (hg : (Jvm.Cond.and given_1 narrow_1).before args s = true) (hA : ∀ a : Nat, a < s.heap.size → ¬ A a) : ∃ t : Nat, (Term.static "ChatThreads" "GREATEST_VALUES" "[I").eval args s none [] s = some (.ref t) ∧ va_T .int t 8 (fun i => .int (am_t2 i)) A s s.heap := by
  have hs := flat_of_before _ hg
  refine va_Tof (by decide) (hs (Cond.arrayOf (Term.static "ChatThreads" "GREATEST_VALUES" "[I") .int) (by decide +kernel)) (va_eqt (hs (Cond.eq (Term.length (Term.static "ChatThreads" "GREATEST_VALUES" "[I")) (.int 8)) (by decide +kernel))) (am_8 (va_eqt (hs (Cond.eq (Term.elem (Term.static "ChatThreads" "GREATEST_VALUES" "[I") (.int 0)) (.int 100000)) (by decide +kernel))) (va_eqt (hs (Cond.eq (Term.elem (Term.static "ChatThreads" "GREATEST_VALUES" "[I") (.int 1)) (.int 200)) (by decide +kernel))) (va_eqt (hs (Cond.eq (Term.elem (Term.static "ChatThreads" "GREATEST_VALUES" "[I") (.int 2)) (.int 100)) (by decide +kernel))) (va_eqt (hs (Cond.eq (Term.elem (Term.static "ChatThreads" "GREATEST_VALUES" "[I") (.int 3)) (.int 100)) (by decide +kernel))) (va_eqt (hs (Cond.eq (Term.elem (Term.static "ChatThreads" "GREATEST_VALUES" "[I") (.int 4)) (.int 50)) (by decide +kernel))) (va_eqt (hs (Cond.eq (Term.elem (Term.static "ChatThreads" "GREATEST_VALUES" "[I") (.int 5)) (.int 100)) (by decide +kernel))) (va_eqt (hs (Cond.eq (Term.elem (Term.static "ChatThreads" "GREATEST_VALUES" "[I") (.int 6)) (.int 1000)) (by decide +kernel))) (va_eqt (hs (Cond.eq (Term.elem (Term.static "ChatThreads" "GREATEST_VALUES" "[I") (.int 7)) (.int 100)) (by decide +kernel)))) hA

set_option maxRecDepth 20000 in
theorem am_law {p : Program} {e : Env} {s : State} {m : MethodId} {below : List Frame} {meth : Method} {c : Code} (l : Launch) {b L : Nat} {xs : Nat → Int32} (C0 : lw_At p s m meth c b L xs) (hrun : am_OK (h_L_law (4 + 600000) (am_sz (am_M0 L xs).1 + 7302250)) (fun r _ => r = some (.inl 1)) 0 (am_in 10 [.inr 3]) (am_M0 L xs)) : W p l e room_1 s m #[Value.ref b] below meth c s.heap [] 0 0 (lw_Z below #[Value.ref b] s) (entryFrame m ([Value.ref b] : List Value).toArray 10) := by
  obtain ⟨hx, hb, hr, hml, hown, hts, hX, hbl, hlocks, hgv⟩ := C0
  have hW : ∀ w ∈ am_W, w.before #[Value.ref b] s = true := fun w h => hts w (am_W_tbl w h)
  obtain ⟨A, hAe⟩ : ∃ A : Nat → Prop, A = fun q => s.heap.size ≤ q := ⟨_, rfl⟩
  have hA : ∀ q : Nat, s.heap.size ≤ q → A q := fun q h => by rw [hAe]; exact h
  have hnA : ∀ a : Nat, a < s.heap.size → ¬ A a := fun a h => by rw [hAe]; exact Nat.not_le.mpr h
  obtain ⟨t0, e0, r0⟩ := am_row_am_t0 (A := A) hgv hnA
  obtain ⟨t1, e1, r1⟩ := am_row_am_t1 (A := A) hgv hnA
  obtain ⟨t2, e2, r2⟩ := am_row_am_t2 (A := A) hgv hnA
  obtain ⟨a0, g0, g0'⟩ := am_arr0 (s := s) (hW _ aw_113) (Or.inl rfl)
  obtain ⟨a1, g1, g1'⟩ := am_arr0 (s := s) (hW _ aw_223) (Or.inr rfl)
  obtain ⟨a2, g2, g2'⟩ := am_arr3 (s := s) (args := #[Value.ref b]) (am_nest0 hts).2
  obtain ⟨k0, i0, n0⟩ := u_known (C := RX0) (T := TX0) (N := 2) (n := 2) hW iw_X0 (hW _ aw_175)
  obtain ⟨k1, i1, n1⟩ := u_known (C := RX1) (T := TX1) (N := 14) (n := 14) hW iw_X1 (hW _ aw_40)
  obtain ⟨k2, i2, n2⟩ := u_known (C := RX2) (T := TX2) (N := 8) (n := 8) hW iw_X2 (hW _ aw_192)
  obtain ⟨k3, i3, n3⟩ := u_known (C := RX3) (T := TX3) (N := 17) (n := 17) hW iw_X3 (hW _ aw_34)
  obtain ⟨k4, i4, n4⟩ := u_known (C := RX4) (T := TX4) (N := 7) (n := 7) hW iw_X4 (hW _ aw_26)
  obtain ⟨D, hD⟩ : ∃ D : va_G, ∀ (k : Nat) (q : vw_C), vwCl[k]? = some q → u_Kn s q.1 q.2.1 q.2.2 (D.1 k) (D.2 k) := by
    refine ⟨(fun k => [k0, k1, k2, k3, k4].getD k 0, fun k => [i0, i1, i2, i3, i4].getD k (fun _ => 0)), fun k q hq => ?_⟩
    match k, hq with
    | 0, hq => cases hq; exact n0
    | 1, hq => cases hq; exact n1
    | 2, hq => cases hq; exact n2
    | 3, hq => cases hq; exact n3
    | 4, hq => cases hq; exact n4
    | k + 5, hq => simp [vwCl] at hq
  have hK : va_K D vwCl (am_tys (fun k => [a0, a1, a2].getD k 0)) s := by
    refine ⟨hD, fun k q hq => ?_⟩
    match k, hq with
    | 0, hq => cases hq; exact ⟨g0, g0'⟩
    | 1, hq => cases hq; exact ⟨g1, g1'⟩
    | 2, hq => cases hq; exact ⟨g2, g2'⟩
    | k + 3, hq => simp [am_tys] at hq
  have hrX : va_T .int b L (fun i => .int (xs i)) A s s.heap := by
    obtain ⟨scr, x1, x2, x3, x4, x5⟩ := hX
    exact ⟨scr, x1, x2, x3, by omega, by rw [x4], x5, hnA b hbl⟩
  have hne := am_nest0 hts
  have hok : am_ok (am_M0 L xs) := by
    refine ⟨by simp [am_M0], fun k sh hk => ?_, fun k j y _ hy => by simp [am_M0] at hy⟩
    match k, hk with
    | 0, hk => cases hk; exact ⟨fun _ => rfl, fun _ => by decide⟩
    | 1, hk => cases hk; exact ⟨fun _ => rfl, fun _ => by decide⟩
    | 2, hk => cases hk; exact ⟨fun _ => rfl, fun _ => by decide⟩
    | 3, hk => cases hk; exact ⟨fun _ => rfl, fun _ => by decide⟩
    | k + 4, hk => simp [am_M0] at hk
  have hro : am_ro s A (fun k => [t0, t1, t2, b].getD k 0) (am_M0 L xs) := by
    refine ⟨fun j n hj hn => ?_, va_Zref (am_tbl hts 46 rfl) (hW _ aw_17) e0 hnA, va_Zref (am_tbl hts 529 rfl) (hW _ aw_17) e1 hnA, va_Zref (am_tbl hts 531 rfl) (hW _ aw_17) e2 hnA⟩
    match j, hj, hn with
    | 0, _, hn => cases hn; exact r0
    | 1, _, hn => cases hn; exact r1
    | 2, _, hn => cases hn; exact r2
    | 3, _, hn => cases hn; exact hrX
    | j + 4, hj, _ => exact absurd hj (by omega)
  rw [lg_entry_eq]
  have key := am_walk (G := (p, l, e, room_1, s, m, #[Value.ref b], below, meth, c, lw_Z below #[Value.ref b] s, D, (fun k => [a0, a1, a2].getD k 0), A, 10, am_M0 L xs, (fun k => [t0, t1, t2, b].getD k 0), some .boolean, false)) (B := h_L_law (4 + 600000) (am_sz (am_M0 L xs).1 + 7302250)) (Q := fun r _ => r = some (.inl 1)) (s_L_law (nm := meth.name) ⟨hx, hb, hml, hown, hW, hK, hA, hlocks, rfl, rfl, rfl, rfl, rfl, rfl, rfl, hne⟩) ?_ hrun
  · have k2 := key (fun k => [t0, t1, t2, b].getD k 0) s.heap [] _ ⟨hok, hro, (fun k q h => by simp [am_ws, am_M0] at h), ⟨fun i j p q h => by simp [am_ws, am_M0] at h, fun k q h => by simp [am_ws, am_M0] at h⟩, va_S.rf⟩ ⟨Nat.le_refl _, Nat.le_refl _, Nat.le_add_right _ _, Nat.le_add_right _ _, fun _ _ => ⟨rfl, rfl⟩, fun _ _ => rfl⟩ (am_L_in (as := [.inr 3]) (by decide))
    rw [Nat.sub_self, Nat.sub_self] at k2
    exact k2
  · intro r M hq ad H locs ls' pc i hH hsub hrok hrin hri hdec hfz
    subst hq
    cases hri
    rw [hb] at hdec
    refine va_forget (fun q hq => ?_) ?_
    · have := hH.2.2.2.2.2.2 q hq
      rw [hAe] at this
      exact this
    · refine W.widen (k := 600000) (n := 7302250) (by have := hsub.2.2.1; show _ ≤ 600000; have h2 : room_1.cells = 600000 := rfl; omega) (by have := hsub.2.2.2.1; have h2 : room_1.slots = 7302250 := rfl; omega) ?_
      exact lw_ret hx hb hr hlocks hdec
