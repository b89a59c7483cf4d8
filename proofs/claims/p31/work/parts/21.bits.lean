-- needs: 10 11 12 20
/-- how many ones a number has, as the developers' code counts them -/
def bcA (w : Nat) : Nat := Nat.sub w (Nat.land (Nat.shiftRight w 1) 1431655765)
def bcB (a : Nat) : Nat := Nat.add (Nat.land a 858993459) (Nat.land (Nat.shiftRight a 2) 858993459)
def bcC (b : Nat) : Nat := Nat.land (Nat.add b (Nat.shiftRight b 4)) 252645135
def bcD (c : Nat) : Nat := Nat.add c (Nat.shiftRight c 8)
def bcE (d : Nat) : Nat := Nat.land (Nat.add d (Nat.shiftRight d 16)) 63
def bcN (w : Nat) : Nat := bcE (bcD (bcC (bcB (bcA w))))
def allN (d : Nat) : Nat → Nat → Bool := Nat.rec (fun b p => Nat.beq (bcN b) p) (fun d r b p => cond (r b p) (r (Nat.add b (Nat.pow 2 d)) (Nat.succ p)) false) d
/-- how many of the sixteen words a number has -/
def ones (w : Nat) : Nat := cnt (fun i => w.testBit i) 16
theorem cnt_top (f : Nat → Bool) (n : Nat) : cnt f (n + 1) = cnt f n + if f n then 1 else 0 := rfl
theorem allN_ok : ∀ d b p, allN d b p = true → ∀ v, v < 2 ^ d → bcN (b + v) = p + cnt (fun i => v.testBit i) d
  | 0, b, p, h, v, h1 => by
    obtain rfl : v = 0 := by simp at h1; omega
    exact Nat.eq_of_beq_eq_true h
  | d + 1, b, p, h, v, h1 => by
    have h' : cond (allN d b p) (allN d (Nat.add b (Nat.pow 2 d)) (Nat.succ p)) false = true := h
    have h2 : allN d b p = true ∧ allN d (b + 2 ^ d) (p + 1) = true := by
      cases hc : allN d b p
      · rw [hc] at h'; cases h'
      · rw [hc] at h'; exact ⟨rfl, h'⟩
    rw [Nat.pow_succ] at h1
    rw [cnt_top]
    by_cases hv : v < 2 ^ d
    · rw [Nat.testBit_lt_two_pow hv]
      have := allN_ok d b p h2.1 v hv
      simpa using this
    · obtain ⟨u, rfl⟩ : ∃ u, v = 2 ^ d + u := ⟨v - 2 ^ d, by omega⟩
      have hu : u < 2 ^ d := by omega
      have ih := allN_ok d (b + 2 ^ d) (p + 1) h2.2 u hu
      rw [show b + (2 ^ d + u) = b + 2 ^ d + u by omega, ih]
      have e1 : (2 ^ d + u).testBit d = true := by rw [Nat.testBit_two_pow_add_eq, Nat.testBit_lt_two_pow hu]; rfl
      rw [e1, cnt_congr (f := fun i => (2 ^ d + u).testBit i) (g := fun i => u.testBit i) (fun i hi => Nat.testBit_two_pow_add_gt hi u)]
      simp; omega
theorem all_65536 : allN 16 0 0 = true := by decide +kernel
theorem bcN_ones {w : Nat} (h : w < 65536) : bcN w = ones w := by
  have := allN_ok 16 0 0 all_65536 w (by omega)
  rw [Nat.zero_add, Nat.zero_add] at this
  exact this
theorem ushr_c {x : Nat} (hx : x < 2147483648) (k : Int32) (j : Nat) (hk : (k.toUInt32 &&& Int32.toUInt32 31).toNat % 32 = j) : ((nI x).toUInt32 >>> (k.toUInt32 &&& Int32.toUInt32 31)).toInt32 = nI (x >>> j) := by
  apply Int32.toBitVec_inj.mp
  apply BitVec.eq_of_toNat_eq
  have e1 : (((nI x).toUInt32 >>> (k.toUInt32 &&& Int32.toUInt32 31)).toInt32).toBitVec.toNat = ((nI x).toUInt32 >>> (k.toUInt32 &&& Int32.toUInt32 31)).toNat := rfl
  have h2 : x >>> j ≤ x := by rw [Nat.shiftRight_eq_div_pow]; exact Nat.div_le_self _ _
  have e2 : (nI x).toUInt32.toNat = x := nb_tn hx
  rw [e1, UInt32.toNat_shiftRight, hk, nb_tn (by omega), e2]
theorem f_bitCount {w : Nat} {M : am_M} {post : am_R} (h : w < 65536) (hp : post (some (.inl (nI (ones w)))) M) : sp_J6_bitCount_0f7a4 [.inl (nI w)] M post := by
  have lA : bcA w ≤ w := Nat.sub_le _ _
  have la : ∀ x m : Nat, Nat.land x m ≤ m := fun x m => Nat.and_le_right
  have lsh : ∀ x j : Nat, Nat.shiftRight x j ≤ x := fun x j => by
    have : Nat.shiftRight x j = x >>> j := rfl
    rw [this, Nat.shiftRight_eq_div_pow]; exact Nat.div_le_self _ _
  have lB : bcB (bcA w) ≤ 1717986918 := by
    have h1 := la (bcA w) 858993459
    have h2 := la (Nat.shiftRight (bcA w) 2) 858993459
    have h3 : bcB (bcA w) = Nat.land (bcA w) 858993459 + Nat.land (Nat.shiftRight (bcA w) 2) 858993459 := rfl
    omega
  have lB2 : bcB (bcA w) ≤ 2 * w := by
    have h1 : Nat.land (bcA w) 858993459 ≤ bcA w := Nat.and_le_left
    have h2 : Nat.land (Nat.shiftRight (bcA w) 2) 858993459 ≤ Nat.shiftRight (bcA w) 2 := Nat.and_le_left
    have h4 := lsh (bcA w) 2
    have h3 : bcB (bcA w) = Nat.land (bcA w) 858993459 + Nat.land (Nat.shiftRight (bcA w) 2) 858993459 := rfl
    omega
  have lC : bcC (bcB (bcA w)) ≤ 252645135 := la _ _
  have lD : bcD (bcC (bcB (bcA w))) ≤ 505290270 := by
    have h4 := lsh (bcC (bcB (bcA w))) 8
    have h3 : bcD (bcC (bcB (bcA w))) = bcC (bcB (bcA w)) + Nat.shiftRight (bcC (bcB (bcA w))) 8 := rfl
    omega
  have eA : nI w - (((nI w).toUInt32 >>> ((1 : Int32).toUInt32 &&& Int32.toUInt32 31)).toInt32 &&& 1431655765) = nI (bcA w) := by
    rw [ushr_c (by omega) 1 1 (by decide), show (1431655765 : Int32) = nI 1431655765 from rfl, nb_and, nsub (show w >>> 1 &&& 1431655765 ≤ w from Nat.le_trans Nat.and_le_left (lsh w 1))]; rfl
  have eB : (nI (bcA w) &&& 858993459) + (((nI (bcA w)).toUInt32 >>> ((2 : Int32).toUInt32 &&& Int32.toUInt32 31)).toInt32 &&& 858993459) = nI (bcB (bcA w)) := by
    rw [ushr_c (by omega) 2 2 (by decide), show (858993459 : Int32) = nI 858993459 from rfl, nb_and, nb_and, nadd]; rfl
  have eC : (nI (bcB (bcA w)) + ((nI (bcB (bcA w))).toUInt32 >>> ((4 : Int32).toUInt32 &&& Int32.toUInt32 31)).toInt32) &&& 252645135 = nI (bcC (bcB (bcA w))) := by
    rw [ushr_c (by omega) 4 4 (by decide), show (252645135 : Int32) = nI 252645135 from rfl, nadd, nb_and]; rfl
  have eD : nI (bcC (bcB (bcA w))) + ((nI (bcC (bcB (bcA w)))).toUInt32 >>> ((8 : Int32).toUInt32 &&& Int32.toUInt32 31)).toInt32 = nI (bcD (bcC (bcB (bcA w)))) := by
    rw [ushr_c (by omega) 8 8 (by decide), nadd]; rfl
  have eE : (nI (bcD (bcC (bcB (bcA w)))) + ((nI (bcD (bcC (bcB (bcA w))))).toUInt32 >>> ((16 : Int32).toUInt32 &&& Int32.toUInt32 31)).toInt32) &&& 63 = nI (ones w) := by
    rw [ushr_c (by omega) 16 16 (by decide), show (63 : Int32) = nI 63 from rfl, nadd, nb_and, ← bcN_ones h]; rfl
  refine ⟨Nat.le_of_ble_eq_true rfl, am_fold ?_⟩; rw [h_J6_bitCount_0f7a4_0]
  simp only [↓ap_cc, ↓ap_const, ↓ap_iload, ↓ap_aload, ↓ap_istore, ↓ap_astore, ↓ap_iinc, ↓ap_bin, ↓ap_idiv, ↓ap_irem, ↓ap_callSA, ↓ap_iretA, ↓ap_zretA, ↓ap_i2c, ↓ap_dup, ↓ap_dup2, ↓ap_nn, ↓ap_ic, ↓ap_if, ↓ap_sw, ↓ap_head, ↓ap_getI, ↓ap_getR, ↓ap_putI, ↓ap_putN, ↓ap_putR, ↓ap_iald, ↓ap_cald, ↓ap_iast, ↓ap_cast, ↓ap_aald, ↓ap_aast, ↓ap_alen, ↓ap_stat, ↓ap_pop, ↓ap_mm, ↓ap_copy, ↓ap_ret, ↓ap_iret, ↓ap_zret, ↓ap_aret, ↓ap_retA, ↓ap_new, ↓ap_newa, ↓ap_callV, ↓ap_callS, ↓ap_callI, am_in, List.map_cons, List.map_nil, List.getElem?_cons_zero, List.getElem?_cons_succ, List.set_cons_zero, List.set_cons_succ, List.take_succ_cons, List.take_zero, List.drop_succ_cons, List.drop_zero, List.reverse_cons, List.reverse_nil, List.nil_append, List.cons_append, List.append_nil, List.length_cons, List.length_nil, List.replicate_succ, List.replicate_zero, Option.toList_some, Option.toList_none, true_and, and_true, Option.some.injEq, exists_eq_left', am_wI_mk, am_wA_mk, am_wR_mk, Nat.reduceAdd, Nat.reduceSub, Nat.reduceLeDiff, Nat.zero_add, Nat.le_refl, not_true_eq_false, not_false_eq_true, forall_const, false_implies, true_implies, implies_true, and_self, Prod.mk.injEq, eq_self, true_or, or_true, false_and, and_false, or_false, false_or, Nat.reduceEqDiff, ↓a_J6_bitCount_0f7a4_0, eA, eB, eC, eD, eE]
  exact hp

