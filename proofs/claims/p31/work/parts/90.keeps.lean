-- needs: 10 11 12 13 14 15 20 21 22 23 30 31 32 33 34 35 36 37 38 40 41 42 50 51 52 53 54 55 56 57 58 59 60 61 64 65 66 67 68 69 70
/-- a log kept well -/
def Wl (a : Lg) : Prop := LgB a ∧ WfF a ∧ WfT a
theorem Wl_aL {a : Lg} (h : Wl a) {τ p x y : Nat} (hn : gn a < 30) (h1 : τ ≤ 100000) (h2 : p < 12) (h3 : x ≤ 65535) (h4 : y ≤ 65535) : Wl (aL a τ p x y) :=
  ⟨LgB_aL h.1 hn h1 h2 h3 h4, h.2.1, WfT_same h.2.2 rfl rfl⟩
theorem Wl_aF {a : Lg} (h : Wl a) {k l e : Nat} (hk : gk a < 12) (hk2 : k ≤ 2) (hl : l < gn a) (he : k ≠ 0 → e < gn a) (hc : gCan a k l e = true) : Wl (aF a k l e) :=
  ⟨LgB_aF h.1 hk hk2 hl (fun h0 => ⟨he h0, gCan_E hc h0⟩), WfF_aF h.2.1 hc, WfT_same h.2.2 rfl rfl⟩
theorem Wl_entD {a : Lg} (h : Wl a) {c : Nat} {w : Nat → Nat} (h0 : entF a c w = 0) : Wl (entD a c w) := by
  refine ⟨LgB_entD h.1 h0, WfF_entD h.2.1 h0, ?_⟩
  unfold entD
  by_cases hc : c = 108
  · rw [if_pos hc]; exact WfT_same h.2.2 rfl rfl
  · rw [if_neg hc]; exact WfT_same h.2.2 rfl rfl
theorem Wl_tdo (tx : Nat → Nat) (n : Nat) : ∀ f p (a : Lg) k, Wl a → Wl (tdo tx n f p a k).2.2.1
  | 0, p, a, k, h => h
  | f + 1, p, a, k, h => by
    rw [tdo]
    by_cases hp : p < n
    · rw [if_pos hp]
      cases he : ent tx n p with
      | none => exact h
      | some x =>
        simp only
        by_cases h0 : entF a (tx p) x.2 = 0
        · rw [if_pos h0]; exact Wl_tdo tx n f _ _ _ (Wl_entD h h0)
        · rw [if_neg h0]; exact h
    · rw [if_neg hp]; exact h
theorem WfS_wl {s : St} (hW : WfS s) (hc : s.c ≤ 4) {b : Lg} (h : Wl b) : WfS (psh s b) := WfS_psh hW hc h.1 h.2.1 h.2.2
theorem k_takes {s : St} {x y z : Int32} (hW : WfS s) (hc : s.c ≤ 4) : WfS (o_takes s x y z).2 := by
  unfold o_takes
  split
  · rename_i h
    obtain ⟨p, hp, rfl⟩ := pN_lt (n := 12) h.1.1 h.1.2 (by decide)
    obtain ⟨nm, hn, rfl⟩ := pN_lt (n := 16) h.2.1.1 h.2.1.2 (by decide)
    obtain ⟨τ, hτ, rfl⟩ := pN_le (n := 100000) h.2.2.1 h.2.2.2 (by decide)
    rw [pN_n (by omega), pN_n (by omega), pN_n (by omega)]
    unfold tk
    split
    · exact hW
    · rename_i h2
      split
      · exact hW
      · rename_i h3
        have hl : ¬ τ < gl s.a := fun q => h2 (Or.inl q)
        have hh : ¬ (gH s.a nm τ ≠ none ∧ gH s.a nm τ ≠ some p) := fun q => h2 (Or.inr q)
        exact WfS_wl hW hc ⟨LgB_aT hW.1.1 (by omega) hp hn hτ, hW.1.2.1, WfT_aT hW.1.2.2 hl hh hW.1.1 hp⟩
  · exact hW
theorem k_line {s : St} {x y z w : Int32} (hW : WfS s) (hc : s.c ≤ 4) : WfS (o_line s x y z w).2 := by
  unfold o_line
  split
  · rename_i h
    obtain ⟨τ, hτ, rfl⟩ := pN_le (n := 100000) h.1.1 h.1.2 (by decide)
    obtain ⟨p, hp, rfl⟩ := pN_lt (n := 12) h.2.1.1 h.2.1.2 (by decide)
    obtain ⟨u, hu, rfl⟩ := pN_le (n := 65535) h.2.2.1.1 h.2.2.1.2 (by decide)
    obtain ⟨v, hv, rfl⟩ := pN_le (n := 65535) h.2.2.2.1 h.2.2.2.2 (by decide)
    rw [pN_n (by omega), pN_n (by omega), pN_n (by omega), pN_n (by omega)]
    split
    · exact hW
    · exact WfS_wl hW hc (Wl_aL hW.1 (by omega) hτ hp hu hv)
  · exact hW
theorem k_drop {s : St} {x : Int32} (hW : WfS s) (hc : s.c ≤ 4) : WfS (o_drop s x).2 := by
  have bn := hW.1.1.n
  unfold o_drop
  split
  · rename_i h
    obtain ⟨l, hl, rfl⟩ := pN_lt h.1 h.2 (by omega)
    rw [pN_n (by omega)]
    have hd := dropL_i hW.1.1 hW.1.2.1 hl
    exact WfS_wl hW hc ⟨hd.1, hd.2.1, WfT_same hW.1.2.2 hd.2.2.1 hd.2.2.2.1⟩
  · exact hW
theorem k_set {s : St} {x y : Int32} (hW : WfS s) (hc : s.c ≤ 4) : WfS (o_set s x y).2 := by
  unfold o_set
  split
  · rename_i h
    obtain ⟨w, v, hw, rfl, rfl, hv, h1, h2⟩ := isW_i h
    rw [pN_n (by omega), pN_n (by omega)]
    exact WfS_wl hW hc ⟨LgB_aS hW.1.1 hw hv h1 h2, hW.1.2.1, WfT_same hW.1.2.2 rfl rfl⟩
  · exact hW
theorem k_undo {s : St} (hW : WfS s) : WfS (o_undo s).2 := by
  unfold o_undo
  split
  · exact hW
  · rename_i h
    have h : ¬ s.c = 0 := h
    exact ⟨hW.2 (s.c - 1) (by omega), fun j hj => hW.2 j (by have : j < s.c - 1 := hj; omega)⟩
theorem k_correct {s : St} {k x y : Int32} (hW : WfS s) (hc : s.c ≤ 4) : WfS (o_correct s k x y).2 := by
  have bn := hW.1.1.n
  unfold o_correct
  split
  · rename_i h
    obtain ⟨κ, hκ, rfl⟩ := pN_le (n := 2) h.1.1 h.1.2 (by decide)
    obtain ⟨l, hl, rfl⟩ := pN_lt h.2.1.1 h.2.1.2 (by omega)
    rw [pN_n (by omega), pN_n (by omega)]
    have hk0 : nI κ = 0 ↔ κ = 0 := neq0 (by omega)
    have hy : κ ≠ 0 → (if nI κ = 0 then 0 else pN y) < gn s.a := fun h0 => by
      rw [if_neg (fun q => h0 (hk0.mp q))]
      rcases h.2.2 with q | q
      · exact absurd (hk0.mp q) h0
      · obtain ⟨e, he, rfl⟩ := pN_lt q.1 q.2 (by omega)
        rw [pN_n (by omega)]; exact he
    by_cases h2 : gCan s.a κ l (if nI κ = 0 then 0 else pN y) = true
    · rw [if_pos h2]
      by_cases h3 : 12 ≤ gk s.a
      · rw [if_pos h3]; exact hW
      · rw [if_neg h3]; exact WfS_wl hW hc (Wl_aF hW.1 (by omega) hκ hl hy h2)
    · rw [if_neg h2]; exact hW
  · exact hW
theorem k_withdraw {s : St} {x : Int32} (hW : WfS s) (hc : s.c ≤ 4) : WfS (o_withdraw s x).2 := by
  unfold o_withdraw
  split
  · exact WfS_wl hW hc ⟨LgB_rmF hW.1.1 _, WfF_rmF hW.1.2.1 _, WfT_same hW.1.2.2 rfl rfl⟩
  · exact hW
theorem k_type {s : St} {x : Int32} (hW : WfS s) : WfS (o_type s x).2 := by
  unfold o_type
  split
  · split
    · exact hW
    · exact hW
  · exact hW
theorem k_clearText {s : St} (hW : WfS s) : WfS (o_clearText s).2 := hW
theorem k_load {s : St} (hW : WfS s) (hc : s.c ≤ 4) : WfS (o_load s).2 := by
  unfold o_load
  split
  · exact WfS_wl hW hc (Wl_tdo s.x s.n 80 0 s.a 0 hW.1)
  · exact hW

