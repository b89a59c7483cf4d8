theorem law_runs {L : Nat} {xs : Nat → Int32} (hL : L ≤ 2560) : am_OK (h_L_law (4 + 600000) (am_sz (am_M0 L xs).1 + 7302250)) (fun r _ => r = some (.inl 1)) 0 (am_in 4 [.inr 3]) (am_M0 L xs) := sorry
