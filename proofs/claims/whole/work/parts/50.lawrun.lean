theorem law_run (L : Nat) (xs : Nat → Int32) (hL : L ≤ 3072) : Wp 300 600000 7302250 M_L_law 0 [some (.inr (.inr 1)), none, none, none] [] (h0 L xs) (fun r _ => r = some (.inl 1)) := sorry
