/-! THE TAPE -/
theorem ok_X9_at {d : Nat} {h : PH} {q : PQ} (S : Shape h) (place : Int)
    (K1 : 0 ≤ place → place < gv h 3 1 → place < 700 → q (some (.inl (gv h 4 place % 256))) h) (K2 : ¬ (0 ≤ place ∧ place < gv h 3 1 ∧ place < 700) → q (some (.inl (-1))) h) : Wp (d + 1) 0 0 M_X9_at 0 [some (.inr (.inr 3)), some (.inl place)] [] h q := by
  refine p_iload 1 rfl rfl rfl ?_
  refine p_if_lt 4 34 rfl rfl rfl (fun c1 => ?_) (fun c1 => ?_)
  · skip
    refine p_const 35 rfl rfl ?_
    refine p_iret rfl rfl ?_
    -- leaf 1: answer [.inl (-1)] h=h
    exact K2 (by omega)
  · skip
    refine p_iload 5 rfl rfl rfl ?_
    refine p_aload 6 rfl rfl rfl ?_
    refine p_getfi (z := gv h 3 1) 9 rfl rfl rfl (tg_3 S) rfl ?_
    refine p_ic_ge 12 34 rfl rfl rfl (fun c2 => ?_) (fun c2 => ?_)
    · skip
      refine p_const 35 rfl rfl ?_
      refine p_iret rfl rfl ?_
      -- leaf 2: answer [.inl (-1)] h=h
      exact K2 (by omega)
    · skip
      refine p_iload 13 rfl rfl rfl ?_
      refine p_aload 14 rfl rfl rfl ?_
      refine p_getfr (z := 4) 17 rfl rfl rfl (tg_3 S) (fi_3_0 S) ?_
      refine p_alen (w := 700) 18 rfl rfl (by rw [tg_4 S]; decide) (ln_4 S) ?_
      refine p_ic_ge 21 34 rfl rfl rfl (fun c3 => ?_) (fun c3 => ?_)
      · skip
        refine p_const 35 rfl rfl ?_
        refine p_iret rfl rfl ?_
        -- leaf 3: answer [.inl (-1)] h=h
        exact K2 (by omega)
      · skip
        refine p_aload 22 rfl rfl rfl ?_
        refine p_getfr (z := 4) 25 rfl rfl rfl (tg_3 S) (fi_3_0 S) ?_
        refine p_iload 26 rfl rfl rfl ?_
        refine p_bald (w := 700) (z := gv h 4 place) 27 rfl rfl (Or.inl (tg_4 S)) (ln_4 S) (by omega) (by omega) rfl ?_
        refine p_const 30 rfl rfl ?_
        refine p_iand (z := (gv h 4 place) % 256) 31 rfl rfl (mask32 8 rfl (by decide)) ?_
        refine p_goto 35 rfl rfl ?_
        refine p_iret rfl rfl ?_
        -- leaf 4: answer [.inl ((gv h 4 place) % 256)] h=h
        exact K1 (by omega) (by omega) (by omega)

