/-! ACTS, 1: as known at -/
abbrev AsR (u i n lim : Int) (h : PH) (r : Int) (h' : PH) : Prop := (¬ (-1 ≤ n ∧ n ≤ lim) ∧ r = 0 ∧ h' = h) ∨ ((-1 ≤ n ∧ n ≤ lim) ∧ r = 1 ∧ h' = sv h u i n)
theorem x_as {d : Nat} {h : PH} {q : PQ} (S : Shape h) (n : Int) (K : ∀ r h', AsR 18 6 n (gv h 18 5) h r h' → Shape h' → q (some (.inl r)) h') :
    Wp (d + 3) 0 0 M_X11_as 0 [some (.inr (.inr 2)), some (.inl n)] [] h q := by
  refine p_iload 1 rfl rfl rfl ?_
  refine p_const 2 rfl rfl ?_
  refine p_ic_lt 5 16 rfl rfl rfl (fun c1 => ?_) (fun c1 => ?_)
  · skip
    refine p_const 17 rfl rfl ?_
    refine p_zret rfl rfl (by decide) ?_
    -- leaf 1: answer [.inl 0] h=h
    first | exact K _ _ (Or.inl ⟨by omega, rfl, rfl⟩) S | exact K _ _ (Or.inr ⟨by omega, rfl, by subst_vars; rfl⟩) (by assumption)
  · skip
    refine p_iload 6 rfl rfl rfl ?_
    refine p_aload 7 rfl rfl rfl ?_
    refine p_getfr (j := 3) (z := 18) 10 rfl rfl rfl (tg_2 S) rfl (fi_2_3 S) ?_
    refine p_getfi (j := 5) (z := gv h 18 5) 13 rfl rfl rfl (tg_18 S) rfl rfl ?_
    refine p_ic_le 16 18 rfl rfl rfl (fun c2 => ?_) (fun c2 => ?_)
    · skip
      refine p_aload 19 rfl rfl rfl ?_
      refine p_getfr (j := 3) (z := 18) 22 rfl rfl rfl (tg_2 S) rfl (fi_2_3 S) ?_
      refine p_iload 23 rfl rfl rfl ?_
      refine p_putfi (j := 6) 26 rfl rfl rfl (fun z => absurd z (by decide)) (tg_18 S) rfl ?_
      refine p_nmh (fun y3 e3 => ?_)
      have S3 : Shape y3 := by rw [e3]; exact S.svF ff_18_6 _
      refine p_const 27 rfl rfl ?_
      refine p_zret rfl rfl (by decide) ?_
      -- leaf 2: answer [.inl 1] h=y3
      first | exact K _ _ (Or.inl ⟨by omega, rfl, rfl⟩) S | exact K _ _ (Or.inr ⟨by omega, rfl, by subst_vars; rfl⟩) (by assumption)
    · skip
      refine p_const 17 rfl rfl ?_
      refine p_zret rfl rfl (by decide) ?_
      -- leaf 3: answer [.inl 0] h=h
      first | exact K _ _ (Or.inl ⟨by omega, rfl, rfl⟩) S | exact K _ _ (Or.inr ⟨by omega, rfl, by subst_vars; rfl⟩) (by assumption)
theorem m_as {d : Nat} {h : PH} {q : PQ} (S : Shape h) (n : Int) (K : ∀ r h', AsR 66 46 n (gv h 66 40) h r h' → Shape h' → q (some (.inl r)) h') :
    Wp (d + 3) 0 0 M_X12_as 0 [some (.inr (.inr 66)), some (.inl n)] [] h q := by
  refine p_iload 1 rfl rfl rfl ?_
  refine p_i2l 2 rfl rfl ?_
  refine p_lconst 5 rfl rfl ?_
  refine p_aload 6 rfl rfl rfl ?_
  refine p_getfi (j := 40) (z := gv h 66 40) 9 rfl rfl rfl (tg_66 S) rfl rfl ?_
  refine p_i2l 10 rfl rfl ?_
  refine p_calls (le := [some (.inr (.inl n)), none, some (.inr (.inl (-1))), none, some (.inr (.inl (gv h 66 40))), none]) (as := [.inr (.inl n), .inr (.inl (-1)), .inr (.inl (gv h 66 40))]) (rest := []) 13 0 0 0 0 rfl rfl (Nat.le_of_ble_eq_true rfl) rfl (Nat.le_of_ble_eq_true rfl) rfl rfl (Nat.le_of_ble_eq_true rfl) rfl (Nat.le_of_ble_eq_true rfl) rfl (Nat.le_refl _) (Nat.le_refl _) rfl rfl ?_
  refine p_lload 1 rfl rfl rfl ?_
  refine p_lload 2 rfl rfl rfl ?_
  refine p_lc_lt 3 6 17 rfl rfl rfl rfl rfl (fun c1 => ?_) (fun c1 => ?_)
  · skip
    refine p_const 18 rfl rfl ?_
    refine p_zret rfl rfl (by decide) ?_
    show Wp (d + 3) 0 0 M_X12_as 13 [some (.inr (.inr 66)), some (.inl n)] [.inl 0] h _
    refine p_if_ne_f 16 rfl rfl (by decide) ?_
    refine p_const 17 rfl rfl ?_
    refine p_zret rfl rfl (by decide) ?_
    -- leaf 1: answer [.inl 0] h=h
    first | exact K _ _ (Or.inl ⟨by omega, rfl, rfl⟩) S | exact K _ _ (Or.inr ⟨by omega, rfl, by subst_vars; rfl⟩) (by assumption)
  · skip
    refine p_lload 7 rfl rfl rfl ?_
    refine p_lload 9 rfl rfl rfl ?_
    refine p_lc_gt 10 13 17 rfl rfl rfl rfl rfl (fun c2 => ?_) (fun c2 => ?_)
    · skip
      refine p_const 18 rfl rfl ?_
      refine p_zret rfl rfl (by decide) ?_
      show Wp (d + 3) 0 0 M_X12_as 13 [some (.inr (.inr 66)), some (.inl n)] [.inl 0] h _
      refine p_if_ne_f 16 rfl rfl (by decide) ?_
      refine p_const 17 rfl rfl ?_
      refine p_zret rfl rfl (by decide) ?_
      -- leaf 2: answer [.inl 0] h=h
      first | exact K _ _ (Or.inl ⟨by omega, rfl, rfl⟩) S | exact K _ _ (Or.inr ⟨by omega, rfl, by subst_vars; rfl⟩) (by assumption)
    · skip
      refine p_const 14 rfl rfl ?_
      refine p_goto 18 rfl rfl ?_
      refine p_zret rfl rfl (by decide) ?_
      show Wp (d + 3) 0 0 M_X12_as 13 [some (.inr (.inr 66)), some (.inl n)] [.inl 1] h _
      refine p_if_ne_t 18 rfl rfl (by decide) ?_
      refine p_aload 19 rfl rfl rfl ?_
      refine p_iload 20 rfl rfl rfl ?_
      refine p_putfi (j := 46) 23 rfl rfl rfl (fun z => absurd z (by decide)) (tg_66 S) rfl ?_
      refine p_nmh (fun y3 e3 => ?_)
      have S3 : Shape y3 := by rw [e3]; exact S.svF ff_66_46 _
      refine p_const 24 rfl rfl ?_
      refine p_zret rfl rfl (by decide) ?_
      -- leaf 3: answer [.inl 1] h=y3
      first | exact K _ _ (Or.inl ⟨by omega, rfl, rfl⟩) S | exact K _ _ (Or.inr ⟨by omega, rfl, by subst_vars; rfl⟩) (by assumption)

