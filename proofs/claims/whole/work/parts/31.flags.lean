/-! THE FLAGS: lockers, likenesses, weather -/
abbrev LockerR (u v a b c : Int) (h : PH) (r : Int) (h' : PH) : Prop := (¬ (0 ≤ a ∧ a < 10 ∧ 0 ≤ b ∧ b < 67108864 ∧ 0 ≤ c ∧ c ≤ 3) ∧ r = 0 ∧ h' = h) ∨ ((0 ≤ a ∧ a < 10 ∧ 0 ≤ b ∧ b < 67108864 ∧ 0 ≤ c ∧ c ≤ 3) ∧ r = 1 ∧ h' = sv (sv h u a b) v a c)
abbrev FarR (u a b : Int) (h : PH) (r : Int) (h' : PH) : Prop := (¬ (0 ≤ a ∧ a < 9 ∧ 0 ≤ b ∧ b ≤ 9) ∧ r = 0 ∧ h' = h) ∨ ((0 ≤ a ∧ a < 9 ∧ 0 ≤ b ∧ b ≤ 9) ∧ r = 1 ∧ h' = sv h u a b)
theorem x_locker {d : Nat} {h : PH} {q : PQ} (S : Shape h) (a b c : Int)
    (K : ∀ r h', LockerR 6 7 a b c h r h' → Shape h' → q (some (.inl r)) h') :
    Wp (d + 3) 0 0 M_X11_locker 0 [some (.inr (.inr 2)), some (.inl a), some (.inl b), some (.inl c)] [] h q := by
  refine p_iload 1 rfl rfl rfl ?_
  refine p_calls (le := [some (.inl a)]) (as := [.inl a]) (rest := []) 4 0 0 0 0 rfl rfl (Nat.le_of_ble_eq_true rfl) rfl (Nat.le_of_ble_eq_true rfl) rfl rfl (Nat.le_of_ble_eq_true rfl) rfl (Nat.le_of_ble_eq_true rfl) rfl (Nat.le_refl _) (Nat.le_refl _) rfl rfl ?_
  refine p_iload 1 rfl rfl rfl ?_
  refine p_if_lt 4 14 rfl rfl rfl (fun c1 => ?_) (fun c1 => ?_)
  · skip
    refine p_const 15 rfl rfl ?_
    refine p_zret rfl rfl (by decide) ?_
    show Wp (d + 3) 0 0 M_X11_locker 4 [some (.inr (.inr 2)), some (.inl a), some (.inl b), some (.inl c)] [.inl 0] h _
    refine p_if_eq_t 26 rfl rfl (by decide) ?_
    refine p_const 27 rfl rfl ?_
    refine p_zret rfl rfl (by decide) ?_
    -- leaf 1: answer [.inl 0] h=h
    first | exact K _ _ (Or.inl ⟨by omega, rfl, rfl⟩) S | exact K _ _ (Or.inr ⟨by omega, rfl, by subst_vars; rfl⟩) (by assumption)
  · skip
    refine p_iload 5 rfl rfl rfl ?_
    refine p_const 7 rfl rfl ?_
    refine p_ic_ge 10 14 rfl rfl rfl (fun c2 => ?_) (fun c2 => ?_)
    · skip
      refine p_const 15 rfl rfl ?_
      refine p_zret rfl rfl (by decide) ?_
      show Wp (d + 3) 0 0 M_X11_locker 4 [some (.inr (.inr 2)), some (.inl a), some (.inl b), some (.inl c)] [.inl 0] h _
      refine p_if_eq_t 26 rfl rfl (by decide) ?_
      refine p_const 27 rfl rfl ?_
      refine p_zret rfl rfl (by decide) ?_
      -- leaf 2: answer [.inl 0] h=h
      first | exact K _ _ (Or.inl ⟨by omega, rfl, rfl⟩) S | exact K _ _ (Or.inr ⟨by omega, rfl, by subst_vars; rfl⟩) (by assumption)
    · skip
      refine p_const 11 rfl rfl ?_
      refine p_goto 15 rfl rfl ?_
      refine p_zret rfl rfl (by decide) ?_
      show Wp (d + 3) 0 0 M_X11_locker 4 [some (.inr (.inr 2)), some (.inl a), some (.inl b), some (.inl c)] [.inl 1] h _
      refine p_if_eq_f 7 rfl rfl (by decide) ?_
      refine p_iload 8 rfl rfl rfl ?_
      refine p_if_lt 11 26 rfl rfl rfl (fun c3 => ?_) (fun c3 => ?_)
      · skip
        refine p_const 27 rfl rfl ?_
        refine p_zret rfl rfl (by decide) ?_
        -- leaf 3: answer [.inl 0] h=h
        first | exact K _ _ (Or.inl ⟨by omega, rfl, rfl⟩) S | exact K _ _ (Or.inr ⟨by omega, rfl, by subst_vars; rfl⟩) (by assumption)
      · skip
        refine p_iload 12 rfl rfl rfl ?_
        refine p_const 14 rfl rfl ?_
        refine p_ic_ge 17 26 rfl rfl rfl (fun c4 => ?_) (fun c4 => ?_)
        · skip
          refine p_const 27 rfl rfl ?_
          refine p_zret rfl rfl (by decide) ?_
          -- leaf 4: answer [.inl 0] h=h
          first | exact K _ _ (Or.inl ⟨by omega, rfl, rfl⟩) S | exact K _ _ (Or.inr ⟨by omega, rfl, by subst_vars; rfl⟩) (by assumption)
        · skip
          refine p_iload 18 rfl rfl rfl ?_
          refine p_if_lt 21 26 rfl rfl rfl (fun c5 => ?_) (fun c5 => ?_)
          · skip
            refine p_const 27 rfl rfl ?_
            refine p_zret rfl rfl (by decide) ?_
            -- leaf 5: answer [.inl 0] h=h
            first | exact K _ _ (Or.inl ⟨by omega, rfl, rfl⟩) S | exact K _ _ (Or.inr ⟨by omega, rfl, by subst_vars; rfl⟩) (by assumption)
          · skip
            refine p_iload 22 rfl rfl rfl ?_
            refine p_const 23 rfl rfl ?_
            refine p_ic_le 26 28 rfl rfl rfl (fun c6 => ?_) (fun c6 => ?_)
            · skip
              refine p_aload 29 rfl rfl rfl ?_
              refine p_getfr (j := 1) (z := 5) 32 rfl rfl rfl (tg_2 S) rfl (fi_2_1 S) ?_
              refine p_getfr (j := 0) (z := 6) 35 rfl rfl rfl (tg_5 S) rfl (fi_5_0 S) ?_
              refine p_iload 36 rfl rfl rfl ?_
              refine p_iload 37 rfl rfl rfl ?_
              refine p_iast (w := 10) 38 rfl rfl (by decide) (tg_6 S) (ln_6 S) (by omega) (by omega) ?_
              refine p_nmh (fun y7 e7 => ?_)
              have S7 : Shape y7 := by rw [e7]; exact S.svA fa_6 _ _
              refine p_aload 39 rfl rfl rfl ?_
              refine p_getfr (j := 1) (z := 5) 42 rfl rfl rfl (tg_2 S7) rfl (fi_2_1 S7) ?_
              refine p_getfr (j := 1) (z := 7) 45 rfl rfl rfl (tg_5 S7) rfl (fi_5_1 S7) ?_
              refine p_iload 46 rfl rfl rfl ?_
              refine p_iload 47 rfl rfl rfl ?_
              refine p_iast (w := 10) 48 rfl rfl (by decide) (tg_7 S7) (ln_7 S7) (by omega) (by omega) ?_
              refine p_nmh (fun y8 e8 => ?_)
              have S8 : Shape y8 := by rw [e8]; exact S7.svA fa_7 _ _
              refine p_const 49 rfl rfl ?_
              refine p_zret rfl rfl (by decide) ?_
              -- leaf 6: answer [.inl 1] h=y8
              first | exact K _ _ (Or.inl ⟨by omega, rfl, rfl⟩) S | exact K _ _ (Or.inr ⟨by omega, rfl, by subst_vars; rfl⟩) (by assumption)
            · skip
              refine p_const 27 rfl rfl ?_
              refine p_zret rfl rfl (by decide) ?_
              -- leaf 7: answer [.inl 0] h=h
              first | exact K _ _ (Or.inl ⟨by omega, rfl, rfl⟩) S | exact K _ _ (Or.inr ⟨by omega, rfl, by subst_vars; rfl⟩) (by assumption)
theorem m_locker {d : Nat} {h : PH} {q : PQ} (S : Shape h) (a b c : Int)
    (K : ∀ r h', LockerR 86 87 a b c h r h' → Shape h' → q (some (.inl r)) h') :
    Wp (d + 3) 0 0 M_X12_locker 0 [some (.inr (.inr 66)), some (.inl a), some (.inl b), some (.inl c)] [] h q := by
  refine p_iload 1 rfl rfl rfl ?_
  refine p_calls (le := [some (.inl a)]) (as := [.inl a]) (rest := []) 4 0 0 0 0 rfl rfl (Nat.le_of_ble_eq_true rfl) rfl (Nat.le_of_ble_eq_true rfl) rfl rfl (Nat.le_of_ble_eq_true rfl) rfl (Nat.le_of_ble_eq_true rfl) rfl (Nat.le_refl _) (Nat.le_refl _) rfl rfl ?_
  refine p_iload 1 rfl rfl rfl ?_
  refine p_i2l 2 rfl rfl ?_
  refine p_lconst 3 rfl rfl ?_
  refine p_lconst 6 rfl rfl ?_
  refine p_calls (le := [some (.inr (.inl a)), none, some (.inr (.inl 0)), none, some (.inr (.inl 9)), none]) (as := [.inr (.inl a), .inr (.inl 0), .inr (.inl 9)]) (rest := []) 9 0 0 0 0 rfl rfl (Nat.le_of_ble_eq_true rfl) rfl (Nat.le_of_ble_eq_true rfl) rfl rfl (Nat.le_of_ble_eq_true rfl) rfl (Nat.le_of_ble_eq_true rfl) rfl (Nat.le_refl _) (Nat.le_refl _) rfl rfl ?_
  refine p_lload 1 rfl rfl rfl ?_
  refine p_lload 2 rfl rfl rfl ?_
  refine p_lc_lt 3 6 17 rfl rfl rfl rfl rfl (fun c1 => ?_) (fun c1 => ?_)
  · skip
    refine p_const 18 rfl rfl ?_
    refine p_zret rfl rfl (by decide) ?_
    show Wp (d + 2) 0 0 M_X12_isShip 9 [some (.inl a)] [.inl 0] h _
    refine p_zret rfl rfl (by decide) ?_
    show Wp (d + 3) 0 0 M_X12_locker 4 [some (.inr (.inr 66)), some (.inl a), some (.inl b), some (.inl c)] [.inl 0] h _
    refine p_if_eq_t 31 rfl rfl (by decide) ?_
    refine p_const 32 rfl rfl ?_
    refine p_zret rfl rfl (by decide) ?_
    -- leaf 1: answer [.inl 0] h=h
    first | exact K _ _ (Or.inl ⟨by omega, rfl, rfl⟩) S | exact K _ _ (Or.inr ⟨by omega, rfl, by subst_vars; rfl⟩) (by assumption)
  · skip
    refine p_lload 7 rfl rfl rfl ?_
    refine p_lload 9 rfl rfl rfl ?_
    refine p_lc_gt 10 13 17 rfl rfl rfl rfl rfl (fun c2 => ?_) (fun c2 => ?_)
    · skip
      refine p_const 18 rfl rfl ?_
      refine p_zret rfl rfl (by decide) ?_
      show Wp (d + 2) 0 0 M_X12_isShip 9 [some (.inl a)] [.inl 0] h _
      refine p_zret rfl rfl (by decide) ?_
      show Wp (d + 3) 0 0 M_X12_locker 4 [some (.inr (.inr 66)), some (.inl a), some (.inl b), some (.inl c)] [.inl 0] h _
      refine p_if_eq_t 31 rfl rfl (by decide) ?_
      refine p_const 32 rfl rfl ?_
      refine p_zret rfl rfl (by decide) ?_
      -- leaf 2: answer [.inl 0] h=h
      first | exact K _ _ (Or.inl ⟨by omega, rfl, rfl⟩) S | exact K _ _ (Or.inr ⟨by omega, rfl, by subst_vars; rfl⟩) (by assumption)
    · skip
      refine p_const 14 rfl rfl ?_
      refine p_goto 18 rfl rfl ?_
      refine p_zret rfl rfl (by decide) ?_
      show Wp (d + 2) 0 0 M_X12_isShip 9 [some (.inl a)] [.inl 1] h _
      refine p_zret rfl rfl (by decide) ?_
      show Wp (d + 3) 0 0 M_X12_locker 4 [some (.inr (.inr 66)), some (.inl a), some (.inl b), some (.inl c)] [.inl 1] h _
      refine p_if_eq_f 7 rfl rfl (by decide) ?_
      refine p_iload 8 rfl rfl rfl ?_
      refine p_i2l 9 rfl rfl ?_
      refine p_lconst 10 rfl rfl ?_
      refine p_lconst 13 rfl rfl ?_
      refine p_calls (le := [some (.inr (.inl b)), none, some (.inr (.inl 0)), none, some (.inr (.inl 67108863)), none]) (as := [.inr (.inl b), .inr (.inl 0), .inr (.inl 67108863)]) (rest := []) 16 0 0 0 0 rfl rfl (Nat.le_of_ble_eq_true rfl) rfl (Nat.le_of_ble_eq_true rfl) rfl rfl (Nat.le_of_ble_eq_true rfl) rfl (Nat.le_of_ble_eq_true rfl) rfl (Nat.le_refl _) (Nat.le_refl _) rfl rfl ?_
      refine p_lload 1 rfl rfl rfl ?_
      refine p_lload 2 rfl rfl rfl ?_
      refine p_lc_lt 3 6 17 rfl rfl rfl rfl rfl (fun c3 => ?_) (fun c3 => ?_)
      · skip
        refine p_const 18 rfl rfl ?_
        refine p_zret rfl rfl (by decide) ?_
        show Wp (d + 3) 0 0 M_X12_locker 16 [some (.inr (.inr 66)), some (.inl a), some (.inl b), some (.inl c)] [.inl 0] h _
        refine p_if_eq_t 31 rfl rfl (by decide) ?_
        refine p_const 32 rfl rfl ?_
        refine p_zret rfl rfl (by decide) ?_
        -- leaf 3: answer [.inl 0] h=h
        first | exact K _ _ (Or.inl ⟨by omega, rfl, rfl⟩) S | exact K _ _ (Or.inr ⟨by omega, rfl, by subst_vars; rfl⟩) (by assumption)
      · skip
        refine p_lload 7 rfl rfl rfl ?_
        refine p_lload 9 rfl rfl rfl ?_
        refine p_lc_gt 10 13 17 rfl rfl rfl rfl rfl (fun c4 => ?_) (fun c4 => ?_)
        · skip
          refine p_const 18 rfl rfl ?_
          refine p_zret rfl rfl (by decide) ?_
          show Wp (d + 3) 0 0 M_X12_locker 16 [some (.inr (.inr 66)), some (.inl a), some (.inl b), some (.inl c)] [.inl 0] h _
          refine p_if_eq_t 31 rfl rfl (by decide) ?_
          refine p_const 32 rfl rfl ?_
          refine p_zret rfl rfl (by decide) ?_
          -- leaf 4: answer [.inl 0] h=h
          first | exact K _ _ (Or.inl ⟨by omega, rfl, rfl⟩) S | exact K _ _ (Or.inr ⟨by omega, rfl, by subst_vars; rfl⟩) (by assumption)
        · skip
          refine p_const 14 rfl rfl ?_
          refine p_goto 18 rfl rfl ?_
          refine p_zret rfl rfl (by decide) ?_
          show Wp (d + 3) 0 0 M_X12_locker 16 [some (.inr (.inr 66)), some (.inl a), some (.inl b), some (.inl c)] [.inl 1] h _
          refine p_if_eq_f 19 rfl rfl (by decide) ?_
          refine p_iload 20 rfl rfl rfl ?_
          refine p_i2l 21 rfl rfl ?_
          refine p_lconst 22 rfl rfl ?_
          refine p_lconst 25 rfl rfl ?_
          refine p_calls (le := [some (.inr (.inl c)), none, some (.inr (.inl 0)), none, some (.inr (.inl 3)), none]) (as := [.inr (.inl c), .inr (.inl 0), .inr (.inl 3)]) (rest := []) 28 0 0 0 0 rfl rfl (Nat.le_of_ble_eq_true rfl) rfl (Nat.le_of_ble_eq_true rfl) rfl rfl (Nat.le_of_ble_eq_true rfl) rfl (Nat.le_of_ble_eq_true rfl) rfl (Nat.le_refl _) (Nat.le_refl _) rfl rfl ?_
          refine p_lload 1 rfl rfl rfl ?_
          refine p_lload 2 rfl rfl rfl ?_
          refine p_lc_lt 3 6 17 rfl rfl rfl rfl rfl (fun c5 => ?_) (fun c5 => ?_)
          · skip
            refine p_const 18 rfl rfl ?_
            refine p_zret rfl rfl (by decide) ?_
            show Wp (d + 3) 0 0 M_X12_locker 28 [some (.inr (.inr 66)), some (.inl a), some (.inl b), some (.inl c)] [.inl 0] h _
            refine p_if_ne_f 31 rfl rfl (by decide) ?_
            refine p_const 32 rfl rfl ?_
            refine p_zret rfl rfl (by decide) ?_
            -- leaf 5: answer [.inl 0] h=h
            first | exact K _ _ (Or.inl ⟨by omega, rfl, rfl⟩) S | exact K _ _ (Or.inr ⟨by omega, rfl, by subst_vars; rfl⟩) (by assumption)
          · skip
            refine p_lload 7 rfl rfl rfl ?_
            refine p_lload 9 rfl rfl rfl ?_
            refine p_lc_gt 10 13 17 rfl rfl rfl rfl rfl (fun c6 => ?_) (fun c6 => ?_)
            · skip
              refine p_const 18 rfl rfl ?_
              refine p_zret rfl rfl (by decide) ?_
              show Wp (d + 3) 0 0 M_X12_locker 28 [some (.inr (.inr 66)), some (.inl a), some (.inl b), some (.inl c)] [.inl 0] h _
              refine p_if_ne_f 31 rfl rfl (by decide) ?_
              refine p_const 32 rfl rfl ?_
              refine p_zret rfl rfl (by decide) ?_
              -- leaf 6: answer [.inl 0] h=h
              first | exact K _ _ (Or.inl ⟨by omega, rfl, rfl⟩) S | exact K _ _ (Or.inr ⟨by omega, rfl, by subst_vars; rfl⟩) (by assumption)
            · skip
              refine p_const 14 rfl rfl ?_
              refine p_goto 18 rfl rfl ?_
              refine p_zret rfl rfl (by decide) ?_
              show Wp (d + 3) 0 0 M_X12_locker 28 [some (.inr (.inr 66)), some (.inl a), some (.inl b), some (.inl c)] [.inl 1] h _
              refine p_if_ne_t 33 rfl rfl (by decide) ?_
              refine p_aload 34 rfl rfl rfl ?_
              refine p_getfr (j := 31) (z := 86) 37 rfl rfl rfl (tg_66 S) rfl (fi_66_31 S) ?_
              refine p_iload 38 rfl rfl rfl ?_
              refine p_iload 39 rfl rfl rfl ?_
              refine p_iast (w := 10) 40 rfl rfl (by decide) (tg_86 S) (ln_86 S) (by omega) (by omega) ?_
              refine p_nmh (fun y7 e7 => ?_)
              have S7 : Shape y7 := by rw [e7]; exact S.svA fa_86 _ _
              refine p_aload 41 rfl rfl rfl ?_
              refine p_getfr (j := 32) (z := 87) 44 rfl rfl rfl (tg_66 S7) rfl (fi_66_32 S7) ?_
              refine p_iload 45 rfl rfl rfl ?_
              refine p_iload 46 rfl rfl rfl ?_
              refine p_iast (w := 10) 47 rfl rfl (by decide) (tg_87 S7) (ln_87 S7) (by omega) (by omega) ?_
              refine p_nmh (fun y8 e8 => ?_)
              have S8 : Shape y8 := by rw [e8]; exact S7.svA fa_87 _ _
              refine p_const 48 rfl rfl ?_
              refine p_zret rfl rfl (by decide) ?_
              -- leaf 7: answer [.inl 1] h=y8
              first | exact K _ _ (Or.inl ⟨by omega, rfl, rfl⟩) S | exact K _ _ (Or.inr ⟨by omega, rfl, by subst_vars; rfl⟩) (by assumption)
theorem x_far {d : Nat} {h : PH} {q : PQ} (S : Shape h) (a b : Int)
    (K : ∀ r h', FarR 8 a b h r h' → Shape h' → q (some (.inl r)) h') :
    Wp (d + 3) 0 0 M_X11_far 0 [some (.inr (.inr 2)), some (.inl a), some (.inl b)] [] h q := by
  refine p_iload 1 rfl rfl rfl ?_
  refine p_calls (le := [some (.inl a)]) (as := [.inl a]) (rest := []) 4 0 0 0 0 rfl rfl (Nat.le_of_ble_eq_true rfl) rfl (Nat.le_of_ble_eq_true rfl) rfl rfl (Nat.le_of_ble_eq_true rfl) rfl (Nat.le_of_ble_eq_true rfl) rfl (Nat.le_refl _) (Nat.le_refl _) rfl rfl ?_
  refine p_iload 1 rfl rfl rfl ?_
  refine p_if_lt 4 14 rfl rfl rfl (fun c1 => ?_) (fun c1 => ?_)
  · skip
    refine p_const 15 rfl rfl ?_
    refine p_zret rfl rfl (by decide) ?_
    show Wp (d + 3) 0 0 M_X11_far 4 [some (.inr (.inr 2)), some (.inl a), some (.inl b)] [.inl 0] h _
    refine p_if_eq_t 17 rfl rfl (by decide) ?_
    refine p_const 18 rfl rfl ?_
    refine p_zret rfl rfl (by decide) ?_
    -- leaf 1: answer [.inl 0] h=h
    first | exact K _ _ (Or.inl ⟨by omega, rfl, rfl⟩) S | exact K _ _ (Or.inr ⟨by omega, rfl, by subst_vars; rfl⟩) (by assumption)
  · skip
    refine p_iload 5 rfl rfl rfl ?_
    refine p_const 7 rfl rfl ?_
    refine p_ic_ge 10 14 rfl rfl rfl (fun c2 => ?_) (fun c2 => ?_)
    · skip
      refine p_const 15 rfl rfl ?_
      refine p_zret rfl rfl (by decide) ?_
      show Wp (d + 3) 0 0 M_X11_far 4 [some (.inr (.inr 2)), some (.inl a), some (.inl b)] [.inl 0] h _
      refine p_if_eq_t 17 rfl rfl (by decide) ?_
      refine p_const 18 rfl rfl ?_
      refine p_zret rfl rfl (by decide) ?_
      -- leaf 2: answer [.inl 0] h=h
      first | exact K _ _ (Or.inl ⟨by omega, rfl, rfl⟩) S | exact K _ _ (Or.inr ⟨by omega, rfl, by subst_vars; rfl⟩) (by assumption)
    · skip
      refine p_const 11 rfl rfl ?_
      refine p_goto 15 rfl rfl ?_
      refine p_zret rfl rfl (by decide) ?_
      show Wp (d + 3) 0 0 M_X11_far 4 [some (.inr (.inr 2)), some (.inl a), some (.inl b)] [.inl 1] h _
      refine p_if_eq_f 7 rfl rfl (by decide) ?_
      refine p_iload 8 rfl rfl rfl ?_
      refine p_if_lt 11 17 rfl rfl rfl (fun c3 => ?_) (fun c3 => ?_)
      · skip
        refine p_const 18 rfl rfl ?_
        refine p_zret rfl rfl (by decide) ?_
        -- leaf 3: answer [.inl 0] h=h
        first | exact K _ _ (Or.inl ⟨by omega, rfl, rfl⟩) S | exact K _ _ (Or.inr ⟨by omega, rfl, by subst_vars; rfl⟩) (by assumption)
      · skip
        refine p_iload 12 rfl rfl rfl ?_
        refine p_const 14 rfl rfl ?_
        refine p_ic_le 17 19 rfl rfl rfl (fun c4 => ?_) (fun c4 => ?_)
        · skip
          refine p_aload 20 rfl rfl rfl ?_
          refine p_getfr (j := 1) (z := 5) 23 rfl rfl rfl (tg_2 S) rfl (fi_2_1 S) ?_
          refine p_getfr (j := 2) (z := 8) 26 rfl rfl rfl (tg_5 S) rfl (fi_5_2 S) ?_
          refine p_iload 27 rfl rfl rfl ?_
          refine p_iload 28 rfl rfl rfl ?_
          refine p_iast (w := 10) 29 rfl rfl (by decide) (tg_8 S) (ln_8 S) (by omega) (by omega) ?_
          refine p_nmh (fun y5 e5 => ?_)
          have S5 : Shape y5 := by rw [e5]; exact S.svA fa_8 _ _
          refine p_const 30 rfl rfl ?_
          refine p_zret rfl rfl (by decide) ?_
          -- leaf 4: answer [.inl 1] h=y5
          first | exact K _ _ (Or.inl ⟨by omega, rfl, rfl⟩) S | exact K _ _ (Or.inr ⟨by omega, rfl, by subst_vars; rfl⟩) (by assumption)
        · skip
          refine p_const 18 rfl rfl ?_
          refine p_zret rfl rfl (by decide) ?_
          -- leaf 5: answer [.inl 0] h=h
          first | exact K _ _ (Or.inl ⟨by omega, rfl, rfl⟩) S | exact K _ _ (Or.inr ⟨by omega, rfl, by subst_vars; rfl⟩) (by assumption)
theorem m_far {d : Nat} {h : PH} {q : PQ} (S : Shape h) (a b : Int)
    (K : ∀ r h', FarR 91 a b h r h' → Shape h' → q (some (.inl r)) h') :
    Wp (d + 3) 0 0 M_X12_far 0 [some (.inr (.inr 66)), some (.inl a), some (.inl b)] [] h q := by
  refine p_iload 1 rfl rfl rfl ?_
  refine p_i2l 2 rfl rfl ?_
  refine p_lconst 3 rfl rfl ?_
  refine p_lconst 6 rfl rfl ?_
  refine p_calls (le := [some (.inr (.inl a)), none, some (.inr (.inl 0)), none, some (.inr (.inl 8)), none]) (as := [.inr (.inl a), .inr (.inl 0), .inr (.inl 8)]) (rest := []) 9 0 0 0 0 rfl rfl (Nat.le_of_ble_eq_true rfl) rfl (Nat.le_of_ble_eq_true rfl) rfl rfl (Nat.le_of_ble_eq_true rfl) rfl (Nat.le_of_ble_eq_true rfl) rfl (Nat.le_refl _) (Nat.le_refl _) rfl rfl ?_
  refine p_lload 1 rfl rfl rfl ?_
  refine p_lload 2 rfl rfl rfl ?_
  refine p_lc_lt 3 6 17 rfl rfl rfl rfl rfl (fun c1 => ?_) (fun c1 => ?_)
  · skip
    refine p_const 18 rfl rfl ?_
    refine p_zret rfl rfl (by decide) ?_
    show Wp (d + 3) 0 0 M_X12_far 9 [some (.inr (.inr 66)), some (.inl a), some (.inl b)] [.inl 0] h _
    refine p_if_eq_t 24 rfl rfl (by decide) ?_
    refine p_const 25 rfl rfl ?_
    refine p_zret rfl rfl (by decide) ?_
    -- leaf 1: answer [.inl 0] h=h
    first | exact K _ _ (Or.inl ⟨by omega, rfl, rfl⟩) S | exact K _ _ (Or.inr ⟨by omega, rfl, by subst_vars; rfl⟩) (by assumption)
  · skip
    refine p_lload 7 rfl rfl rfl ?_
    refine p_lload 9 rfl rfl rfl ?_
    refine p_lc_gt 10 13 17 rfl rfl rfl rfl rfl (fun c2 => ?_) (fun c2 => ?_)
    · skip
      refine p_const 18 rfl rfl ?_
      refine p_zret rfl rfl (by decide) ?_
      show Wp (d + 3) 0 0 M_X12_far 9 [some (.inr (.inr 66)), some (.inl a), some (.inl b)] [.inl 0] h _
      refine p_if_eq_t 24 rfl rfl (by decide) ?_
      refine p_const 25 rfl rfl ?_
      refine p_zret rfl rfl (by decide) ?_
      -- leaf 2: answer [.inl 0] h=h
      first | exact K _ _ (Or.inl ⟨by omega, rfl, rfl⟩) S | exact K _ _ (Or.inr ⟨by omega, rfl, by subst_vars; rfl⟩) (by assumption)
    · skip
      refine p_const 14 rfl rfl ?_
      refine p_goto 18 rfl rfl ?_
      refine p_zret rfl rfl (by decide) ?_
      show Wp (d + 3) 0 0 M_X12_far 9 [some (.inr (.inr 66)), some (.inl a), some (.inl b)] [.inl 1] h _
      refine p_if_eq_f 12 rfl rfl (by decide) ?_
      refine p_iload 13 rfl rfl rfl ?_
      refine p_i2l 14 rfl rfl ?_
      refine p_lconst 15 rfl rfl ?_
      refine p_lconst 18 rfl rfl ?_
      refine p_calls (le := [some (.inr (.inl b)), none, some (.inr (.inl 0)), none, some (.inr (.inl 9)), none]) (as := [.inr (.inl b), .inr (.inl 0), .inr (.inl 9)]) (rest := []) 21 0 0 0 0 rfl rfl (Nat.le_of_ble_eq_true rfl) rfl (Nat.le_of_ble_eq_true rfl) rfl rfl (Nat.le_of_ble_eq_true rfl) rfl (Nat.le_of_ble_eq_true rfl) rfl (Nat.le_refl _) (Nat.le_refl _) rfl rfl ?_
      refine p_lload 1 rfl rfl rfl ?_
      refine p_lload 2 rfl rfl rfl ?_
      refine p_lc_lt 3 6 17 rfl rfl rfl rfl rfl (fun c3 => ?_) (fun c3 => ?_)
      · skip
        refine p_const 18 rfl rfl ?_
        refine p_zret rfl rfl (by decide) ?_
        show Wp (d + 3) 0 0 M_X12_far 21 [some (.inr (.inr 66)), some (.inl a), some (.inl b)] [.inl 0] h _
        refine p_if_ne_f 24 rfl rfl (by decide) ?_
        refine p_const 25 rfl rfl ?_
        refine p_zret rfl rfl (by decide) ?_
        -- leaf 3: answer [.inl 0] h=h
        first | exact K _ _ (Or.inl ⟨by omega, rfl, rfl⟩) S | exact K _ _ (Or.inr ⟨by omega, rfl, by subst_vars; rfl⟩) (by assumption)
      · skip
        refine p_lload 7 rfl rfl rfl ?_
        refine p_lload 9 rfl rfl rfl ?_
        refine p_lc_gt 10 13 17 rfl rfl rfl rfl rfl (fun c4 => ?_) (fun c4 => ?_)
        · skip
          refine p_const 18 rfl rfl ?_
          refine p_zret rfl rfl (by decide) ?_
          show Wp (d + 3) 0 0 M_X12_far 21 [some (.inr (.inr 66)), some (.inl a), some (.inl b)] [.inl 0] h _
          refine p_if_ne_f 24 rfl rfl (by decide) ?_
          refine p_const 25 rfl rfl ?_
          refine p_zret rfl rfl (by decide) ?_
          -- leaf 4: answer [.inl 0] h=h
          first | exact K _ _ (Or.inl ⟨by omega, rfl, rfl⟩) S | exact K _ _ (Or.inr ⟨by omega, rfl, by subst_vars; rfl⟩) (by assumption)
        · skip
          refine p_const 14 rfl rfl ?_
          refine p_goto 18 rfl rfl ?_
          refine p_zret rfl rfl (by decide) ?_
          show Wp (d + 3) 0 0 M_X12_far 21 [some (.inr (.inr 66)), some (.inl a), some (.inl b)] [.inl 1] h _
          refine p_if_ne_t 26 rfl rfl (by decide) ?_
          refine p_aload 27 rfl rfl rfl ?_
          refine p_getfr (j := 36) (z := 91) 30 rfl rfl rfl (tg_66 S) rfl (fi_66_36 S) ?_
          refine p_iload 31 rfl rfl rfl ?_
          refine p_iload 32 rfl rfl rfl ?_
          refine p_iast (w := 9) 33 rfl rfl (by decide) (tg_91 S) (ln_91 S) (by omega) (by omega) ?_
          refine p_nmh (fun y5 e5 => ?_)
          have S5 : Shape y5 := by rw [e5]; exact S.svA fa_91 _ _
          refine p_const 34 rfl rfl ?_
          refine p_zret rfl rfl (by decide) ?_
          -- leaf 5: answer [.inl 1] h=y5
          first | exact K _ _ (Or.inl ⟨by omega, rfl, rfl⟩) S | exact K _ _ (Or.inr ⟨by omega, rfl, by subst_vars; rfl⟩) (by assumption)
/-- how many of the first n flags are told to be like f, in the table a -/
def cntA (h : PH) (a f : Int) : Nat → Int
  | 0 => 0
  | n + 1 => cntA h a f n + if 0 < gv h a (f * 26 + n) then 1 else 0
theorem cntA_in (h : PH) (a f : Int) : ∀ n, 0 ≤ cntA h a f n ∧ cntA h a f n ≤ n
  | 0 => ⟨Int.le_refl 0, Int.le_refl 0⟩
  | n + 1 => by
    have z := cntA_in h a f n
    unfold cntA
    by_cases c : 0 < gv h a (f * 26 + n)
    · rw [if_pos c]; omega
    · rw [if_neg c]; omega
theorem x_count_loop {d : Nat} {h : PH} {q : PQ} (S : Shape h) (f : Int) (f0 : 0 ≤ f) (f1 : f < 26) (K : q (some (.inl (cntA h 9 f 26))) h) :
    ∀ (n g : Nat) (k c : Int), g + n = 26 → k = g → c = cntA h 9 f g → Wp (d + 1) 0 0 M_X8_countAlike 4 [some (.inr (.inr 5)), some (.inl f), some (.inl c), some (.inl k)] [] h q := by
  intro n
  induction n with
  | zero =>
    intro g k c hg hk hc
    have g26 : g = 26 := by omega
    subst g26
    refine p_iload 5 rfl rfl rfl ?_
    refine p_const 7 rfl rfl ?_
    refine p_ic_ge_t 33 rfl rfl (by omega) ?_
    refine p_iload 34 rfl rfl rfl ?_
    refine p_iret rfl rfl ?_
    -- leaf 1: answer [.inl c] h=h
    rw [hc]; exact K
  | succ n ih =>
    intro g k c hg hk hc
    have z := cntA_in h 9 f g
    have hs : cntA h 9 f (g + 1) = c + if 0 < gv h 9 (f * 26 + k) then 1 else 0 := by rw [hc, hk]; rfl
    refine p_iload 5 rfl rfl rfl ?_
    refine p_const 7 rfl rfl ?_
    refine p_ic_ge_f 10 rfl rfl (by omega) ?_
    refine p_aload 11 rfl rfl rfl ?_
    refine p_getfr (j := 3) (z := 9) 14 rfl rfl rfl (tg_5 S) rfl (fi_5_3 S) ?_
    refine p_iload 15 rfl rfl rfl ?_
    refine p_const 17 rfl rfl ?_
    refine p_imul (z := f * 26) 18 rfl rfl (w32_id ⟨(by omega), (by omega)⟩) ?_
    refine p_iload 19 rfl rfl rfl ?_
    refine p_iadd (z := (f * 26) + k) 20 rfl rfl (w32_id ⟨(by omega), (by omega)⟩) ?_
    refine p_iald (w := 676) (z := gv h 9 ((f * 26) + k)) 21 rfl rfl (tg_9 S) (ln_9 S) (by omega) (by omega) rfl ?_
    refine p_if_le 24 27 rfl rfl rfl (fun c1 => ?_) (fun c1 => ?_)
    · skip
      refine p_iinc (y := k + 1) (ls' := [some (.inr (.inr 5)), some (.inl f), some (.inl c), some (.inl (k + 1))]) 30 rfl rfl rfl (w32_id ⟨(by omega), (by omega)⟩) rfl ?_
      refine p_goto 4 rfl rfl ?_
      -- leaf 1: loop 4 [some (.inr (.inr 5)), some (.inl f), some (.inl c), some (.inl (k + 1))] st=[] h=h
      exact ih (g + 1) _ _ (by omega) (by omega) (by rw [hs, if_neg (by omega)]; omega)
    · skip
      refine p_iinc (y := c + 1) (ls' := [some (.inr (.inr 5)), some (.inl f), some (.inl (c + 1)), some (.inl k)]) 27 rfl rfl rfl (w32_id ⟨(by omega), (by omega)⟩) rfl ?_
      refine p_iinc (y := k + 1) (ls' := [some (.inr (.inr 5)), some (.inl f), some (.inl (c + 1)), some (.inl (k + 1))]) 30 rfl rfl rfl (w32_id ⟨(by omega), (by omega)⟩) rfl ?_
      refine p_goto 4 rfl rfl ?_
      -- leaf 2: loop 4 [some (.inr (.inr 5)), some (.inl f), some (.inl (c + 1)), some (.inl (k + 1))] st=[] h=h
      exact ih (g + 1) _ _ (by omega) (by omega) (by rw [hs, if_pos (by omega)])
theorem x_count {d : Nat} {h : PH} {q : PQ} (S : Shape h) (f : Int) (f0 : 0 ≤ f) (f1 : f < 26) (K : q (some (.inl (cntA h 9 f 26))) h) :
    Wp (d + 1) 0 0 M_X8_countAlike 0 [some (.inr (.inr 5)), some (.inl f), none, none] [] h q := by
  refine p_const 1 rfl rfl ?_
  refine p_istore (ls' := [some (.inr (.inr 5)), some (.inl f), some (.inl 0), none]) 2 rfl rfl (Nat.le_of_ble_eq_true rfl) rfl ?_
  refine p_const 3 rfl rfl ?_
  refine p_istore (ls' := [some (.inr (.inr 5)), some (.inl f), some (.inl 0), some (.inl 0)]) 4 rfl rfl (Nat.le_of_ble_eq_true rfl) rfl ?_
  -- leaf 1: loop 4 [some (.inr (.inr 5)), some (.inl f), some (.inl 0), some (.inl 0)] st=[] h=h
  exact x_count_loop S f f0 f1 K 26 0 0 0 rfl rfl rfl
theorem m_count_loop {d : Nat} {h : PH} {q : PQ} (S : Shape h) (f : Int) (f0 : 0 ≤ f) (f1 : f < 26) (K : q (some (.inl (cntA h 88 f 26))) h) :
    ∀ (n g : Nat) (k c : Int), g + n = 26 → k = g → c = cntA h 88 f g → Wp (d + 1) 0 0 M_X12_likes 4 [some (.inr (.inr 66)), some (.inl f), some (.inl c), some (.inl k)] [] h q := by
  intro n
  induction n with
  | zero =>
    intro g k c hg hk hc
    have g26 : g = 26 := by omega
    subst g26
    refine p_iload 5 rfl rfl rfl ?_
    refine p_const 7 rfl rfl ?_
    refine p_ic_ge_t 33 rfl rfl (by omega) ?_
    refine p_iload 34 rfl rfl rfl ?_
    refine p_iret rfl rfl ?_
    -- leaf 1: answer [.inl c] h=h
    rw [hc]; exact K
  | succ n ih =>
    intro g k c hg hk hc
    have z := cntA_in h 88 f g
    have hs : cntA h 88 f (g + 1) = c + if 0 < gv h 88 (26 * f + k) then 1 else 0 := by rw [hc, hk, Int.mul_comm 26 f]; rfl
    refine p_iload 5 rfl rfl rfl ?_
    refine p_const 7 rfl rfl ?_
    refine p_ic_ge_f 10 rfl rfl (by omega) ?_
    refine p_aload 11 rfl rfl rfl ?_
    refine p_getfr (j := 33) (z := 88) 14 rfl rfl rfl (tg_66 S) rfl (fi_66_33 S) ?_
    refine p_const 16 rfl rfl ?_
    refine p_iload 17 rfl rfl rfl ?_
    refine p_imul (z := 26 * f) 18 rfl rfl (w32_id ⟨(by omega), (by omega)⟩) ?_
    refine p_iload 19 rfl rfl rfl ?_
    refine p_iadd (z := (26 * f) + k) 20 rfl rfl (w32_id ⟨(by omega), (by omega)⟩) ?_
    refine p_iald (w := 676) (z := gv h 88 ((26 * f) + k)) 21 rfl rfl (tg_88 S) (ln_88 S) (by omega) (by omega) rfl ?_
    refine p_if_le 24 27 rfl rfl rfl (fun c1 => ?_) (fun c1 => ?_)
    · skip
      refine p_iinc (y := k + 1) (ls' := [some (.inr (.inr 66)), some (.inl f), some (.inl c), some (.inl (k + 1))]) 30 rfl rfl rfl (w32_id ⟨(by omega), (by omega)⟩) rfl ?_
      refine p_goto 4 rfl rfl ?_
      -- leaf 1: loop 4 [some (.inr (.inr 66)), some (.inl f), some (.inl c), some (.inl (k + 1))] st=[] h=h
      exact ih (g + 1) _ _ (by omega) (by omega) (by rw [hs, if_neg (by omega)]; omega)
    · skip
      refine p_iinc (y := c + 1) (ls' := [some (.inr (.inr 66)), some (.inl f), some (.inl (c + 1)), some (.inl k)]) 27 rfl rfl rfl (w32_id ⟨(by omega), (by omega)⟩) rfl ?_
      refine p_iinc (y := k + 1) (ls' := [some (.inr (.inr 66)), some (.inl f), some (.inl (c + 1)), some (.inl (k + 1))]) 30 rfl rfl rfl (w32_id ⟨(by omega), (by omega)⟩) rfl ?_
      refine p_goto 4 rfl rfl ?_
      -- leaf 2: loop 4 [some (.inr (.inr 66)), some (.inl f), some (.inl (c + 1)), some (.inl (k + 1))] st=[] h=h
      exact ih (g + 1) _ _ (by omega) (by omega) (by rw [hs, if_pos (by omega)])
theorem m_count {d : Nat} {h : PH} {q : PQ} (S : Shape h) (f : Int) (f0 : 0 ≤ f) (f1 : f < 26) (K : q (some (.inl (cntA h 88 f 26))) h) :
    Wp (d + 1) 0 0 M_X12_likes 0 [some (.inr (.inr 66)), some (.inl f), none, none] [] h q := by
  refine p_const 1 rfl rfl ?_
  refine p_istore (ls' := [some (.inr (.inr 66)), some (.inl f), some (.inl 0), none]) 2 rfl rfl (Nat.le_of_ble_eq_true rfl) rfl ?_
  refine p_const 3 rfl rfl ?_
  refine p_istore (ls' := [some (.inr (.inr 66)), some (.inl f), some (.inl 0), some (.inl 0)]) 4 rfl rfl (Nat.le_of_ble_eq_true rfl) rfl ?_
  -- leaf 1: loop 4 [some (.inr (.inr 66)), some (.inl f), some (.inl 0), some (.inl 0)] st=[] h=h
  exact m_count_loop S f f0 f1 K 26 0 0 0 rfl rfl rfl
def argL (f g e : Int) : Prop := 0 ≤ f ∧ f < 26 ∧ 0 ≤ g ∧ g < 26 ∧ f ≠ g ∧ 0 ≤ e ∧ e ≤ 18
abbrev LikeX (f g e : Int) (h : PH) (r : Int) (h' : PH) : Prop := (¬ argL f g e ∧ r = 0 ∧ h' = h) ∨ (argL f g e ∧ (0 < e ∧ gv h 9 (f * 26 + g) = 0 ∧ (3 ≤ cntA h 9 f 26 ∨ 3 ≤ cntA h 9 g 26)) ∧ r = 0 ∧ h' = h) ∨
      (argL f g e ∧ ¬ (0 < e ∧ gv h 9 (f * 26 + g) = 0 ∧ (3 ≤ cntA h 9 f 26 ∨ 3 ≤ cntA h 9 g 26)) ∧ r = 1 ∧ h' = sv (sv h 9 (f * 26 + g) e) 9 (g * 26 + f) e)
abbrev LikeM (f g e : Int) (h : PH) (r : Int) (h' : PH) : Prop := (¬ argL f g e ∧ r = 0 ∧ h' = h) ∨ (argL f g e ∧ (0 < e ∧ gv h 88 (26 * f + g) = 0 ∧ (cntA h 88 f 26 = 3 ∨ cntA h 88 g 26 = 3)) ∧ r = 0 ∧ h' = h) ∨
      (argL f g e ∧ ¬ (0 < e ∧ gv h 88 (26 * f + g) = 0 ∧ (cntA h 88 f 26 = 3 ∨ cntA h 88 g 26 = 3)) ∧ r = 1 ∧ h' = sv (sv h 88 (26 * f + g) e) 88 (26 * g + f) e)
theorem x_like {d : Nat} {h : PH} {q : PQ} (S : Shape h) (f g e : Int)
    (K : ∀ r h', LikeX f g e h r h' → Shape h' → q (some (.inl r)) h') :
    Wp (d + 5) 0 0 M_X11_like 0 [some (.inr (.inr 2)), some (.inl f), some (.inl g), some (.inl e)] [] h q := by
  refine p_iload 1 rfl rfl rfl ?_
  refine p_calls (le := [some (.inl f)]) (as := [.inl f]) (rest := []) 4 0 0 0 0 rfl rfl (Nat.le_of_ble_eq_true rfl) rfl (Nat.le_of_ble_eq_true rfl) rfl rfl (Nat.le_of_ble_eq_true rfl) rfl (Nat.le_of_ble_eq_true rfl) rfl (Nat.le_refl _) (Nat.le_refl _) rfl rfl ?_
  refine p_iload 1 rfl rfl rfl ?_
  refine p_if_lt 4 14 rfl rfl rfl (fun c1 => ?_) (fun c1 => ?_)
  · skip
    refine p_const 15 rfl rfl ?_
    refine p_zret rfl rfl (by decide) ?_
    show Wp (d + 5) 0 0 M_X11_like 4 [some (.inr (.inr 2)), some (.inl f), some (.inl g), some (.inl e)] [.inl 0] h _
    refine p_if_eq_t 29 rfl rfl (by decide) ?_
    refine p_const 30 rfl rfl ?_
    refine p_zret rfl rfl (by decide) ?_
    -- leaf 1: answer [.inl 0] h=h
    first | exact K _ _ (Or.inl ⟨by unfold argL; omega, rfl, rfl⟩) S | exact K _ _ (Or.inr (Or.inl ⟨by unfold argL; omega, by omega, rfl, rfl⟩)) S | exact K _ _ (Or.inr (Or.inr ⟨by unfold argL; omega, by omega, rfl, by subst_vars; rfl⟩)) (by assumption)
  · skip
    refine p_iload 5 rfl rfl rfl ?_
    refine p_const 7 rfl rfl ?_
    refine p_ic_ge 10 14 rfl rfl rfl (fun c2 => ?_) (fun c2 => ?_)
    · skip
      refine p_const 15 rfl rfl ?_
      refine p_zret rfl rfl (by decide) ?_
      show Wp (d + 5) 0 0 M_X11_like 4 [some (.inr (.inr 2)), some (.inl f), some (.inl g), some (.inl e)] [.inl 0] h _
      refine p_if_eq_t 29 rfl rfl (by decide) ?_
      refine p_const 30 rfl rfl ?_
      refine p_zret rfl rfl (by decide) ?_
      -- leaf 2: answer [.inl 0] h=h
      first | exact K _ _ (Or.inl ⟨by unfold argL; omega, rfl, rfl⟩) S | exact K _ _ (Or.inr (Or.inl ⟨by unfold argL; omega, by omega, rfl, rfl⟩)) S | exact K _ _ (Or.inr (Or.inr ⟨by unfold argL; omega, by omega, rfl, by subst_vars; rfl⟩)) (by assumption)
    · skip
      refine p_const 11 rfl rfl ?_
      refine p_goto 15 rfl rfl ?_
      refine p_zret rfl rfl (by decide) ?_
      show Wp (d + 5) 0 0 M_X11_like 4 [some (.inr (.inr 2)), some (.inl f), some (.inl g), some (.inl e)] [.inl 1] h _
      refine p_if_eq_f 7 rfl rfl (by decide) ?_
      refine p_iload 8 rfl rfl rfl ?_
      refine p_calls (le := [some (.inl g)]) (as := [.inl g]) (rest := []) 11 0 0 0 0 rfl rfl (Nat.le_of_ble_eq_true rfl) rfl (Nat.le_of_ble_eq_true rfl) rfl rfl (Nat.le_of_ble_eq_true rfl) rfl (Nat.le_of_ble_eq_true rfl) rfl (Nat.le_refl _) (Nat.le_refl _) rfl rfl ?_
      refine p_iload 1 rfl rfl rfl ?_
      refine p_if_lt 4 14 rfl rfl rfl (fun c3 => ?_) (fun c3 => ?_)
      · skip
        refine p_const 15 rfl rfl ?_
        refine p_zret rfl rfl (by decide) ?_
        show Wp (d + 5) 0 0 M_X11_like 11 [some (.inr (.inr 2)), some (.inl f), some (.inl g), some (.inl e)] [.inl 0] h _
        refine p_if_eq_t 29 rfl rfl (by decide) ?_
        refine p_const 30 rfl rfl ?_
        refine p_zret rfl rfl (by decide) ?_
        -- leaf 3: answer [.inl 0] h=h
        first | exact K _ _ (Or.inl ⟨by unfold argL; omega, rfl, rfl⟩) S | exact K _ _ (Or.inr (Or.inl ⟨by unfold argL; omega, by omega, rfl, rfl⟩)) S | exact K _ _ (Or.inr (Or.inr ⟨by unfold argL; omega, by omega, rfl, by subst_vars; rfl⟩)) (by assumption)
      · skip
        refine p_iload 5 rfl rfl rfl ?_
        refine p_const 7 rfl rfl ?_
        refine p_ic_ge 10 14 rfl rfl rfl (fun c4 => ?_) (fun c4 => ?_)
        · skip
          refine p_const 15 rfl rfl ?_
          refine p_zret rfl rfl (by decide) ?_
          show Wp (d + 5) 0 0 M_X11_like 11 [some (.inr (.inr 2)), some (.inl f), some (.inl g), some (.inl e)] [.inl 0] h _
          refine p_if_eq_t 29 rfl rfl (by decide) ?_
          refine p_const 30 rfl rfl ?_
          refine p_zret rfl rfl (by decide) ?_
          -- leaf 4: answer [.inl 0] h=h
          first | exact K _ _ (Or.inl ⟨by unfold argL; omega, rfl, rfl⟩) S | exact K _ _ (Or.inr (Or.inl ⟨by unfold argL; omega, by omega, rfl, rfl⟩)) S | exact K _ _ (Or.inr (Or.inr ⟨by unfold argL; omega, by omega, rfl, by subst_vars; rfl⟩)) (by assumption)
        · skip
          refine p_const 11 rfl rfl ?_
          refine p_goto 15 rfl rfl ?_
          refine p_zret rfl rfl (by decide) ?_
          show Wp (d + 5) 0 0 M_X11_like 11 [some (.inr (.inr 2)), some (.inl f), some (.inl g), some (.inl e)] [.inl 1] h _
          refine p_if_eq_f 14 rfl rfl (by decide) ?_
          refine p_iload 15 rfl rfl rfl ?_
          refine p_iload 16 rfl rfl rfl ?_
          refine p_ic_eq 19 29 rfl rfl rfl (fun c5 => ?_) (fun c5 => ?_)
          · skip
            refine p_const 30 rfl rfl ?_
            refine p_zret rfl rfl (by decide) ?_
            -- leaf 5: answer [.inl 0] h=h
            first | exact K _ _ (Or.inl ⟨by unfold argL; omega, rfl, rfl⟩) S | exact K _ _ (Or.inr (Or.inl ⟨by unfold argL; omega, by omega, rfl, rfl⟩)) S | exact K _ _ (Or.inr (Or.inr ⟨by unfold argL; omega, by omega, rfl, by subst_vars; rfl⟩)) (by assumption)
          · skip
            refine p_iload 20 rfl rfl rfl ?_
            refine p_if_lt 23 29 rfl rfl rfl (fun c6 => ?_) (fun c6 => ?_)
            · skip
              refine p_const 30 rfl rfl ?_
              refine p_zret rfl rfl (by decide) ?_
              -- leaf 6: answer [.inl 0] h=h
              first | exact K _ _ (Or.inl ⟨by unfold argL; omega, rfl, rfl⟩) S | exact K _ _ (Or.inr (Or.inl ⟨by unfold argL; omega, by omega, rfl, rfl⟩)) S | exact K _ _ (Or.inr (Or.inr ⟨by unfold argL; omega, by omega, rfl, by subst_vars; rfl⟩)) (by assumption)
            · skip
              refine p_iload 24 rfl rfl rfl ?_
              refine p_const 26 rfl rfl ?_
              refine p_ic_le 29 31 rfl rfl rfl (fun c7 => ?_) (fun c7 => ?_)
              · skip
                refine p_aload 32 rfl rfl rfl ?_
                refine p_getfr (j := 1) (z := 5) 35 rfl rfl rfl (tg_2 S) rfl (fi_2_1 S) ?_
                refine p_iload 36 rfl rfl rfl ?_
                refine p_iload 37 rfl rfl rfl ?_
                refine p_iload 38 rfl rfl rfl ?_
                refine p_callv (le := [some (.inr (.inr 5)), some (.inl f), some (.inl g), some (.inl e), none, none, none]) (as := [.inr (.inr 5), .inl f, .inl g, .inl e]) (rest := []) 41 0 0 0 0 rfl rfl (Nat.le_of_ble_eq_true rfl) rfl (Nat.le_of_ble_eq_true rfl) rfl rfl (Nat.le_of_ble_eq_true rfl) rfl (Nat.le_of_ble_eq_true rfl) rfl (Nat.le_refl _) (Nat.le_refl _) rfl rfl (tg_5 S) ?_
                refine p_iload 1 rfl rfl rfl ?_
                refine p_const 3 rfl rfl ?_
                refine p_imul (z := f * 26) 4 rfl rfl (w32_id ⟨(by omega), (by omega)⟩) ?_
                refine p_iload 5 rfl rfl rfl ?_
                refine p_iadd (z := (f * 26) + g) 6 rfl rfl (w32_id ⟨(by omega), (by omega)⟩) ?_
                refine p_istore (ls' := [some (.inr (.inr 5)), some (.inl f), some (.inl g), some (.inl e), some (.inl ((f * 26) + g)), none, none]) 8 rfl rfl (Nat.le_of_ble_eq_true rfl) rfl ?_
                refine p_iload 9 rfl rfl rfl ?_
                refine p_const 11 rfl rfl ?_
                refine p_imul (z := g * 26) 12 rfl rfl (w32_id ⟨(by omega), (by omega)⟩) ?_
                refine p_iload 13 rfl rfl rfl ?_
                refine p_iadd (z := (g * 26) + f) 14 rfl rfl (w32_id ⟨(by omega), (by omega)⟩) ?_
                refine p_istore (ls' := [some (.inr (.inr 5)), some (.inl f), some (.inl g), some (.inl e), some (.inl ((f * 26) + g)), some (.inl ((g * 26) + f)), none]) 16 rfl rfl (Nat.le_of_ble_eq_true rfl) rfl ?_
                refine p_iload 17 rfl rfl rfl ?_
                refine p_if_le 20 34 rfl rfl rfl (fun c8 => ?_) (fun c8 => ?_)
                · skip
                  refine p_const 35 rfl rfl ?_
                  refine p_istore (ls' := [some (.inr (.inr 5)), some (.inl f), some (.inl g), some (.inl e), some (.inl ((f * 26) + g)), some (.inl ((g * 26) + f)), some (.inl 0)]) 37 rfl rfl (Nat.le_of_ble_eq_true rfl) rfl ?_
                  refine p_iload 39 rfl rfl rfl ?_
                  refine p_if_eq_t 62 rfl rfl (by decide) ?_
                  refine p_aload 63 rfl rfl rfl ?_
                  refine p_getfr (j := 3) (z := 9) 66 rfl rfl rfl (tg_5 S) rfl (fi_5_3 S) ?_
                  refine p_iload 68 rfl rfl rfl ?_
                  refine p_iload 69 rfl rfl rfl ?_
                  refine p_iast (w := 676) 70 rfl rfl (by decide) (tg_9 S) (ln_9 S) (by omega) (by omega) ?_
                  refine p_nmh (fun y9 e9 => ?_)
                  have S9 : Shape y9 := by rw [e9]; exact S.svA fa_9 _ _
                  refine p_aload 71 rfl rfl rfl ?_
                  refine p_getfr (j := 3) (z := 9) 74 rfl rfl rfl (tg_5 S9) rfl (fi_5_3 S9) ?_
                  refine p_iload 76 rfl rfl rfl ?_
                  refine p_iload 77 rfl rfl rfl ?_
                  refine p_iast (w := 676) 78 rfl rfl (by decide) (tg_9 S9) (ln_9 S9) (by omega) (by omega) ?_
                  refine p_nmh (fun y10 e10 => ?_)
                  have S10 : Shape y10 := by rw [e10]; exact S9.svA fa_9 _ _
                  refine p_const 79 rfl rfl ?_
                  refine p_zret rfl rfl (by decide) ?_
                  show Wp (d + 5) 0 0 M_X11_like 41 [some (.inr (.inr 2)), some (.inl f), some (.inl g), some (.inl e)] [.inl 1] y10 _
                  refine p_zret rfl rfl (by decide) ?_
                  -- leaf 7: answer [.inl 1] h=y10
                  first | exact K _ _ (Or.inl ⟨by unfold argL; omega, rfl, rfl⟩) S | exact K _ _ (Or.inr (Or.inl ⟨by unfold argL; omega, by omega, rfl, rfl⟩)) S | exact K _ _ (Or.inr (Or.inr ⟨by unfold argL; omega, by omega, rfl, by subst_vars; rfl⟩)) (by assumption)
                · skip
                  refine p_aload 21 rfl rfl rfl ?_
                  refine p_getfr (j := 3) (z := 9) 24 rfl rfl rfl (tg_5 S) rfl (fi_5_3 S) ?_
                  refine p_iload 26 rfl rfl rfl ?_
                  refine p_iald (w := 676) (z := gv h 9 ((f * 26) + g)) 27 rfl rfl (tg_9 S) (ln_9 S) (by omega) (by omega) rfl ?_
                  refine p_if_ne 30 34 rfl rfl rfl (fun c11 => ?_) (fun c11 => ?_)
                  · skip
                    refine p_const 35 rfl rfl ?_
                    refine p_istore (ls' := [some (.inr (.inr 5)), some (.inl f), some (.inl g), some (.inl e), some (.inl ((f * 26) + g)), some (.inl ((g * 26) + f)), some (.inl 0)]) 37 rfl rfl (Nat.le_of_ble_eq_true rfl) rfl ?_
                    refine p_iload 39 rfl rfl rfl ?_
                    refine p_if_eq_t 62 rfl rfl (by decide) ?_
                    refine p_aload 63 rfl rfl rfl ?_
                    refine p_getfr (j := 3) (z := 9) 66 rfl rfl rfl (tg_5 S) rfl (fi_5_3 S) ?_
                    refine p_iload 68 rfl rfl rfl ?_
                    refine p_iload 69 rfl rfl rfl ?_
                    refine p_iast (w := 676) 70 rfl rfl (by decide) (tg_9 S) (ln_9 S) (by omega) (by omega) ?_
                    refine p_nmh (fun y12 e12 => ?_)
                    have S12 : Shape y12 := by rw [e12]; exact S.svA fa_9 _ _
                    refine p_aload 71 rfl rfl rfl ?_
                    refine p_getfr (j := 3) (z := 9) 74 rfl rfl rfl (tg_5 S12) rfl (fi_5_3 S12) ?_
                    refine p_iload 76 rfl rfl rfl ?_
                    refine p_iload 77 rfl rfl rfl ?_
                    refine p_iast (w := 676) 78 rfl rfl (by decide) (tg_9 S12) (ln_9 S12) (by omega) (by omega) ?_
                    refine p_nmh (fun y13 e13 => ?_)
                    have S13 : Shape y13 := by rw [e13]; exact S12.svA fa_9 _ _
                    refine p_const 79 rfl rfl ?_
                    refine p_zret rfl rfl (by decide) ?_
                    show Wp (d + 5) 0 0 M_X11_like 41 [some (.inr (.inr 2)), some (.inl f), some (.inl g), some (.inl e)] [.inl 1] y13 _
                    refine p_zret rfl rfl (by decide) ?_
                    -- leaf 8: answer [.inl 1] h=y13
                    first | exact K _ _ (Or.inl ⟨by unfold argL; omega, rfl, rfl⟩) S | exact K _ _ (Or.inr (Or.inl ⟨by unfold argL; omega, by omega, rfl, rfl⟩)) S | exact K _ _ (Or.inr (Or.inr ⟨by unfold argL; omega, by omega, rfl, by subst_vars; rfl⟩)) (by assumption)
                  · skip
                    refine p_const 31 rfl rfl ?_
                    refine p_goto 35 rfl rfl ?_
                    refine p_istore (ls' := [some (.inr (.inr 5)), some (.inl f), some (.inl g), some (.inl e), some (.inl ((f * 26) + g)), some (.inl ((g * 26) + f)), some (.inl 1)]) 37 rfl rfl (Nat.le_of_ble_eq_true rfl) rfl ?_
                    refine p_iload 39 rfl rfl rfl ?_
                    refine p_if_eq_f 42 rfl rfl (by decide) ?_
                    refine p_aload 43 rfl rfl rfl ?_
                    refine p_iload 44 rfl rfl rfl ?_
                    refine p_callv (le := [some (.inr (.inr 5)), some (.inl f), none, none]) (as := [.inr (.inr 5), .inl f]) (rest := []) 47 0 0 0 0 rfl rfl (Nat.le_of_ble_eq_true rfl) rfl (Nat.le_of_ble_eq_true rfl) rfl rfl (Nat.le_of_ble_eq_true rfl) rfl (Nat.le_of_ble_eq_true rfl) rfl (Nat.le_refl _) (Nat.le_refl _) rfl rfl (tg_5 S) ?_
                    refine x_count S f (by omega) (by omega) ?_
                    show Wp (d + 4) 0 0 M_X8_makeAlike 47 [some (.inr (.inr 5)), some (.inl f), some (.inl g), some (.inl e), some (.inl ((f * 26) + g)), some (.inl ((g * 26) + f)), some (.inl 1)] [.inl (cntA h 9 f 26)] h _
                    refine p_const 48 rfl rfl ?_
                    refine p_ic_ge 51 60 rfl rfl rfl (fun c14 => ?_) (fun c14 => ?_)
                    · skip
                      refine p_const 61 rfl rfl ?_
                      refine p_zret rfl rfl (by decide) ?_
                      show Wp (d + 5) 0 0 M_X11_like 41 [some (.inr (.inr 2)), some (.inl f), some (.inl g), some (.inl e)] [.inl 0] h _
                      refine p_zret rfl rfl (by decide) ?_
                      -- leaf 9: answer [.inl 0] h=h
                      first | exact K _ _ (Or.inl ⟨by unfold argL; omega, rfl, rfl⟩) S | exact K _ _ (Or.inr (Or.inl ⟨by unfold argL; omega, by omega, rfl, rfl⟩)) S | exact K _ _ (Or.inr (Or.inr ⟨by unfold argL; omega, by omega, rfl, by subst_vars; rfl⟩)) (by assumption)
                    · skip
                      refine p_aload 52 rfl rfl rfl ?_
                      refine p_iload 53 rfl rfl rfl ?_
                      refine p_callv (le := [some (.inr (.inr 5)), some (.inl g), none, none]) (as := [.inr (.inr 5), .inl g]) (rest := []) 56 0 0 0 0 rfl rfl (Nat.le_of_ble_eq_true rfl) rfl (Nat.le_of_ble_eq_true rfl) rfl rfl (Nat.le_of_ble_eq_true rfl) rfl (Nat.le_of_ble_eq_true rfl) rfl (Nat.le_refl _) (Nat.le_refl _) rfl rfl (tg_5 S) ?_
                      refine x_count S g (by omega) (by omega) ?_
                      show Wp (d + 4) 0 0 M_X8_makeAlike 56 [some (.inr (.inr 5)), some (.inl f), some (.inl g), some (.inl e), some (.inl ((f * 26) + g)), some (.inl ((g * 26) + f)), some (.inl 1)] [.inl (cntA h 9 g 26)] h _
                      refine p_const 57 rfl rfl ?_
                      refine p_ic_lt 60 62 rfl rfl rfl (fun c15 => ?_) (fun c15 => ?_)
                      · skip
                        refine p_aload 63 rfl rfl rfl ?_
                        refine p_getfr (j := 3) (z := 9) 66 rfl rfl rfl (tg_5 S) rfl (fi_5_3 S) ?_
                        refine p_iload 68 rfl rfl rfl ?_
                        refine p_iload 69 rfl rfl rfl ?_
                        refine p_iast (w := 676) 70 rfl rfl (by decide) (tg_9 S) (ln_9 S) (by omega) (by omega) ?_
                        refine p_nmh (fun y16 e16 => ?_)
                        have S16 : Shape y16 := by rw [e16]; exact S.svA fa_9 _ _
                        refine p_aload 71 rfl rfl rfl ?_
                        refine p_getfr (j := 3) (z := 9) 74 rfl rfl rfl (tg_5 S16) rfl (fi_5_3 S16) ?_
                        refine p_iload 76 rfl rfl rfl ?_
                        refine p_iload 77 rfl rfl rfl ?_
                        refine p_iast (w := 676) 78 rfl rfl (by decide) (tg_9 S16) (ln_9 S16) (by omega) (by omega) ?_
                        refine p_nmh (fun y17 e17 => ?_)
                        have S17 : Shape y17 := by rw [e17]; exact S16.svA fa_9 _ _
                        refine p_const 79 rfl rfl ?_
                        refine p_zret rfl rfl (by decide) ?_
                        show Wp (d + 5) 0 0 M_X11_like 41 [some (.inr (.inr 2)), some (.inl f), some (.inl g), some (.inl e)] [.inl 1] y17 _
                        refine p_zret rfl rfl (by decide) ?_
                        -- leaf 10: answer [.inl 1] h=y17
                        first | exact K _ _ (Or.inl ⟨by unfold argL; omega, rfl, rfl⟩) S | exact K _ _ (Or.inr (Or.inl ⟨by unfold argL; omega, by omega, rfl, rfl⟩)) S | exact K _ _ (Or.inr (Or.inr ⟨by unfold argL; omega, by omega, rfl, by subst_vars; rfl⟩)) (by assumption)
                      · skip
                        refine p_const 61 rfl rfl ?_
                        refine p_zret rfl rfl (by decide) ?_
                        show Wp (d + 5) 0 0 M_X11_like 41 [some (.inr (.inr 2)), some (.inl f), some (.inl g), some (.inl e)] [.inl 0] h _
                        refine p_zret rfl rfl (by decide) ?_
                        -- leaf 11: answer [.inl 0] h=h
                        first | exact K _ _ (Or.inl ⟨by unfold argL; omega, rfl, rfl⟩) S | exact K _ _ (Or.inr (Or.inl ⟨by unfold argL; omega, by omega, rfl, rfl⟩)) S | exact K _ _ (Or.inr (Or.inr ⟨by unfold argL; omega, by omega, rfl, by subst_vars; rfl⟩)) (by assumption)
              · skip
                refine p_const 30 rfl rfl ?_
                refine p_zret rfl rfl (by decide) ?_
                -- leaf 12: answer [.inl 0] h=h
                first | exact K _ _ (Or.inl ⟨by unfold argL; omega, rfl, rfl⟩) S | exact K _ _ (Or.inr (Or.inl ⟨by unfold argL; omega, by omega, rfl, rfl⟩)) S | exact K _ _ (Or.inr (Or.inr ⟨by unfold argL; omega, by omega, rfl, by subst_vars; rfl⟩)) (by assumption)
theorem m_like {d : Nat} {h : PH} {q : PQ} (S : Shape h) (f g e : Int)
    (K : ∀ r h', LikeM f g e h r h' → Shape h' → q (some (.inl r)) h') :
    Wp (d + 5) 0 0 M_X12_like 0 [some (.inr (.inr 66)), some (.inl f), some (.inl g), some (.inl e)] [] h q := by
  refine p_iload 1 rfl rfl rfl ?_
  refine p_calls (le := [some (.inl f)]) (as := [.inl f]) (rest := []) 4 0 0 0 0 rfl rfl (Nat.le_of_ble_eq_true rfl) rfl (Nat.le_of_ble_eq_true rfl) rfl rfl (Nat.le_of_ble_eq_true rfl) rfl (Nat.le_of_ble_eq_true rfl) rfl (Nat.le_refl _) (Nat.le_refl _) rfl rfl ?_
  refine p_iload 1 rfl rfl rfl ?_
  refine p_i2l 2 rfl rfl ?_
  refine p_lconst 3 rfl rfl ?_
  refine p_lconst 6 rfl rfl ?_
  refine p_calls (le := [some (.inr (.inl f)), none, some (.inr (.inl 0)), none, some (.inr (.inl 25)), none]) (as := [.inr (.inl f), .inr (.inl 0), .inr (.inl 25)]) (rest := []) 9 0 0 0 0 rfl rfl (Nat.le_of_ble_eq_true rfl) rfl (Nat.le_of_ble_eq_true rfl) rfl rfl (Nat.le_of_ble_eq_true rfl) rfl (Nat.le_of_ble_eq_true rfl) rfl (Nat.le_refl _) (Nat.le_refl _) rfl rfl ?_
  refine p_lload 1 rfl rfl rfl ?_
  refine p_lload 2 rfl rfl rfl ?_
  refine p_lc_lt 3 6 17 rfl rfl rfl rfl rfl (fun c1 => ?_) (fun c1 => ?_)
  · skip
    refine p_const 18 rfl rfl ?_
    refine p_zret rfl rfl (by decide) ?_
    show Wp (d + 4) 0 0 M_X12_isFlag 9 [some (.inl f)] [.inl 0] h _
    refine p_zret rfl rfl (by decide) ?_
    show Wp (d + 5) 0 0 M_X12_like 4 [some (.inr (.inr 66)), some (.inl f), some (.inl g), some (.inl e)] [.inl 0] h _
    refine p_if_eq_t 31 rfl rfl (by decide) ?_
    refine p_const 32 rfl rfl ?_
    refine p_zret rfl rfl (by decide) ?_
    -- leaf 1: answer [.inl 0] h=h
    first | exact K _ _ (Or.inl ⟨by unfold argL; omega, rfl, rfl⟩) S | exact K _ _ (Or.inr (Or.inl ⟨by unfold argL; omega, by omega, rfl, rfl⟩)) S | exact K _ _ (Or.inr (Or.inr ⟨by unfold argL; omega, by omega, rfl, by subst_vars; rfl⟩)) (by assumption)
  · skip
    refine p_lload 7 rfl rfl rfl ?_
    refine p_lload 9 rfl rfl rfl ?_
    refine p_lc_gt 10 13 17 rfl rfl rfl rfl rfl (fun c2 => ?_) (fun c2 => ?_)
    · skip
      refine p_const 18 rfl rfl ?_
      refine p_zret rfl rfl (by decide) ?_
      show Wp (d + 4) 0 0 M_X12_isFlag 9 [some (.inl f)] [.inl 0] h _
      refine p_zret rfl rfl (by decide) ?_
      show Wp (d + 5) 0 0 M_X12_like 4 [some (.inr (.inr 66)), some (.inl f), some (.inl g), some (.inl e)] [.inl 0] h _
      refine p_if_eq_t 31 rfl rfl (by decide) ?_
      refine p_const 32 rfl rfl ?_
      refine p_zret rfl rfl (by decide) ?_
      -- leaf 2: answer [.inl 0] h=h
      first | exact K _ _ (Or.inl ⟨by unfold argL; omega, rfl, rfl⟩) S | exact K _ _ (Or.inr (Or.inl ⟨by unfold argL; omega, by omega, rfl, rfl⟩)) S | exact K _ _ (Or.inr (Or.inr ⟨by unfold argL; omega, by omega, rfl, by subst_vars; rfl⟩)) (by assumption)
    · skip
      refine p_const 14 rfl rfl ?_
      refine p_goto 18 rfl rfl ?_
      refine p_zret rfl rfl (by decide) ?_
      show Wp (d + 4) 0 0 M_X12_isFlag 9 [some (.inl f)] [.inl 1] h _
      refine p_zret rfl rfl (by decide) ?_
      show Wp (d + 5) 0 0 M_X12_like 4 [some (.inr (.inr 66)), some (.inl f), some (.inl g), some (.inl e)] [.inl 1] h _
      refine p_if_eq_f 7 rfl rfl (by decide) ?_
      refine p_iload 8 rfl rfl rfl ?_
      refine p_calls (le := [some (.inl g)]) (as := [.inl g]) (rest := []) 11 0 0 0 0 rfl rfl (Nat.le_of_ble_eq_true rfl) rfl (Nat.le_of_ble_eq_true rfl) rfl rfl (Nat.le_of_ble_eq_true rfl) rfl (Nat.le_of_ble_eq_true rfl) rfl (Nat.le_refl _) (Nat.le_refl _) rfl rfl ?_
      refine p_iload 1 rfl rfl rfl ?_
      refine p_i2l 2 rfl rfl ?_
      refine p_lconst 3 rfl rfl ?_
      refine p_lconst 6 rfl rfl ?_
      refine p_calls (le := [some (.inr (.inl g)), none, some (.inr (.inl 0)), none, some (.inr (.inl 25)), none]) (as := [.inr (.inl g), .inr (.inl 0), .inr (.inl 25)]) (rest := []) 9 0 0 0 0 rfl rfl (Nat.le_of_ble_eq_true rfl) rfl (Nat.le_of_ble_eq_true rfl) rfl rfl (Nat.le_of_ble_eq_true rfl) rfl (Nat.le_of_ble_eq_true rfl) rfl (Nat.le_refl _) (Nat.le_refl _) rfl rfl ?_
      refine p_lload 1 rfl rfl rfl ?_
      refine p_lload 2 rfl rfl rfl ?_
      refine p_lc_lt 3 6 17 rfl rfl rfl rfl rfl (fun c3 => ?_) (fun c3 => ?_)
      · skip
        refine p_const 18 rfl rfl ?_
        refine p_zret rfl rfl (by decide) ?_
        show Wp (d + 4) 0 0 M_X12_isFlag 9 [some (.inl g)] [.inl 0] h _
        refine p_zret rfl rfl (by decide) ?_
        show Wp (d + 5) 0 0 M_X12_like 11 [some (.inr (.inr 66)), some (.inl f), some (.inl g), some (.inl e)] [.inl 0] h _
        refine p_if_eq_t 31 rfl rfl (by decide) ?_
        refine p_const 32 rfl rfl ?_
        refine p_zret rfl rfl (by decide) ?_
        -- leaf 3: answer [.inl 0] h=h
        first | exact K _ _ (Or.inl ⟨by unfold argL; omega, rfl, rfl⟩) S | exact K _ _ (Or.inr (Or.inl ⟨by unfold argL; omega, by omega, rfl, rfl⟩)) S | exact K _ _ (Or.inr (Or.inr ⟨by unfold argL; omega, by omega, rfl, by subst_vars; rfl⟩)) (by assumption)
      · skip
        refine p_lload 7 rfl rfl rfl ?_
        refine p_lload 9 rfl rfl rfl ?_
        refine p_lc_gt 10 13 17 rfl rfl rfl rfl rfl (fun c4 => ?_) (fun c4 => ?_)
        · skip
          refine p_const 18 rfl rfl ?_
          refine p_zret rfl rfl (by decide) ?_
          show Wp (d + 4) 0 0 M_X12_isFlag 9 [some (.inl g)] [.inl 0] h _
          refine p_zret rfl rfl (by decide) ?_
          show Wp (d + 5) 0 0 M_X12_like 11 [some (.inr (.inr 66)), some (.inl f), some (.inl g), some (.inl e)] [.inl 0] h _
          refine p_if_eq_t 31 rfl rfl (by decide) ?_
          refine p_const 32 rfl rfl ?_
          refine p_zret rfl rfl (by decide) ?_
          -- leaf 4: answer [.inl 0] h=h
          first | exact K _ _ (Or.inl ⟨by unfold argL; omega, rfl, rfl⟩) S | exact K _ _ (Or.inr (Or.inl ⟨by unfold argL; omega, by omega, rfl, rfl⟩)) S | exact K _ _ (Or.inr (Or.inr ⟨by unfold argL; omega, by omega, rfl, by subst_vars; rfl⟩)) (by assumption)
        · skip
          refine p_const 14 rfl rfl ?_
          refine p_goto 18 rfl rfl ?_
          refine p_zret rfl rfl (by decide) ?_
          show Wp (d + 4) 0 0 M_X12_isFlag 9 [some (.inl g)] [.inl 1] h _
          refine p_zret rfl rfl (by decide) ?_
          show Wp (d + 5) 0 0 M_X12_like 11 [some (.inr (.inr 66)), some (.inl f), some (.inl g), some (.inl e)] [.inl 1] h _
          refine p_if_eq_f 14 rfl rfl (by decide) ?_
          refine p_iload 15 rfl rfl rfl ?_
          refine p_iload 16 rfl rfl rfl ?_
          refine p_ic_eq 19 31 rfl rfl rfl (fun c5 => ?_) (fun c5 => ?_)
          · skip
            refine p_const 32 rfl rfl ?_
            refine p_zret rfl rfl (by decide) ?_
            -- leaf 5: answer [.inl 0] h=h
            first | exact K _ _ (Or.inl ⟨by unfold argL; omega, rfl, rfl⟩) S | exact K _ _ (Or.inr (Or.inl ⟨by unfold argL; omega, by omega, rfl, rfl⟩)) S | exact K _ _ (Or.inr (Or.inr ⟨by unfold argL; omega, by omega, rfl, by subst_vars; rfl⟩)) (by assumption)
          · skip
            refine p_iload 20 rfl rfl rfl ?_
            refine p_i2l 21 rfl rfl ?_
            refine p_lconst 22 rfl rfl ?_
            refine p_lconst 25 rfl rfl ?_
            refine p_calls (le := [some (.inr (.inl e)), none, some (.inr (.inl 0)), none, some (.inr (.inl 18)), none]) (as := [.inr (.inl e), .inr (.inl 0), .inr (.inl 18)]) (rest := []) 28 0 0 0 0 rfl rfl (Nat.le_of_ble_eq_true rfl) rfl (Nat.le_of_ble_eq_true rfl) rfl rfl (Nat.le_of_ble_eq_true rfl) rfl (Nat.le_of_ble_eq_true rfl) rfl (Nat.le_refl _) (Nat.le_refl _) rfl rfl ?_
            refine p_lload 1 rfl rfl rfl ?_
            refine p_lload 2 rfl rfl rfl ?_
            refine p_lc_lt 3 6 17 rfl rfl rfl rfl rfl (fun c6 => ?_) (fun c6 => ?_)
            · skip
              refine p_const 18 rfl rfl ?_
              refine p_zret rfl rfl (by decide) ?_
              show Wp (d + 5) 0 0 M_X12_like 28 [some (.inr (.inr 66)), some (.inl f), some (.inl g), some (.inl e)] [.inl 0] h _
              refine p_if_ne_f 31 rfl rfl (by decide) ?_
              refine p_const 32 rfl rfl ?_
              refine p_zret rfl rfl (by decide) ?_
              -- leaf 6: answer [.inl 0] h=h
              first | exact K _ _ (Or.inl ⟨by unfold argL; omega, rfl, rfl⟩) S | exact K _ _ (Or.inr (Or.inl ⟨by unfold argL; omega, by omega, rfl, rfl⟩)) S | exact K _ _ (Or.inr (Or.inr ⟨by unfold argL; omega, by omega, rfl, by subst_vars; rfl⟩)) (by assumption)
            · skip
              refine p_lload 7 rfl rfl rfl ?_
              refine p_lload 9 rfl rfl rfl ?_
              refine p_lc_gt 10 13 17 rfl rfl rfl rfl rfl (fun c7 => ?_) (fun c7 => ?_)
              · skip
                refine p_const 18 rfl rfl ?_
                refine p_zret rfl rfl (by decide) ?_
                show Wp (d + 5) 0 0 M_X12_like 28 [some (.inr (.inr 66)), some (.inl f), some (.inl g), some (.inl e)] [.inl 0] h _
                refine p_if_ne_f 31 rfl rfl (by decide) ?_
                refine p_const 32 rfl rfl ?_
                refine p_zret rfl rfl (by decide) ?_
                -- leaf 7: answer [.inl 0] h=h
                first | exact K _ _ (Or.inl ⟨by unfold argL; omega, rfl, rfl⟩) S | exact K _ _ (Or.inr (Or.inl ⟨by unfold argL; omega, by omega, rfl, rfl⟩)) S | exact K _ _ (Or.inr (Or.inr ⟨by unfold argL; omega, by omega, rfl, by subst_vars; rfl⟩)) (by assumption)
              · skip
                refine p_const 14 rfl rfl ?_
                refine p_goto 18 rfl rfl ?_
                refine p_zret rfl rfl (by decide) ?_
                show Wp (d + 5) 0 0 M_X12_like 28 [some (.inr (.inr 66)), some (.inl f), some (.inl g), some (.inl e)] [.inl 1] h _
                refine p_if_ne_t 33 rfl rfl (by decide) ?_
                refine p_iload 34 rfl rfl rfl ?_
                refine p_if_le 37 71 rfl rfl rfl (fun c8 => ?_) (fun c8 => ?_)
                · skip
                  refine p_aload 72 rfl rfl rfl ?_
                  refine p_getfr (j := 33) (z := 88) 75 rfl rfl rfl (tg_66 S) rfl (fi_66_33 S) ?_
                  refine p_const 77 rfl rfl ?_
                  refine p_iload 78 rfl rfl rfl ?_
                  refine p_imul (z := 26 * f) 79 rfl rfl (w32_id ⟨(by omega), (by omega)⟩) ?_
                  refine p_iload 80 rfl rfl rfl ?_
                  refine p_iadd (z := (26 * f) + g) 81 rfl rfl (w32_id ⟨(by omega), (by omega)⟩) ?_
                  refine p_iload 82 rfl rfl rfl ?_
                  refine p_iast (w := 676) 83 rfl rfl (by decide) (tg_88 S) (ln_88 S) (by omega) (by omega) ?_
                  refine p_nmh (fun y9 e9 => ?_)
                  have S9 : Shape y9 := by rw [e9]; exact S.svA fa_88 _ _
                  refine p_aload 84 rfl rfl rfl ?_
                  refine p_getfr (j := 33) (z := 88) 87 rfl rfl rfl (tg_66 S9) rfl (fi_66_33 S9) ?_
                  refine p_const 89 rfl rfl ?_
                  refine p_iload 90 rfl rfl rfl ?_
                  refine p_imul (z := 26 * g) 91 rfl rfl (w32_id ⟨(by omega), (by omega)⟩) ?_
                  refine p_iload 92 rfl rfl rfl ?_
                  refine p_iadd (z := (26 * g) + f) 93 rfl rfl (w32_id ⟨(by omega), (by omega)⟩) ?_
                  refine p_iload 94 rfl rfl rfl ?_
                  refine p_iast (w := 676) 95 rfl rfl (by decide) (tg_88 S9) (ln_88 S9) (by omega) (by omega) ?_
                  refine p_nmh (fun y10 e10 => ?_)
                  have S10 : Shape y10 := by rw [e10]; exact S9.svA fa_88 _ _
                  refine p_const 96 rfl rfl ?_
                  refine p_zret rfl rfl (by decide) ?_
                  -- leaf 8: answer [.inl 1] h=y10
                  first | exact K _ _ (Or.inl ⟨by unfold argL; omega, rfl, rfl⟩) S | exact K _ _ (Or.inr (Or.inl ⟨by unfold argL; omega, by omega, rfl, rfl⟩)) S | exact K _ _ (Or.inr (Or.inr ⟨by unfold argL; omega, by omega, rfl, by subst_vars; rfl⟩)) (by assumption)
                · skip
                  refine p_aload 38 rfl rfl rfl ?_
                  refine p_getfr (j := 33) (z := 88) 41 rfl rfl rfl (tg_66 S) rfl (fi_66_33 S) ?_
                  refine p_const 43 rfl rfl ?_
                  refine p_iload 44 rfl rfl rfl ?_
                  refine p_imul (z := 26 * f) 45 rfl rfl (w32_id ⟨(by omega), (by omega)⟩) ?_
                  refine p_iload 46 rfl rfl rfl ?_
                  refine p_iadd (z := (26 * f) + g) 47 rfl rfl (w32_id ⟨(by omega), (by omega)⟩) ?_
                  refine p_iald (w := 676) (z := gv h 88 ((26 * f) + g)) 48 rfl rfl (tg_88 S) (ln_88 S) (by omega) (by omega) rfl ?_
                  refine p_if_ne 51 71 rfl rfl rfl (fun c11 => ?_) (fun c11 => ?_)
                  · skip
                    refine p_aload 72 rfl rfl rfl ?_
                    refine p_getfr (j := 33) (z := 88) 75 rfl rfl rfl (tg_66 S) rfl (fi_66_33 S) ?_
                    refine p_const 77 rfl rfl ?_
                    refine p_iload 78 rfl rfl rfl ?_
                    refine p_imul (z := 26 * f) 79 rfl rfl (w32_id ⟨(by omega), (by omega)⟩) ?_
                    refine p_iload 80 rfl rfl rfl ?_
                    refine p_iadd (z := (26 * f) + g) 81 rfl rfl (w32_id ⟨(by omega), (by omega)⟩) ?_
                    refine p_iload 82 rfl rfl rfl ?_
                    refine p_iast (w := 676) 83 rfl rfl (by decide) (tg_88 S) (ln_88 S) (by omega) (by omega) ?_
                    refine p_nmh (fun y12 e12 => ?_)
                    have S12 : Shape y12 := by rw [e12]; exact S.svA fa_88 _ _
                    refine p_aload 84 rfl rfl rfl ?_
                    refine p_getfr (j := 33) (z := 88) 87 rfl rfl rfl (tg_66 S12) rfl (fi_66_33 S12) ?_
                    refine p_const 89 rfl rfl ?_
                    refine p_iload 90 rfl rfl rfl ?_
                    refine p_imul (z := 26 * g) 91 rfl rfl (w32_id ⟨(by omega), (by omega)⟩) ?_
                    refine p_iload 92 rfl rfl rfl ?_
                    refine p_iadd (z := (26 * g) + f) 93 rfl rfl (w32_id ⟨(by omega), (by omega)⟩) ?_
                    refine p_iload 94 rfl rfl rfl ?_
                    refine p_iast (w := 676) 95 rfl rfl (by decide) (tg_88 S12) (ln_88 S12) (by omega) (by omega) ?_
                    refine p_nmh (fun y13 e13 => ?_)
                    have S13 : Shape y13 := by rw [e13]; exact S12.svA fa_88 _ _
                    refine p_const 96 rfl rfl ?_
                    refine p_zret rfl rfl (by decide) ?_
                    -- leaf 9: answer [.inl 1] h=y13
                    first | exact K _ _ (Or.inl ⟨by unfold argL; omega, rfl, rfl⟩) S | exact K _ _ (Or.inr (Or.inl ⟨by unfold argL; omega, by omega, rfl, rfl⟩)) S | exact K _ _ (Or.inr (Or.inr ⟨by unfold argL; omega, by omega, rfl, by subst_vars; rfl⟩)) (by assumption)
                  · skip
                    refine p_aload 52 rfl rfl rfl ?_
                    refine p_iload 53 rfl rfl rfl ?_
                    refine p_callv (le := [some (.inr (.inr 66)), some (.inl f), none, none]) (as := [.inr (.inr 66), .inl f]) (rest := []) 56 0 0 0 0 rfl rfl (Nat.le_of_ble_eq_true rfl) rfl (Nat.le_of_ble_eq_true rfl) rfl rfl (Nat.le_of_ble_eq_true rfl) rfl (Nat.le_of_ble_eq_true rfl) rfl (Nat.le_refl _) (Nat.le_refl _) rfl rfl (tg_66 S) ?_
                    refine m_count S f (by omega) (by omega) ?_
                    show Wp (d + 5) 0 0 M_X12_like 56 [some (.inr (.inr 66)), some (.inl f), some (.inl g), some (.inl e)] [.inl (cntA h 88 f 26)] h _
                    refine p_const 57 rfl rfl ?_
                    refine p_ic_eq 60 69 rfl rfl rfl (fun c14 => ?_) (fun c14 => ?_)
                    · skip
                      refine p_const 70 rfl rfl ?_
                      refine p_zret rfl rfl (by decide) ?_
                      -- leaf 10: answer [.inl 0] h=h
                      first | exact K _ _ (Or.inl ⟨by unfold argL; omega, rfl, rfl⟩) S | exact K _ _ (Or.inr (Or.inl ⟨by unfold argL; omega, by omega, rfl, rfl⟩)) S | exact K _ _ (Or.inr (Or.inr ⟨by unfold argL; omega, by omega, rfl, by subst_vars; rfl⟩)) (by assumption)
                    · skip
                      refine p_aload 61 rfl rfl rfl ?_
                      refine p_iload 62 rfl rfl rfl ?_
                      refine p_callv (le := [some (.inr (.inr 66)), some (.inl g), none, none]) (as := [.inr (.inr 66), .inl g]) (rest := []) 65 0 0 0 0 rfl rfl (Nat.le_of_ble_eq_true rfl) rfl (Nat.le_of_ble_eq_true rfl) rfl rfl (Nat.le_of_ble_eq_true rfl) rfl (Nat.le_of_ble_eq_true rfl) rfl (Nat.le_refl _) (Nat.le_refl _) rfl rfl (tg_66 S) ?_
                      refine m_count S g (by omega) (by omega) ?_
                      show Wp (d + 5) 0 0 M_X12_like 65 [some (.inr (.inr 66)), some (.inl f), some (.inl g), some (.inl e)] [.inl (cntA h 88 g 26)] h _
                      refine p_const 66 rfl rfl ?_
                      refine p_ic_ne 69 71 rfl rfl rfl (fun c15 => ?_) (fun c15 => ?_)
                      · skip
                        refine p_aload 72 rfl rfl rfl ?_
                        refine p_getfr (j := 33) (z := 88) 75 rfl rfl rfl (tg_66 S) rfl (fi_66_33 S) ?_
                        refine p_const 77 rfl rfl ?_
                        refine p_iload 78 rfl rfl rfl ?_
                        refine p_imul (z := 26 * f) 79 rfl rfl (w32_id ⟨(by omega), (by omega)⟩) ?_
                        refine p_iload 80 rfl rfl rfl ?_
                        refine p_iadd (z := (26 * f) + g) 81 rfl rfl (w32_id ⟨(by omega), (by omega)⟩) ?_
                        refine p_iload 82 rfl rfl rfl ?_
                        refine p_iast (w := 676) 83 rfl rfl (by decide) (tg_88 S) (ln_88 S) (by omega) (by omega) ?_
                        refine p_nmh (fun y16 e16 => ?_)
                        have S16 : Shape y16 := by rw [e16]; exact S.svA fa_88 _ _
                        refine p_aload 84 rfl rfl rfl ?_
                        refine p_getfr (j := 33) (z := 88) 87 rfl rfl rfl (tg_66 S16) rfl (fi_66_33 S16) ?_
                        refine p_const 89 rfl rfl ?_
                        refine p_iload 90 rfl rfl rfl ?_
                        refine p_imul (z := 26 * g) 91 rfl rfl (w32_id ⟨(by omega), (by omega)⟩) ?_
                        refine p_iload 92 rfl rfl rfl ?_
                        refine p_iadd (z := (26 * g) + f) 93 rfl rfl (w32_id ⟨(by omega), (by omega)⟩) ?_
                        refine p_iload 94 rfl rfl rfl ?_
                        refine p_iast (w := 676) 95 rfl rfl (by decide) (tg_88 S16) (ln_88 S16) (by omega) (by omega) ?_
                        refine p_nmh (fun y17 e17 => ?_)
                        have S17 : Shape y17 := by rw [e17]; exact S16.svA fa_88 _ _
                        refine p_const 96 rfl rfl ?_
                        refine p_zret rfl rfl (by decide) ?_
                        -- leaf 11: answer [.inl 1] h=y17
                        first | exact K _ _ (Or.inl ⟨by unfold argL; omega, rfl, rfl⟩) S | exact K _ _ (Or.inr (Or.inl ⟨by unfold argL; omega, by omega, rfl, rfl⟩)) S | exact K _ _ (Or.inr (Or.inr ⟨by unfold argL; omega, by omega, rfl, by subst_vars; rfl⟩)) (by assumption)
                      · skip
                        refine p_const 70 rfl rfl ?_
                        refine p_zret rfl rfl (by decide) ?_
                        -- leaf 12: answer [.inl 0] h=h
                        first | exact K _ _ (Or.inl ⟨by unfold argL; omega, rfl, rfl⟩) S | exact K _ _ (Or.inr (Or.inl ⟨by unfold argL; omega, by omega, rfl, rfl⟩)) S | exact K _ _ (Or.inr (Or.inr ⟨by unfold argL; omega, by omega, rfl, by subst_vars; rfl⟩)) (by assumption)
/-- the weather before minute n, as the model's table tells it -/
def hz (h : PH) : Nat → Int
  | 0 => 0
  | n + 1 => if gv h 89 n = 0 then hz h n else gv h 90 n
theorem m_hazeAt_loop {d : Nat} {h : PH} {q : PQ} (S : Shape h) (t : Int) (n0 : Nat) (K : q (some (.inl (hz h n0))) h) :
    ∀ (n : Nat) (k : Int), k + 1 = n → k < 1000 → hz h n = hz h n0 → Wp (d + 1) 0 0 M_X12_hazeAt 2 [some (.inr (.inr 66)), some (.inl t), some (.inl k)] [] h q := by
  intro n
  induction n with
  | zero =>
    intro k hk hl he
    refine p_iload 3 rfl rfl rfl ?_
    refine p_if_lt_t 28 rfl rfl (by omega) ?_
    refine p_const 29 rfl rfl ?_
    refine p_iret rfl rfl ?_
    -- leaf 1: answer [.inl 0] h=h
    rw [← he] at K; exact K
  | succ n ih =>
    intro k hk hl he
    have kn : k = n := by omega
    refine p_iload 3 rfl rfl rfl ?_
    refine p_if_lt_f 6 rfl rfl (by omega) ?_
    refine p_aload 7 rfl rfl rfl ?_
    refine p_getfr (j := 34) (z := 89) 10 rfl rfl rfl (tg_66 S) rfl (fi_66_34 S) ?_
    refine p_iload 11 rfl rfl rfl ?_
    refine p_bald (w := 1000) (z := gv h 89 k) 12 rfl rfl (Or.inr (tg_89 S)) (ln_89 S) (by omega) (by omega) rfl ?_
    refine p_if_eq 15 22 rfl rfl rfl (fun c1 => ?_) (fun c1 => ?_)
    · skip
      refine p_iinc (y := k - 1) (ls' := [some (.inr (.inr 66)), some (.inl t), some (.inl (k - 1))]) 25 rfl rfl rfl (wsub_id ⟨(by omega), (by omega)⟩) rfl ?_
      refine p_goto 2 rfl rfl ?_
      -- leaf 1: loop 2 [some (.inr (.inr 66)), some (.inl t), some (.inl (k - 1))] st=[] h=h
      refine ih _ (by omega) (by omega) ?_
      rw [← he]; unfold hz; rw [if_pos (by rw [← kn]; exact c1)]; cases n <;> rfl
    · skip
      refine p_aload 16 rfl rfl rfl ?_
      refine p_getfr (j := 35) (z := 90) 19 rfl rfl rfl (tg_66 S) rfl (fi_66_35 S) ?_
      refine p_iload 20 rfl rfl rfl ?_
      refine p_iald (w := 1000) (z := gv h 90 k) 21 rfl rfl (tg_90 S) (ln_90 S) (by omega) (by omega) rfl ?_
      refine p_iret rfl rfl ?_
      -- leaf 2: answer [.inl (gv h 90 k)] h=h
      rw [← he] at K; unfold hz at K; rw [if_neg (by rw [← kn]; exact c1), ← kn] at K; exact K
theorem m_hazeAt {d : Nat} {h : PH} {q : PQ} (S : Shape h) (t : Int) (t0 : -1 ≤ t) (t1 : t < 1000) (K : q (some (.inl (hz h (t + 1).toNat))) h) :
    Wp (d + 1) 0 0 M_X12_hazeAt 0 [some (.inr (.inr 66)), some (.inl t), none] [] h q := by
  refine p_iload 1 rfl rfl rfl ?_
  refine p_istore (ls' := [some (.inr (.inr 66)), some (.inl t), some (.inl t)]) 2 rfl rfl (Nat.le_of_ble_eq_true rfl) rfl ?_
  -- leaf 1: loop 2 [some (.inr (.inr 66)), some (.inl t), some (.inl t)] st=[] h=h
  exact m_hazeAt_loop S t _ K (t + 1).toNat t (by omega) t1 rfl
abbrev HazeM (a b : Int) (h : PH) (r : Int) (h' : PH) : Prop := (¬ (0 ≤ a ∧ a < 1000 ∧ 0 ≤ b ∧ b ≤ 9) ∧ r = 0 ∧ h' = h) ∨ ((0 ≤ a ∧ a < 1000 ∧ 0 ≤ b ∧ b ≤ 9) ∧ r = 1 ∧ h' = sv (sv h 89 a 1) 90 a b)
theorem m_haze {d : Nat} {h : PH} {q : PQ} (S : Shape h) (a b : Int)
    (K : ∀ r h', HazeM a b h r h' → Shape h' → q (some (.inl r)) h') :
    Wp (d + 3) 0 0 M_X12_haze 0 [some (.inr (.inr 66)), some (.inl a), some (.inl b)] [] h q := by
  refine p_iload 1 rfl rfl rfl ?_
  refine p_calls (le := [some (.inl a)]) (as := [.inl a]) (rest := []) 4 0 0 0 0 rfl rfl (Nat.le_of_ble_eq_true rfl) rfl (Nat.le_of_ble_eq_true rfl) rfl rfl (Nat.le_of_ble_eq_true rfl) rfl (Nat.le_of_ble_eq_true rfl) rfl (Nat.le_refl _) (Nat.le_refl _) rfl rfl ?_
  refine p_iload 1 rfl rfl rfl ?_
  refine p_i2l 2 rfl rfl ?_
  refine p_lconst 3 rfl rfl ?_
  refine p_lconst 6 rfl rfl ?_
  refine p_calls (le := [some (.inr (.inl a)), none, some (.inr (.inl 0)), none, some (.inr (.inl 999)), none]) (as := [.inr (.inl a), .inr (.inl 0), .inr (.inl 999)]) (rest := []) 9 0 0 0 0 rfl rfl (Nat.le_of_ble_eq_true rfl) rfl (Nat.le_of_ble_eq_true rfl) rfl rfl (Nat.le_of_ble_eq_true rfl) rfl (Nat.le_of_ble_eq_true rfl) rfl (Nat.le_refl _) (Nat.le_refl _) rfl rfl ?_
  refine p_lload 1 rfl rfl rfl ?_
  refine p_lload 2 rfl rfl rfl ?_
  refine p_lc_lt 3 6 17 rfl rfl rfl rfl rfl (fun c1 => ?_) (fun c1 => ?_)
  · skip
    refine p_const 18 rfl rfl ?_
    refine p_zret rfl rfl (by decide) ?_
    show Wp (d + 2) 0 0 M_X12_isMinute 9 [some (.inl a)] [.inl 0] h _
    refine p_zret rfl rfl (by decide) ?_
    show Wp (d + 3) 0 0 M_X12_haze 4 [some (.inr (.inr 66)), some (.inl a), some (.inl b)] [.inl 0] h _
    refine p_if_eq_t 19 rfl rfl (by decide) ?_
    refine p_const 20 rfl rfl ?_
    refine p_zret rfl rfl (by decide) ?_
    -- leaf 1: answer [.inl 0] h=h
    first | exact K _ _ (Or.inl ⟨by omega, rfl, rfl⟩) S | exact K _ _ (Or.inr ⟨by omega, rfl, by subst_vars; rfl⟩) (by assumption)
  · skip
    refine p_lload 7 rfl rfl rfl ?_
    refine p_lload 9 rfl rfl rfl ?_
    refine p_lc_gt 10 13 17 rfl rfl rfl rfl rfl (fun c2 => ?_) (fun c2 => ?_)
    · skip
      refine p_const 18 rfl rfl ?_
      refine p_zret rfl rfl (by decide) ?_
      show Wp (d + 2) 0 0 M_X12_isMinute 9 [some (.inl a)] [.inl 0] h _
      refine p_zret rfl rfl (by decide) ?_
      show Wp (d + 3) 0 0 M_X12_haze 4 [some (.inr (.inr 66)), some (.inl a), some (.inl b)] [.inl 0] h _
      refine p_if_eq_t 19 rfl rfl (by decide) ?_
      refine p_const 20 rfl rfl ?_
      refine p_zret rfl rfl (by decide) ?_
      -- leaf 2: answer [.inl 0] h=h
      first | exact K _ _ (Or.inl ⟨by omega, rfl, rfl⟩) S | exact K _ _ (Or.inr ⟨by omega, rfl, by subst_vars; rfl⟩) (by assumption)
    · skip
      refine p_const 14 rfl rfl ?_
      refine p_goto 18 rfl rfl ?_
      refine p_zret rfl rfl (by decide) ?_
      show Wp (d + 2) 0 0 M_X12_isMinute 9 [some (.inl a)] [.inl 1] h _
      refine p_zret rfl rfl (by decide) ?_
      show Wp (d + 3) 0 0 M_X12_haze 4 [some (.inr (.inr 66)), some (.inl a), some (.inl b)] [.inl 1] h _
      refine p_if_eq_f 7 rfl rfl (by decide) ?_
      refine p_iload 8 rfl rfl rfl ?_
      refine p_i2l 9 rfl rfl ?_
      refine p_lconst 10 rfl rfl ?_
      refine p_lconst 13 rfl rfl ?_
      refine p_calls (le := [some (.inr (.inl b)), none, some (.inr (.inl 0)), none, some (.inr (.inl 9)), none]) (as := [.inr (.inl b), .inr (.inl 0), .inr (.inl 9)]) (rest := []) 16 0 0 0 0 rfl rfl (Nat.le_of_ble_eq_true rfl) rfl (Nat.le_of_ble_eq_true rfl) rfl rfl (Nat.le_of_ble_eq_true rfl) rfl (Nat.le_of_ble_eq_true rfl) rfl (Nat.le_refl _) (Nat.le_refl _) rfl rfl ?_
      refine p_lload 1 rfl rfl rfl ?_
      refine p_lload 2 rfl rfl rfl ?_
      refine p_lc_lt 3 6 17 rfl rfl rfl rfl rfl (fun c3 => ?_) (fun c3 => ?_)
      · skip
        refine p_const 18 rfl rfl ?_
        refine p_zret rfl rfl (by decide) ?_
        show Wp (d + 3) 0 0 M_X12_haze 16 [some (.inr (.inr 66)), some (.inl a), some (.inl b)] [.inl 0] h _
        refine p_if_ne_f 19 rfl rfl (by decide) ?_
        refine p_const 20 rfl rfl ?_
        refine p_zret rfl rfl (by decide) ?_
        -- leaf 3: answer [.inl 0] h=h
        first | exact K _ _ (Or.inl ⟨by omega, rfl, rfl⟩) S | exact K _ _ (Or.inr ⟨by omega, rfl, by subst_vars; rfl⟩) (by assumption)
      · skip
        refine p_lload 7 rfl rfl rfl ?_
        refine p_lload 9 rfl rfl rfl ?_
        refine p_lc_gt 10 13 17 rfl rfl rfl rfl rfl (fun c4 => ?_) (fun c4 => ?_)
        · skip
          refine p_const 18 rfl rfl ?_
          refine p_zret rfl rfl (by decide) ?_
          show Wp (d + 3) 0 0 M_X12_haze 16 [some (.inr (.inr 66)), some (.inl a), some (.inl b)] [.inl 0] h _
          refine p_if_ne_f 19 rfl rfl (by decide) ?_
          refine p_const 20 rfl rfl ?_
          refine p_zret rfl rfl (by decide) ?_
          -- leaf 4: answer [.inl 0] h=h
          first | exact K _ _ (Or.inl ⟨by omega, rfl, rfl⟩) S | exact K _ _ (Or.inr ⟨by omega, rfl, by subst_vars; rfl⟩) (by assumption)
        · skip
          refine p_const 14 rfl rfl ?_
          refine p_goto 18 rfl rfl ?_
          refine p_zret rfl rfl (by decide) ?_
          show Wp (d + 3) 0 0 M_X12_haze 16 [some (.inr (.inr 66)), some (.inl a), some (.inl b)] [.inl 1] h _
          refine p_if_ne_t 21 rfl rfl (by decide) ?_
          refine p_aload 22 rfl rfl rfl ?_
          refine p_getfr (j := 34) (z := 89) 25 rfl rfl rfl (tg_66 S) rfl (fi_66_34 S) ?_
          refine p_iload 26 rfl rfl rfl ?_
          refine p_const 27 rfl rfl ?_
          refine p_zast (w := 1000) 28 rfl rfl (by decide) (tg_89 S) (ln_89 S) (by omega) (by omega) (by decide) ?_
          refine p_nmh (fun y5 e5 => ?_)
          have S5 : Shape y5 := by rw [e5]; exact S.svA fa_89 _ _
          refine p_aload 29 rfl rfl rfl ?_
          refine p_getfr (j := 35) (z := 90) 32 rfl rfl rfl (tg_66 S5) rfl (fi_66_35 S5) ?_
          refine p_iload 33 rfl rfl rfl ?_
          refine p_iload 34 rfl rfl rfl ?_
          refine p_iast (w := 1000) 35 rfl rfl (by decide) (tg_90 S5) (ln_90 S5) (by omega) (by omega) ?_
          refine p_nmh (fun y6 e6 => ?_)
          have S6 : Shape y6 := by rw [e6]; exact S5.svA fa_90 _ _
          refine p_const 36 rfl rfl ?_
          refine p_zret rfl rfl (by decide) ?_
          -- leaf 5: answer [.inl 1] h=y6
          first | exact K _ _ (Or.inl ⟨by omega, rfl, rfl⟩) S | exact K _ _ (Or.inr ⟨by omega, rfl, by subst_vars; rfl⟩) (by assumption)
def hazA (a _i : Int) : Bool := a == 10
/-- the class's table of the weather after minute m was told n: up to the next told minute k -/
def Told (h h' : PH) (m n k : Int) : Prop := m < k ∧ k ≤ 1000 ∧ Keep hazA h h' ∧ (∀ j, j < m → gv h' 10 j = gv h 10 j) ∧ gv h' 10 m = 2 * n + 1 ∧ (∀ j, m < j → j < k → gv h 10 j % 2 = 0 ∧ gv h' 10 j = 2 * n) ∧ (∀ j, k ≤ j → gv h' 10 j = gv h 10 j)
theorem x_tell_loop {d : Nat} {h : PH} {q : PQ} (m n : Int) (m0 : 0 ≤ m) (n0 : 0 ≤ n) (n9 : n ≤ 9)
    (K : ∀ h' k, Told h h' m n k → (k < 1000 → gv h 10 k % 2 ≠ 0) → Shape h' → q none h') :
    ∀ (c : Nat) (k : Int) (h1 : PH), k + c = 1000 → Shape h1 → Told h h1 m n k → Wp (d + 1) 0 0 M_X8_tellHaze 15 [some (.inr (.inr 5)), some (.inl m), some (.inl n), some (.inl k)] [] h1 q := by
  intro c
  induction c with
  | zero =>
    intro k h1 hk S T
    refine p_iload 16 rfl rfl rfl ?_
    refine p_const 19 rfl rfl ?_
    refine p_ic_ge_t 48 rfl rfl (by omega) ?_
    refine p_ret rfl rfl ?_
    -- leaf 1: answer [] h=h1
    exact K h1 k T (by omega) S
  | succ c ih =>
    intro k h1 hk S T
    obtain ⟨t1, t2, t3, t4, t5, t6, t7⟩ := T
    have e0 := t7 k (Int.le_refl k)
    refine p_iload 16 rfl rfl rfl ?_
    refine p_const 19 rfl rfl ?_
    refine p_ic_ge_f 22 rfl rfl (by omega) ?_
    refine p_aload 23 rfl rfl rfl ?_
    refine p_getfr (j := 4) (z := 10) 26 rfl rfl rfl (tg_5 S) rfl (fi_5_4 S) ?_
    refine p_iload 27 rfl rfl rfl ?_
    refine p_iald (w := 1000) (z := gv h1 10 k) 28 rfl rfl (tg_10 S) (ln_10 S) (by omega) (by omega) rfl ?_
    refine p_const 29 rfl rfl ?_
    refine p_iand (z := (gv h1 10 k) % 2) 30 rfl rfl (mask32 1 rfl (by decide)) ?_
    refine p_if_ne 33 48 rfl rfl rfl (fun c1 => ?_) (fun c1 => ?_)
    · skip
      refine p_ret rfl rfl ?_
      -- leaf 1: answer [] h=h1
      exact K h1 k ⟨t1, t2, t3, t4, t5, t6, t7⟩ (fun _ => by rw [← e0]; exact c1) S
    · skip
      refine p_aload 34 rfl rfl rfl ?_
      refine p_getfr (j := 4) (z := 10) 37 rfl rfl rfl (tg_5 S) rfl (fi_5_4 S) ?_
      refine p_iload 38 rfl rfl rfl ?_
      refine p_const 39 rfl rfl ?_
      refine p_iload 40 rfl rfl rfl ?_
      refine p_imul (z := 2 * n) 41 rfl rfl (w32_id ⟨(by omega), (by omega)⟩) ?_
      refine p_iast (w := 1000) 42 rfl rfl (by decide) (tg_10 S) (ln_10 S) (by omega) (by omega) ?_
      refine p_nmh (fun y2 e2 => ?_)
      have S2 : Shape y2 := by rw [e2]; exact S.svA fa_10 _ _
      refine p_iinc (y := k + 1) (ls' := [some (.inr (.inr 5)), some (.inl m), some (.inl n), some (.inl (k + 1))]) 45 rfl rfl rfl (w32_id ⟨(by omega), (by omega)⟩) rfl ?_
      refine p_goto 15 rfl rfl ?_
      -- leaf 2: loop 15 [some (.inr (.inr 5)), some (.inl m), some (.inl n), some (.inl (k + 1))] st=[] h=y2
      refine ih (k + 1) _ (by omega) (by assumption) ⟨by omega, by omega, ?_, ?_, ?_, ?_, ?_⟩
      · rw [e2]; exact t3.sv rfl _
      · intro j hj; rw [e2, sv_nf (by omega)]; exact t4 j hj
      · rw [e2, sv_nf (by omega)]; exact t5
      · intro j j0 j1
        by_cases z : j = k
        · rw [z, e2, sv_eq]; exact ⟨by rw [← e0]; omega, rfl⟩
        · rw [e2, sv_nf z]; exact t6 j j0 (by omega)
      · intro j hj; rw [e2, sv_nf (by omega)]; exact t7 j (by omega)
theorem x_tell {d : Nat} {h : PH} {q : PQ} (S : Shape h) (m n : Int) (m0 : 0 ≤ m) (m1 : m < 1000) (n0 : 0 ≤ n) (n9 : n ≤ 9)
    (K : ∀ h', (∃ k, Told h h' m n k ∧ (k < 1000 → gv h 10 k % 2 ≠ 0)) → Shape h' → q none h') :
    Wp (d + 1) 0 0 M_X8_tellHaze 0 [some (.inr (.inr 5)), some (.inl m), some (.inl n), none] [] h q := by
  refine p_aload 1 rfl rfl rfl ?_
  refine p_getfr (j := 4) (z := 10) 4 rfl rfl rfl (tg_5 S) rfl (fi_5_4 S) ?_
  refine p_iload 5 rfl rfl rfl ?_
  refine p_const 6 rfl rfl ?_
  refine p_iload 7 rfl rfl rfl ?_
  refine p_imul (z := 2 * n) 8 rfl rfl (w32_id ⟨(by omega), (by omega)⟩) ?_
  refine p_const 9 rfl rfl ?_
  refine p_iadd (z := (2 * n) + 1) 10 rfl rfl (w32_id ⟨(by omega), (by omega)⟩) ?_
  refine p_iast (w := 1000) 11 rfl rfl (by decide) (tg_10 S) (ln_10 S) (by omega) (by omega) ?_
  refine p_nmh (fun y1 e1 => ?_)
  have S1 : Shape y1 := by rw [e1]; exact S.svA fa_10 _ _
  refine p_iload 12 rfl rfl rfl ?_
  refine p_const 13 rfl rfl ?_
  refine p_iadd (z := m + 1) 14 rfl rfl (w32_id ⟨(by omega), (by omega)⟩) ?_
  refine p_istore (ls' := [some (.inr (.inr 5)), some (.inl m), some (.inl n), some (.inl (m + 1))]) 15 rfl rfl (Nat.le_of_ble_eq_true rfl) rfl ?_
  -- leaf 1: loop 15 [some (.inr (.inr 5)), some (.inl m), some (.inl n), some (.inl (m + 1))] st=[] h=y1
  refine x_tell_loop (h := h) m n m0 n0 n9 (fun h' k T z S' => K h' ⟨k, T, z⟩ S') (999 - m).toNat (m + 1) _ (by omega) (by assumption) ⟨by omega, by omega, ?_, ?_, ?_, ?_, ?_⟩
  · rw [e1]; exact (Keep.rf hazA h).sv rfl _
  · intro j hj; rw [e1, sv_nf (by omega)]
  · rw [e1, sv_eq]
  · intro j j0 j1; omega
  · intro j hj; rw [e1, sv_nf (by omega)]
abbrev HazeX (a b : Int) (h : PH) (r : Int) (h' : PH) : Prop := (¬ (0 ≤ a ∧ a < 1000 ∧ 0 ≤ b ∧ b ≤ 9) ∧ r = 0 ∧ h' = h) ∨ ((0 ≤ a ∧ a < 1000 ∧ 0 ≤ b ∧ b ≤ 9) ∧ r = 1 ∧ ∃ k, Told h h' a b k ∧ (k < 1000 → gv h 10 k % 2 ≠ 0))
theorem x_haze {d : Nat} {h : PH} {q : PQ} (S : Shape h) (a b : Int)
    (K : ∀ r h', HazeX a b h r h' → Shape h' → q (some (.inl r)) h') :
    Wp (d + 3) 0 0 M_X11_haze 0 [some (.inr (.inr 2)), some (.inl a), some (.inl b)] [] h q := by
  refine p_iload 1 rfl rfl rfl ?_
  refine p_calls (le := [some (.inl a)]) (as := [.inl a]) (rest := []) 4 0 0 0 0 rfl rfl (Nat.le_of_ble_eq_true rfl) rfl (Nat.le_of_ble_eq_true rfl) rfl rfl (Nat.le_of_ble_eq_true rfl) rfl (Nat.le_of_ble_eq_true rfl) rfl (Nat.le_refl _) (Nat.le_refl _) rfl rfl ?_
  refine p_iload 1 rfl rfl rfl ?_
  refine p_if_lt 4 15 rfl rfl rfl (fun c1 => ?_) (fun c1 => ?_)
  · skip
    refine p_const 16 rfl rfl ?_
    refine p_zret rfl rfl (by decide) ?_
    show Wp (d + 3) 0 0 M_X11_haze 4 [some (.inr (.inr 2)), some (.inl a), some (.inl b)] [.inl 0] h _
    refine p_if_eq_t 17 rfl rfl (by decide) ?_
    refine p_const 18 rfl rfl ?_
    refine p_zret rfl rfl (by decide) ?_
    -- leaf 1: answer [.inl 0] h=h
    first | exact K _ _ (Or.inl ⟨by omega, rfl, rfl⟩) S | exact K _ _ (Or.inr ⟨by omega, rfl, by assumption⟩) (by assumption)
  · skip
    refine p_iload 5 rfl rfl rfl ?_
    refine p_const 8 rfl rfl ?_
    refine p_ic_ge 11 15 rfl rfl rfl (fun c2 => ?_) (fun c2 => ?_)
    · skip
      refine p_const 16 rfl rfl ?_
      refine p_zret rfl rfl (by decide) ?_
      show Wp (d + 3) 0 0 M_X11_haze 4 [some (.inr (.inr 2)), some (.inl a), some (.inl b)] [.inl 0] h _
      refine p_if_eq_t 17 rfl rfl (by decide) ?_
      refine p_const 18 rfl rfl ?_
      refine p_zret rfl rfl (by decide) ?_
      -- leaf 2: answer [.inl 0] h=h
      first | exact K _ _ (Or.inl ⟨by omega, rfl, rfl⟩) S | exact K _ _ (Or.inr ⟨by omega, rfl, by assumption⟩) (by assumption)
    · skip
      refine p_const 12 rfl rfl ?_
      refine p_goto 16 rfl rfl ?_
      refine p_zret rfl rfl (by decide) ?_
      show Wp (d + 3) 0 0 M_X11_haze 4 [some (.inr (.inr 2)), some (.inl a), some (.inl b)] [.inl 1] h _
      refine p_if_eq_f 7 rfl rfl (by decide) ?_
      refine p_iload 8 rfl rfl rfl ?_
      refine p_if_lt 11 17 rfl rfl rfl (fun c3 => ?_) (fun c3 => ?_)
      · skip
        refine p_const 18 rfl rfl ?_
        refine p_zret rfl rfl (by decide) ?_
        -- leaf 3: answer [.inl 0] h=h
        first | exact K _ _ (Or.inl ⟨by omega, rfl, rfl⟩) S | exact K _ _ (Or.inr ⟨by omega, rfl, by assumption⟩) (by assumption)
      · skip
        refine p_iload 12 rfl rfl rfl ?_
        refine p_const 14 rfl rfl ?_
        refine p_ic_le 17 19 rfl rfl rfl (fun c4 => ?_) (fun c4 => ?_)
        · skip
          refine p_aload 20 rfl rfl rfl ?_
          refine p_getfr (j := 1) (z := 5) 23 rfl rfl rfl (tg_2 S) rfl (fi_2_1 S) ?_
          refine p_iload 24 rfl rfl rfl ?_
          refine p_iload 25 rfl rfl rfl ?_
          refine p_callv (le := [some (.inr (.inr 5)), some (.inl a), some (.inl b), none]) (as := [.inr (.inr 5), .inl a, .inl b]) (rest := []) 28 0 0 0 0 rfl rfl (Nat.le_of_ble_eq_true rfl) rfl (Nat.le_of_ble_eq_true rfl) rfl rfl (Nat.le_of_ble_eq_true rfl) rfl (Nat.le_of_ble_eq_true rfl) rfl (Nat.le_refl _) (Nat.le_refl _) rfl rfl (tg_5 S) ?_
          refine x_tell S a b (by omega) (by omega) (by omega) (by omega) (fun y5 p5 S5 => ?_)
          show Wp (d + 3) 0 0 M_X11_haze 28 [some (.inr (.inr 2)), some (.inl a), some (.inl b)] [] y5 _
          refine p_const 29 rfl rfl ?_
          refine p_zret rfl rfl (by decide) ?_
          -- leaf 4: answer [.inl 1] h=y5
          first | exact K _ _ (Or.inl ⟨by omega, rfl, rfl⟩) S | exact K _ _ (Or.inr ⟨by omega, rfl, by assumption⟩) (by assumption)
        · skip
          refine p_const 18 rfl rfl ?_
          refine p_zret rfl rfl (by decide) ?_
          -- leaf 5: answer [.inl 0] h=h
          first | exact K _ _ (Or.inl ⟨by omega, rfl, rfl⟩) S | exact K _ _ (Or.inr ⟨by omega, rfl, by assumption⟩) (by assumption)
theorem x_dim {d : Nat} {h : PH} {q : PQ} (S : Shape h) (a b : Int) (B1 : ∀ s, 0 ≤ s → s < 9 → 0 ≤ gv h 8 s ∧ gv h 8 s ≤ 9) (B2 : ∀ t, 0 ≤ t → t < 1000 → 0 ≤ gv h 10 t ∧ gv h 10 t ≤ 19)
    (K : ∀ r, (¬ (0 ≤ a ∧ a < 9 ∧ 0 ≤ b ∧ b < 1000) ∧ r = -1) ∨ ((0 ≤ a ∧ a < 9 ∧ 0 ≤ b ∧ b < 1000) ∧ r = gv h 8 a + gv h 10 b / 2) → q (some (.inl r)) h) :
    Wp (d + 4) 0 0 M_X11_dim 0 [some (.inr (.inr 2)), some (.inl a), some (.inl b)] [] h q := by
  have b1 := B1 a
  have b2 := B2 b
  refine p_iload 1 rfl rfl rfl ?_
  refine p_calls (le := [some (.inl a)]) (as := [.inl a]) (rest := []) 4 0 0 0 0 rfl rfl (Nat.le_of_ble_eq_true rfl) rfl (Nat.le_of_ble_eq_true rfl) rfl rfl (Nat.le_of_ble_eq_true rfl) rfl (Nat.le_of_ble_eq_true rfl) rfl (Nat.le_refl _) (Nat.le_refl _) rfl rfl ?_
  refine p_iload 1 rfl rfl rfl ?_
  refine p_if_lt 4 14 rfl rfl rfl (fun c1 => ?_) (fun c1 => ?_)
  · skip
    refine p_const 15 rfl rfl ?_
    refine p_zret rfl rfl (by decide) ?_
    show Wp (d + 4) 0 0 M_X11_dim 4 [some (.inr (.inr 2)), some (.inl a), some (.inl b)] [.inl 0] h _
    refine p_if_eq_t 26 rfl rfl (by decide) ?_
    refine p_const 27 rfl rfl ?_
    refine p_iret rfl rfl ?_
    -- leaf 1: answer [.inl (-1)] h=h
    first | exact K _ (Or.inl ⟨by omega, rfl⟩) | exact K _ (Or.inr ⟨by omega, rfl⟩) | (exfalso; omega)
  · skip
    refine p_iload 5 rfl rfl rfl ?_
    refine p_const 7 rfl rfl ?_
    refine p_ic_ge 10 14 rfl rfl rfl (fun c2 => ?_) (fun c2 => ?_)
    · skip
      refine p_const 15 rfl rfl ?_
      refine p_zret rfl rfl (by decide) ?_
      show Wp (d + 4) 0 0 M_X11_dim 4 [some (.inr (.inr 2)), some (.inl a), some (.inl b)] [.inl 0] h _
      refine p_if_eq_t 26 rfl rfl (by decide) ?_
      refine p_const 27 rfl rfl ?_
      refine p_iret rfl rfl ?_
      -- leaf 2: answer [.inl (-1)] h=h
      first | exact K _ (Or.inl ⟨by omega, rfl⟩) | exact K _ (Or.inr ⟨by omega, rfl⟩) | (exfalso; omega)
    · skip
      refine p_const 11 rfl rfl ?_
      refine p_goto 15 rfl rfl ?_
      refine p_zret rfl rfl (by decide) ?_
      show Wp (d + 4) 0 0 M_X11_dim 4 [some (.inr (.inr 2)), some (.inl a), some (.inl b)] [.inl 1] h _
      refine p_if_eq_f 7 rfl rfl (by decide) ?_
      refine p_iload 8 rfl rfl rfl ?_
      refine p_calls (le := [some (.inl b)]) (as := [.inl b]) (rest := []) 11 0 0 0 0 rfl rfl (Nat.le_of_ble_eq_true rfl) rfl (Nat.le_of_ble_eq_true rfl) rfl rfl (Nat.le_of_ble_eq_true rfl) rfl (Nat.le_of_ble_eq_true rfl) rfl (Nat.le_refl _) (Nat.le_refl _) rfl rfl ?_
      refine p_iload 1 rfl rfl rfl ?_
      refine p_if_lt 4 15 rfl rfl rfl (fun c3 => ?_) (fun c3 => ?_)
      · skip
        refine p_const 16 rfl rfl ?_
        refine p_zret rfl rfl (by decide) ?_
        show Wp (d + 4) 0 0 M_X11_dim 11 [some (.inr (.inr 2)), some (.inl a), some (.inl b)] [.inl 0] h _
        refine p_if_eq_t 26 rfl rfl (by decide) ?_
        refine p_const 27 rfl rfl ?_
        refine p_iret rfl rfl ?_
        -- leaf 3: answer [.inl (-1)] h=h
        first | exact K _ (Or.inl ⟨by omega, rfl⟩) | exact K _ (Or.inr ⟨by omega, rfl⟩) | (exfalso; omega)
      · skip
        refine p_iload 5 rfl rfl rfl ?_
        refine p_const 8 rfl rfl ?_
        refine p_ic_ge 11 15 rfl rfl rfl (fun c4 => ?_) (fun c4 => ?_)
        · skip
          refine p_const 16 rfl rfl ?_
          refine p_zret rfl rfl (by decide) ?_
          show Wp (d + 4) 0 0 M_X11_dim 11 [some (.inr (.inr 2)), some (.inl a), some (.inl b)] [.inl 0] h _
          refine p_if_eq_t 26 rfl rfl (by decide) ?_
          refine p_const 27 rfl rfl ?_
          refine p_iret rfl rfl ?_
          -- leaf 4: answer [.inl (-1)] h=h
          first | exact K _ (Or.inl ⟨by omega, rfl⟩) | exact K _ (Or.inr ⟨by omega, rfl⟩) | (exfalso; omega)
        · skip
          refine p_const 12 rfl rfl ?_
          refine p_goto 16 rfl rfl ?_
          refine p_zret rfl rfl (by decide) ?_
          show Wp (d + 4) 0 0 M_X11_dim 11 [some (.inr (.inr 2)), some (.inl a), some (.inl b)] [.inl 1] h _
          refine p_if_eq_f 14 rfl rfl (by decide) ?_
          refine p_aload 15 rfl rfl rfl ?_
          refine p_getfr (j := 1) (z := 5) 18 rfl rfl rfl (tg_2 S) rfl (fi_2_1 S) ?_
          refine p_iload 19 rfl rfl rfl ?_
          refine p_iload 20 rfl rfl rfl ?_
          refine p_callv (le := [some (.inr (.inr 5)), some (.inl a), some (.inl b)]) (as := [.inr (.inr 5), .inl a, .inl b]) (rest := []) 23 0 0 0 0 rfl rfl (Nat.le_of_ble_eq_true rfl) rfl (Nat.le_of_ble_eq_true rfl) rfl rfl (Nat.le_of_ble_eq_true rfl) rfl (Nat.le_of_ble_eq_true rfl) rfl (Nat.le_refl _) (Nat.le_refl _) rfl rfl (tg_5 S) ?_
          refine p_aload 1 rfl rfl rfl ?_
          refine p_getfr (j := 2) (z := 8) 4 rfl rfl rfl (tg_5 S) rfl (fi_5_2 S) ?_
          refine p_iload 5 rfl rfl rfl ?_
          refine p_iald (w := 10) (z := gv h 8 a) 6 rfl rfl (tg_8 S) (ln_8 S) (by omega) (by omega) rfl ?_
          refine p_aload 7 rfl rfl rfl ?_
          refine p_iload 8 rfl rfl rfl ?_
          refine p_callv (le := [some (.inr (.inr 5)), some (.inl b)]) (as := [.inr (.inr 5), .inl b]) (rest := [.inl (gv h 8 a)]) 11 0 0 0 0 rfl rfl (Nat.le_of_ble_eq_true rfl) rfl (Nat.le_of_ble_eq_true rfl) rfl rfl (Nat.le_of_ble_eq_true rfl) rfl (Nat.le_of_ble_eq_true rfl) rfl (Nat.le_refl _) (Nat.le_refl _) rfl rfl (tg_5 S) ?_
          refine p_iload 1 rfl rfl rfl ?_
          refine p_if_lt 4 22 rfl rfl rfl (fun c5 => ?_) (fun c5 => ?_)
          · skip
            refine p_const 23 rfl rfl ?_
            refine p_iret rfl rfl ?_
            show Wp (d + 3) 0 0 M_X8_dimAt 11 [some (.inr (.inr 5)), some (.inl a), some (.inl b)] [.inl 0, .inl (gv h 8 a)] h _
            refine p_iadd (z := (gv h 8 a) + 0) 12 rfl rfl (w32_id ⟨(by omega), (by omega)⟩) ?_
            refine p_iret rfl rfl ?_
            show Wp (d + 4) 0 0 M_X11_dim 23 [some (.inr (.inr 2)), some (.inl a), some (.inl b)] [.inl ((gv h 8 a) + 0)] h _
            refine p_goto 27 rfl rfl ?_
            refine p_iret rfl rfl ?_
            -- leaf 5: answer [.inl ((gv h 8 a) + 0)] h=h
            first | exact K _ (Or.inl ⟨by omega, rfl⟩) | exact K _ (Or.inr ⟨by omega, rfl⟩) | (exfalso; omega)
          · skip
            refine p_iload 5 rfl rfl rfl ?_
            refine p_const 8 rfl rfl ?_
            refine p_ic_ge 11 22 rfl rfl rfl (fun c6 => ?_) (fun c6 => ?_)
            · skip
              refine p_const 23 rfl rfl ?_
              refine p_iret rfl rfl ?_
              show Wp (d + 3) 0 0 M_X8_dimAt 11 [some (.inr (.inr 5)), some (.inl a), some (.inl b)] [.inl 0, .inl (gv h 8 a)] h _
              refine p_iadd (z := (gv h 8 a) + 0) 12 rfl rfl (w32_id ⟨(by omega), (by omega)⟩) ?_
              refine p_iret rfl rfl ?_
              show Wp (d + 4) 0 0 M_X11_dim 23 [some (.inr (.inr 2)), some (.inl a), some (.inl b)] [.inl ((gv h 8 a) + 0)] h _
              refine p_goto 27 rfl rfl ?_
              refine p_iret rfl rfl ?_
              -- leaf 6: answer [.inl ((gv h 8 a) + 0)] h=h
              first | exact K _ (Or.inl ⟨by omega, rfl⟩) | exact K _ (Or.inr ⟨by omega, rfl⟩) | (exfalso; omega)
            · skip
              refine p_aload 12 rfl rfl rfl ?_
              refine p_getfr (j := 4) (z := 10) 15 rfl rfl rfl (tg_5 S) rfl (fi_5_4 S) ?_
              refine p_iload 16 rfl rfl rfl ?_
              refine p_iald (w := 1000) (z := gv h 10 b) 17 rfl rfl (tg_10 S) (ln_10 S) (by omega) (by omega) rfl ?_
              refine p_const 18 rfl rfl ?_
              refine p_ishr (z := (gv h 10 b) / 2) 19 rfl rfl (by decide) (by decide) rfl ?_
              refine p_goto 23 rfl rfl ?_
              refine p_iret rfl rfl ?_
              show Wp (d + 3) 0 0 M_X8_dimAt 11 [some (.inr (.inr 5)), some (.inl a), some (.inl b)] [.inl ((gv h 10 b) / 2), .inl (gv h 8 a)] h _
              refine p_iadd (z := (gv h 8 a) + ((gv h 10 b) / 2)) 12 rfl rfl (w32_id ⟨(by omega), (by omega)⟩) ?_
              refine p_iret rfl rfl ?_
              show Wp (d + 4) 0 0 M_X11_dim 23 [some (.inr (.inr 2)), some (.inl a), some (.inl b)] [.inl ((gv h 8 a) + ((gv h 10 b) / 2))] h _
              refine p_goto 27 rfl rfl ?_
              refine p_iret rfl rfl ?_
              -- leaf 7: answer [.inl ((gv h 8 a) + ((gv h 10 b) / 2))] h=h
              first | exact K _ (Or.inl ⟨by omega, rfl⟩) | exact K _ (Or.inr ⟨by omega, rfl⟩) | (exfalso; omega)
theorem m_dim {d : Nat} {h : PH} {q : PQ} (S : Shape h) (a b : Int) (B1 : ∀ s, 0 ≤ s → s < 9 → 0 ≤ gv h 91 s ∧ gv h 91 s ≤ 9) (B2 : ∀ t : Nat, t ≤ 1000 → 0 ≤ hz h t ∧ hz h t ≤ 9)
    (K : ∀ r, (¬ (0 ≤ a ∧ a < 9 ∧ 0 ≤ b ∧ b < 1000) ∧ r = -1) ∨ ((0 ≤ a ∧ a < 9 ∧ 0 ≤ b ∧ b < 1000) ∧ r = gv h 91 a + hz h (b + 1).toNat) → q (some (.inl r)) h) :
    Wp (d + 4) 0 0 M_X12_dim 0 [some (.inr (.inr 66)), some (.inl a), some (.inl b)] [] h q := by
  have b1 := B1 a
  have b2 := B2 (b + 1).toNat
  refine p_iload 1 rfl rfl rfl ?_
  refine p_i2l 2 rfl rfl ?_
  refine p_lconst 3 rfl rfl ?_
  refine p_lconst 6 rfl rfl ?_
  refine p_calls (le := [some (.inr (.inl a)), none, some (.inr (.inl 0)), none, some (.inr (.inl 8)), none]) (as := [.inr (.inl a), .inr (.inl 0), .inr (.inl 8)]) (rest := []) 9 0 0 0 0 rfl rfl (Nat.le_of_ble_eq_true rfl) rfl (Nat.le_of_ble_eq_true rfl) rfl rfl (Nat.le_of_ble_eq_true rfl) rfl (Nat.le_of_ble_eq_true rfl) rfl (Nat.le_refl _) (Nat.le_refl _) rfl rfl ?_
  refine p_lload 1 rfl rfl rfl ?_
  refine p_lload 2 rfl rfl rfl ?_
  refine p_lc_lt 3 6 17 rfl rfl rfl rfl rfl (fun c1 => ?_) (fun c1 => ?_)
  · skip
    refine p_const 18 rfl rfl ?_
    refine p_zret rfl rfl (by decide) ?_
    show Wp (d + 4) 0 0 M_X12_dim 9 [some (.inr (.inr 66)), some (.inl a), some (.inl b)] [.inl 0] h _
    refine p_if_eq_t 34 rfl rfl (by decide) ?_
    refine p_const 35 rfl rfl ?_
    refine p_iret rfl rfl ?_
    -- leaf 1: answer [.inl (-1)] h=h
    first | exact K _ (Or.inl ⟨by omega, rfl⟩) | exact K _ (Or.inr ⟨by omega, rfl⟩) | (exfalso; omega)
  · skip
    refine p_lload 7 rfl rfl rfl ?_
    refine p_lload 9 rfl rfl rfl ?_
    refine p_lc_gt 10 13 17 rfl rfl rfl rfl rfl (fun c2 => ?_) (fun c2 => ?_)
    · skip
      refine p_const 18 rfl rfl ?_
      refine p_zret rfl rfl (by decide) ?_
      show Wp (d + 4) 0 0 M_X12_dim 9 [some (.inr (.inr 66)), some (.inl a), some (.inl b)] [.inl 0] h _
      refine p_if_eq_t 34 rfl rfl (by decide) ?_
      refine p_const 35 rfl rfl ?_
      refine p_iret rfl rfl ?_
      -- leaf 2: answer [.inl (-1)] h=h
      first | exact K _ (Or.inl ⟨by omega, rfl⟩) | exact K _ (Or.inr ⟨by omega, rfl⟩) | (exfalso; omega)
    · skip
      refine p_const 14 rfl rfl ?_
      refine p_goto 18 rfl rfl ?_
      refine p_zret rfl rfl (by decide) ?_
      show Wp (d + 4) 0 0 M_X12_dim 9 [some (.inr (.inr 66)), some (.inl a), some (.inl b)] [.inl 1] h _
      refine p_if_eq_f 12 rfl rfl (by decide) ?_
      refine p_iload 13 rfl rfl rfl ?_
      refine p_calls (le := [some (.inl b)]) (as := [.inl b]) (rest := []) 16 0 0 0 0 rfl rfl (Nat.le_of_ble_eq_true rfl) rfl (Nat.le_of_ble_eq_true rfl) rfl rfl (Nat.le_of_ble_eq_true rfl) rfl (Nat.le_of_ble_eq_true rfl) rfl (Nat.le_refl _) (Nat.le_refl _) rfl rfl ?_
      refine p_iload 1 rfl rfl rfl ?_
      refine p_i2l 2 rfl rfl ?_
      refine p_lconst 3 rfl rfl ?_
      refine p_lconst 6 rfl rfl ?_
      refine p_calls (le := [some (.inr (.inl b)), none, some (.inr (.inl 0)), none, some (.inr (.inl 999)), none]) (as := [.inr (.inl b), .inr (.inl 0), .inr (.inl 999)]) (rest := []) 9 0 0 0 0 rfl rfl (Nat.le_of_ble_eq_true rfl) rfl (Nat.le_of_ble_eq_true rfl) rfl rfl (Nat.le_of_ble_eq_true rfl) rfl (Nat.le_of_ble_eq_true rfl) rfl (Nat.le_refl _) (Nat.le_refl _) rfl rfl ?_
      refine p_lload 1 rfl rfl rfl ?_
      refine p_lload 2 rfl rfl rfl ?_
      refine p_lc_lt 3 6 17 rfl rfl rfl rfl rfl (fun c3 => ?_) (fun c3 => ?_)
      · skip
        refine p_const 18 rfl rfl ?_
        refine p_zret rfl rfl (by decide) ?_
        show Wp (d + 3) 0 0 M_X12_isMinute 9 [some (.inl b)] [.inl 0] h _
        refine p_zret rfl rfl (by decide) ?_
        show Wp (d + 4) 0 0 M_X12_dim 16 [some (.inr (.inr 66)), some (.inl a), some (.inl b)] [.inl 0] h _
        refine p_if_eq_t 34 rfl rfl (by decide) ?_
        refine p_const 35 rfl rfl ?_
        refine p_iret rfl rfl ?_
        -- leaf 3: answer [.inl (-1)] h=h
        first | exact K _ (Or.inl ⟨by omega, rfl⟩) | exact K _ (Or.inr ⟨by omega, rfl⟩) | (exfalso; omega)
      · skip
        refine p_lload 7 rfl rfl rfl ?_
        refine p_lload 9 rfl rfl rfl ?_
        refine p_lc_gt 10 13 17 rfl rfl rfl rfl rfl (fun c4 => ?_) (fun c4 => ?_)
        · skip
          refine p_const 18 rfl rfl ?_
          refine p_zret rfl rfl (by decide) ?_
          show Wp (d + 3) 0 0 M_X12_isMinute 9 [some (.inl b)] [.inl 0] h _
          refine p_zret rfl rfl (by decide) ?_
          show Wp (d + 4) 0 0 M_X12_dim 16 [some (.inr (.inr 66)), some (.inl a), some (.inl b)] [.inl 0] h _
          refine p_if_eq_t 34 rfl rfl (by decide) ?_
          refine p_const 35 rfl rfl ?_
          refine p_iret rfl rfl ?_
          -- leaf 4: answer [.inl (-1)] h=h
          first | exact K _ (Or.inl ⟨by omega, rfl⟩) | exact K _ (Or.inr ⟨by omega, rfl⟩) | (exfalso; omega)
        · skip
          refine p_const 14 rfl rfl ?_
          refine p_goto 18 rfl rfl ?_
          refine p_zret rfl rfl (by decide) ?_
          show Wp (d + 3) 0 0 M_X12_isMinute 9 [some (.inl b)] [.inl 1] h _
          refine p_zret rfl rfl (by decide) ?_
          show Wp (d + 4) 0 0 M_X12_dim 16 [some (.inr (.inr 66)), some (.inl a), some (.inl b)] [.inl 1] h _
          refine p_if_eq_f 19 rfl rfl (by decide) ?_
          refine p_aload 20 rfl rfl rfl ?_
          refine p_getfr (j := 36) (z := 91) 23 rfl rfl rfl (tg_66 S) rfl (fi_66_36 S) ?_
          refine p_iload 24 rfl rfl rfl ?_
          refine p_iald (w := 9) (z := gv h 91 a) 25 rfl rfl (tg_91 S) (ln_91 S) (by omega) (by omega) rfl ?_
          refine p_aload 26 rfl rfl rfl ?_
          refine p_iload 27 rfl rfl rfl ?_
          refine p_callv (le := [some (.inr (.inr 66)), some (.inl b), none]) (as := [.inr (.inr 66), .inl b]) (rest := [.inl (gv h 91 a)]) 30 0 0 0 0 rfl rfl (Nat.le_of_ble_eq_true rfl) rfl (Nat.le_of_ble_eq_true rfl) rfl rfl (Nat.le_of_ble_eq_true rfl) rfl (Nat.le_of_ble_eq_true rfl) rfl (Nat.le_refl _) (Nat.le_refl _) rfl rfl (tg_66 S) ?_
          refine m_hazeAt S b (by omega) (by omega) ?_
          show Wp (d + 4) 0 0 M_X12_dim 30 [some (.inr (.inr 66)), some (.inl a), some (.inl b)] [.inl (hz h (b + 1).toNat), .inl (gv h 91 a)] h _
          refine p_iadd (z := (gv h 91 a) + (hz h (b + 1).toNat)) 31 rfl rfl (w32_id ⟨(by omega), (by omega)⟩) ?_
          refine p_goto 35 rfl rfl ?_
          refine p_iret rfl rfl ?_
          -- leaf 5: answer [.inl ((gv h 91 a) + (hz h (b + 1).toNat))] h=h
          first | exact K _ (Or.inl ⟨by omega, rfl⟩) | exact K _ (Or.inr ⟨by omega, rfl⟩) | (exfalso; omega)

