/-! ACTS, 2: flown, annul, as, all -/
def actA (a i : Int) : Bool := decide ((a = 18 ∧ (i = 5 ∨ i = 6)) ∨ (19 ≤ a ∧ a ≤ 23))
def mactA (a i : Int) : Bool := decide ((a = 66 ∧ (i = 38 ∨ i = 40 ∨ i = 46)) ∨ (92 ≤ a ∧ a ≤ 98))
def allA (a i : Int) : Bool := decide ((a = 18 ∧ (i = 5 ∨ i = 6)) ∨ (19 ≤ a ∧ a ≤ 23) ∨ (a = 66 ∧ (i = 38 ∨ i = 40 ∨ i = 46)) ∨ (92 ≤ a ∧ a ≤ 98))
theorem actA_all : ∀ a i, allA a i = false → actA a i = false := fun a i => dw (by omega)
theorem mactA_all : ∀ a i, allA a i = false → mactA a i = false := fun a i => dw (by omega)
theorem hoA_mactA : ∀ a i, mactA a i = false → hoA a i = false := fun a i z => hoA_f (fun y => of_decide_eq_false z (by omega))
abbrev argF (s t w lim : Int) : Prop := (0 ≤ s ∧ s < 10) ∧ (0 ≤ t ∧ t < 1000) ∧ isHo w ∧ lim < 200
abbrev FlownX (s t w : Int) (h : PH) (r : Int) (h' : PH) : Prop := (¬ argF s t w (gv h 18 5) ∧ r = -1 ∧ h' = h) ∨ (argF s t w (gv h 18 5) ∧ r = gv h 18 5 + 1 ∧ h' = sv (sv (sv (sv h 18 5 (gv h 18 5 + 1)) 21 (gv h 18 5 + 1) s) 22 (gv h 18 5 + 1) t) 20 (gv h 18 5 + 1) w)
theorem TellsR.ne {v r : Int} (T : TellsR v r) : r ≠ -1 ↔ isHo v := by
  have b := rl_in v
  rcases T with ⟨a, e⟩ | ⟨a, e⟩
  · have := lv_in v (rl v) (rl v).toNat (by omega)
    exact ⟨fun _ => a, fun _ => by omega⟩
  · exact ⟨fun z => absurd e z, fun z => absurd z a⟩
theorem x_flown {d : Nat} {h : PH} {q : PQ} (S : Shape h) (A : AI h) (s t w : Int) (K : ∀ r h', FlownX s t w h r h' → Shape h' → q (some (.inl r)) h') :
    Wp (d + 4) 0 0 M_X11_flown 0 [some (.inr (.inr 2)), some (.inl s), some (.inl t), some (.inl w)] [] h q := by
  obtain ⟨⟨a1, a2, a3, a4, a5, a6, a7⟩, a8, a9⟩ := A
  refine p_iload 1 rfl rfl rfl ?_
  refine p_calls (le := [some (.inl s)]) (as := [.inl s]) (rest := []) 4 0 0 0 0 rfl rfl (Nat.le_of_ble_eq_true rfl) rfl (Nat.le_of_ble_eq_true rfl) rfl rfl (Nat.le_of_ble_eq_true rfl) rfl (Nat.le_of_ble_eq_true rfl) rfl (Nat.le_refl _) (Nat.le_refl _) rfl rfl ?_
  refine x_isShip S s  (fun c1 => ?_) (fun c1 => ?_)
  · show Wp (d + 4) 0 0 M_X11_flown 4 [some (.inr (.inr 2)), some (.inl s), some (.inl t), some (.inl w)] [.inl 1] h _
    refine p_if_eq_f 7 rfl rfl (by decide) ?_
    refine p_iload 8 rfl rfl rfl ?_
    refine p_calls (le := [some (.inl t)]) (as := [.inl t]) (rest := []) 11 0 0 0 0 rfl rfl (Nat.le_of_ble_eq_true rfl) rfl (Nat.le_of_ble_eq_true rfl) rfl rfl (Nat.le_of_ble_eq_true rfl) rfl (Nat.le_of_ble_eq_true rfl) rfl (Nat.le_refl _) (Nat.le_refl _) rfl rfl ?_
    refine x_isMinute S t  (fun c2 => ?_) (fun c2 => ?_)
    · show Wp (d + 4) 0 0 M_X11_flown 11 [some (.inr (.inr 2)), some (.inl s), some (.inl t), some (.inl w)] [.inl 1] h _
      refine p_if_eq_f 14 rfl rfl (by decide) ?_
      refine p_iload 15 rfl rfl rfl ?_
      refine p_calls (le := [some (.inl w), none, none, none, none, none, none]) (as := [.inl w]) (rest := []) 18 0 0 0 0 rfl rfl (Nat.le_of_ble_eq_true rfl) rfl (Nat.le_of_ble_eq_true rfl) rfl rfl (Nat.le_of_ble_eq_true rfl) rfl (Nat.le_of_ble_eq_true rfl) rfl (Nat.le_refl _) (Nat.le_refl _) rfl rfl ?_
      refine x_told S w  (fun r3 p3 => ?_)
      show Wp (d + 4) 0 0 M_X11_flown 18 [some (.inr (.inr 2)), some (.inl s), some (.inl t), some (.inl w)] [.inl r3] h _
      refine p_const 19 rfl rfl ?_
      refine p_ic_eq 22 35 rfl rfl rfl (fun c4 => ?_) (fun c4 => ?_)
      · skip
        refine p_const 36 rfl rfl ?_
        refine p_iret rfl rfl ?_
        -- leaf 1: answer [.inl (-1)] h=h 
        exact K _ _ (Or.inl ⟨fun z => p3.ne.2 z.2.2.1 (by omega), rfl, rfl⟩) S
      · skip
        refine p_aload 23 rfl rfl rfl ?_
        refine p_getfr (j := 3) (z := 18) 26 rfl rfl rfl (tg_2 S) rfl (fi_2_3 S) ?_
        refine p_getfi (j := 5) (z := gv h 18 5) 29 rfl rfl rfl (tg_18 S) rfl rfl ?_
        refine p_const 32 rfl rfl ?_
        refine p_ic_lt 35 37 rfl rfl rfl (fun c5 => ?_) (fun c5 => ?_)
        · skip
          refine p_aload 38 rfl rfl rfl ?_
          refine p_getfr (j := 3) (z := 18) 41 rfl rfl rfl (tg_2 S) rfl (fi_2_3 S) ?_
          refine p_iload 42 rfl rfl rfl ?_
          refine p_iload 43 rfl rfl rfl ?_
          refine p_iload 44 rfl rfl rfl ?_
          refine p_callv (le := [some (.inr (.inr 18)), some (.inl s), some (.inl t), some (.inl w)]) (as := [.inr (.inr 18), .inl s, .inl t, .inl w]) (rest := []) 47 0 0 0 0 rfl rfl (Nat.le_of_ble_eq_true rfl) rfl (Nat.le_of_ble_eq_true rfl) rfl rfl (Nat.le_of_ble_eq_true rfl) rfl (Nat.le_of_ble_eq_true rfl) rfl (Nat.le_refl _) (Nat.le_refl _) rfl rfl (tg_18 S) ?_
          refine p_aload 1 rfl rfl rfl ?_
          refine p_getfi (j := 5) (z := gv h 18 5) 4 rfl rfl rfl (tg_18 S) rfl rfl ?_
          refine p_const 7 rfl rfl ?_
          refine p_ic_ge 10 50 rfl rfl rfl (fun c6 => ?_) (fun c6 => ?_)
          · skip
            refine p_aload 51 rfl rfl rfl ?_
            refine p_getfi (j := 5) (z := gv h 18 5) 54 rfl rfl rfl (tg_18 S) rfl rfl ?_
            refine p_iret rfl rfl ?_
            show Wp (d + 4) 0 0 M_X11_flown 47 [some (.inr (.inr 2)), some (.inl s), some (.inl t), some (.inl w)] [.inl (gv h 18 5)] h _
            refine p_iret rfl rfl ?_
            -- leaf 2: answer [.inl (gv h 18 5)] h=h 
            exfalso; omega
          · skip
            refine p_aload 11 rfl rfl rfl ?_
            refine p_dup 12 rfl rfl nl_r ?_
            refine p_getfi (j := 5) (z := gv h 18 5) 15 rfl rfl rfl (tg_18 S) rfl rfl ?_
            refine p_const 16 rfl rfl ?_
            refine p_iadd (z := (gv h 18 5) + 1) 17 rfl rfl (w32_id ⟨(by omega), (by omega)⟩) ?_
            refine p_putfi (j := 5) 20 rfl rfl rfl (fun z => absurd z (by decide)) (tg_18 S) rfl ?_
            refine p_nmh (fun y7 e7 => ?_)
            have S7 : Shape y7 := by rw [e7]; exact S.svF ff_18_5 _
            refine p_aload 21 rfl rfl rfl ?_
            refine p_getfr (j := 2) (z := 21) 24 rfl rfl rfl (tg_18 S7) rfl (fi_18_2 S7) ?_
            refine p_aload 25 rfl rfl rfl ?_
            refine p_getfi (j := 5) (z := (gv h 18 5) + 1) 28 rfl rfl rfl (tg_18 S7) rfl (by rw [e7]; exact sv_eq _ _ _ _) ?_
            refine p_iload 29 rfl rfl rfl ?_
            refine p_iast (w := 201) 30 rfl rfl (by decide) (tg_21 S7) (ln_21 S7) (by omega) (by omega) ?_
            refine p_nmh (fun y8 e8 => ?_)
            have S8 : Shape y8 := by rw [e8]; exact S7.svA fa_21 _ _
            refine p_aload 31 rfl rfl rfl ?_
            refine p_getfr (j := 3) (z := 22) 34 rfl rfl rfl (tg_18 S8) rfl (fi_18_3 S8) ?_
            refine p_aload 35 rfl rfl rfl ?_
            refine p_getfi (j := 5) (z := (gv h 18 5) + 1) 38 rfl rfl rfl (tg_18 S8) rfl (by rw [e8, sv_ne (by decide)]; rw [e7]; exact sv_eq _ _ _ _) ?_
            refine p_iload 39 rfl rfl rfl ?_
            refine p_iast (w := 201) 40 rfl rfl (by decide) (tg_22 S8) (ln_22 S8) (by omega) (by omega) ?_
            refine p_nmh (fun y9 e9 => ?_)
            have S9 : Shape y9 := by rw [e9]; exact S8.svA fa_22 _ _
            refine p_aload 41 rfl rfl rfl ?_
            refine p_getfr (j := 1) (z := 20) 44 rfl rfl rfl (tg_18 S9) rfl (fi_18_1 S9) ?_
            refine p_aload 45 rfl rfl rfl ?_
            refine p_getfi (j := 5) (z := (gv h 18 5) + 1) 48 rfl rfl rfl (tg_18 S9) rfl (by rw [e9, sv_ne (by decide)]; rw [e8, sv_ne (by decide)]; rw [e7]; exact sv_eq _ _ _ _) ?_
            refine p_iload 49 rfl rfl rfl ?_
            refine p_iast (w := 201) 50 rfl rfl (by decide) (tg_20 S9) (ln_20 S9) (by omega) (by omega) ?_
            refine p_nmh (fun y10 e10 => ?_)
            have S10 : Shape y10 := by rw [e10]; exact S9.svA fa_20 _ _
            refine p_aload 51 rfl rfl rfl ?_
            refine p_getfi (j := 5) (z := (gv h 18 5) + 1) 54 rfl rfl rfl (tg_18 S10) rfl (by rw [e10, sv_ne (by decide)]; rw [e9, sv_ne (by decide)]; rw [e8, sv_ne (by decide)]; rw [e7]; exact sv_eq _ _ _ _) ?_
            refine p_iret rfl rfl ?_
            show Wp (d + 4) 0 0 M_X11_flown 47 [some (.inr (.inr 2)), some (.inl s), some (.inl t), some (.inl w)] [.inl ((gv h 18 5) + 1)] y10 _
            refine p_iret rfl rfl ?_
            -- leaf 3: answer [.inl ((gv h 18 5) + 1)] h=y10 e10,e9,e8,e7
            exact K _ _ (Or.inr ⟨⟨c1, c2, p3.ne.1 (by omega), by omega⟩, rfl, by rw [e10, e9, e8, e7]⟩) (by assumption)
        · skip
          refine p_const 36 rfl rfl ?_
          refine p_iret rfl rfl ?_
          -- leaf 4: answer [.inl (-1)] h=h 
          exact K _ _ (Or.inl ⟨fun z => by have := z.2.2.2; omega, rfl, rfl⟩) S
    · show Wp (d + 4) 0 0 M_X11_flown 11 [some (.inr (.inr 2)), some (.inl s), some (.inl t), some (.inl w)] [.inl 0] h _
      refine p_if_eq_t 35 rfl rfl (by decide) ?_
      refine p_const 36 rfl rfl ?_
      refine p_iret rfl rfl ?_
      -- leaf 5: answer [.inl (-1)] h=h 
      exact K _ _ (Or.inl ⟨fun z => c2 z.2.1, rfl, rfl⟩) S
  · show Wp (d + 4) 0 0 M_X11_flown 4 [some (.inr (.inr 2)), some (.inl s), some (.inl t), some (.inl w)] [.inl 0] h _
    refine p_if_eq_t 35 rfl rfl (by decide) ?_
    refine p_const 36 rfl rfl ?_
    refine p_iret rfl rfl ?_
    -- leaf 6: answer [.inl (-1)] h=h 
    exact K _ _ (Or.inl ⟨fun z => c1 z.1, rfl, rfl⟩) S
abbrev FlownM (s t w : Int) (h : PH) (r : Int) (h' : PH) : Prop := ∃ h1, Keep hoA h h1 ∧ ((¬ argF s t w (gv h 66 40) ∧ r = -1 ∧ h' = h1) ∨ (argF s t w (gv h 66 40) ∧ r = gv h 66 40 + 1 ∧
  h' = sv (sv (sv (sv (sv (sv h1 66 40 (gv h 66 40 + 1)) 94 (gv h 66 40 + 1) 2) 95 (gv h 66 40 + 1) s) 96 (gv h 66 40 + 1) t) 97 (gv h 66 40 + 1) w) 98 (gv h 66 40 + 1) 0))
theorem m_flown {d : Nat} {h : PH} {q : PQ} (S : Shape h) (A : 0 ≤ gv h 66 40 ∧ gv h 66 40 ≤ 200) (s t w : Int) (K : ∀ r h', FlownM s t w h r h' → Shape h' → q (some (.inl r)) h') :
    Wp (d + 4) 0 0 M_X12_flown 0 [some (.inr (.inr 66)), some (.inl s), some (.inl t), some (.inl w)] [] h q := by
  refine p_iload 1 rfl rfl rfl ?_
  refine p_calls (le := [some (.inl s)]) (as := [.inl s]) (rest := []) 4 0 0 0 0 rfl rfl (Nat.le_of_ble_eq_true rfl) rfl (Nat.le_of_ble_eq_true rfl) rfl rfl (Nat.le_of_ble_eq_true rfl) rfl (Nat.le_of_ble_eq_true rfl) rfl (Nat.le_refl _) (Nat.le_refl _) rfl rfl ?_
  refine m_isShip S s  (fun c1 => ?_) (fun c1 => ?_)
  · show Wp (d + 4) 0 0 M_X12_flown 4 [some (.inr (.inr 66)), some (.inl s), some (.inl t), some (.inl w)] [.inl 1] h _
    refine p_if_eq_f 7 rfl rfl (by decide) ?_
    refine p_iload 8 rfl rfl rfl ?_
    refine p_calls (le := [some (.inl t)]) (as := [.inl t]) (rest := []) 11 0 0 0 0 rfl rfl (Nat.le_of_ble_eq_true rfl) rfl (Nat.le_of_ble_eq_true rfl) rfl rfl (Nat.le_of_ble_eq_true rfl) rfl (Nat.le_of_ble_eq_true rfl) rfl (Nat.le_refl _) (Nat.le_refl _) rfl rfl ?_
    refine m_isMinute S t  (fun c2 => ?_) (fun c2 => ?_)
    · show Wp (d + 4) 0 0 M_X12_flown 11 [some (.inr (.inr 66)), some (.inl s), some (.inl t), some (.inl w)] [.inl 1] h _
      refine p_if_eq_f 14 rfl rfl (by decide) ?_
      refine p_aload 15 rfl rfl rfl ?_
      refine p_iload 16 rfl rfl rfl ?_
      refine p_callv (le := [some (.inr (.inr 66)), some (.inl w), none, none]) (as := [.inr (.inr 66), .inl w]) (rest := []) 19 0 0 0 0 rfl rfl (Nat.le_of_ble_eq_true rfl) rfl (Nat.le_of_ble_eq_true rfl) rfl rfl (Nat.le_of_ble_eq_true rfl) rfl (Nat.le_of_ble_eq_true rfl) rfl (Nat.le_refl _) (Nat.le_refl _) rfl rfl (tg_66 S) ?_
      refine m_isHo S w  (fun r3 y3 p3 S3 => ?_)
      have kp3 : Keep mactA h y3 := (p3.1.wide hoA_mactA)
      show Wp (d + 4) 0 0 M_X12_flown 19 [some (.inr (.inr 66)), some (.inl s), some (.inl t), some (.inl w)] [.inl r3] y3 _
      have z3 : gv y3 66 40 = gv h 66 40 := p3.1.1 66 40 rfl
      refine p_if_eq 22 43 rfl rfl rfl (fun c4 => ?_) (fun c4 => ?_)
      · skip
        refine p_const 44 rfl rfl ?_
        refine p_iret rfl rfl ?_
        -- leaf 1: answer [.inl (-1)] h=y3  kp3
        exact K _ _ ⟨_, p3.1, Or.inl ⟨fun z => p3.no c4 z.2.2.1, rfl, rfl⟩⟩ S3
      · skip
        refine p_aload 23 rfl rfl rfl ?_
        refine p_getfi (j := 40) (z := gv y3 66 40) 26 rfl rfl rfl (tg_66 S3) rfl rfl ?_
        refine p_const 29 rfl rfl ?_
        refine p_ic_ge 32 43 rfl rfl rfl (fun c5 => ?_) (fun c5 => ?_)
        · skip
          refine p_const 44 rfl rfl ?_
          refine p_iret rfl rfl ?_
          -- leaf 2: answer [.inl (-1)] h=y3  kp3
          exact K _ _ ⟨_, p3.1, Or.inl ⟨fun z => by have := z.2.2.2; omega, rfl, rfl⟩⟩ S3
        · skip
          refine p_aload 33 rfl rfl rfl ?_
          refine p_const 34 rfl rfl ?_
          refine p_iload 35 rfl rfl rfl ?_
          refine p_iload 36 rfl rfl rfl ?_
          refine p_iload 37 rfl rfl rfl ?_
          refine p_callv (le := [some (.inr (.inr 66)), some (.inl 2), some (.inl s), some (.inl t), some (.inl w)]) (as := [.inr (.inr 66), .inl 2, .inl s, .inl t, .inl w]) (rest := []) 40 0 0 0 0 rfl rfl (Nat.le_of_ble_eq_true rfl) rfl (Nat.le_of_ble_eq_true rfl) rfl rfl (Nat.le_of_ble_eq_true rfl) rfl (Nat.le_of_ble_eq_true rfl) rfl (Nat.le_refl _) (Nat.le_refl _) rfl rfl (tg_66 S3) ?_
          refine p_aload 1 rfl rfl rfl ?_
          refine p_dup 2 rfl rfl nl_r ?_
          refine p_getfi (j := 40) (z := gv y3 66 40) 5 rfl rfl rfl (tg_66 S3) rfl rfl ?_
          refine p_const 6 rfl rfl ?_
          refine p_iadd (z := (gv y3 66 40) + 1) 7 rfl rfl (w32_id ⟨(by omega), (by omega)⟩) ?_
          refine p_putfi (j := 40) 10 rfl rfl rfl (fun z => absurd z (by decide)) (tg_66 S3) rfl ?_
          refine p_nmh (fun y6 e6 => ?_)
          have S6 : Shape y6 := by rw [e6]; exact S3.svF ff_66_40 _
          have kp6 : Keep mactA h y6 := by rw [e6]; exact kp3.sv rfl _
          refine p_aload 11 rfl rfl rfl ?_
          refine p_getfr (j := 41) (z := 94) 14 rfl rfl rfl (tg_66 S6) rfl (fi_66_41 S6) ?_
          refine p_aload 15 rfl rfl rfl ?_
          refine p_getfi (j := 40) (z := (gv y3 66 40) + 1) 18 rfl rfl rfl (tg_66 S6) rfl (by rw [e6]; exact sv_eq _ _ _ _) ?_
          refine p_iload 19 rfl rfl rfl ?_
          refine p_iast (w := 201) 20 rfl rfl (by decide) (tg_94 S6) (ln_94 S6) (by omega) (by omega) ?_
          refine p_nmh (fun y7 e7 => ?_)
          have S7 : Shape y7 := by rw [e7]; exact S6.svA fa_94 _ _
          have kp7 : Keep mactA h y7 := by rw [e7]; exact kp6.sv rfl _
          refine p_aload 21 rfl rfl rfl ?_
          refine p_getfr (j := 42) (z := 95) 24 rfl rfl rfl (tg_66 S7) rfl (fi_66_42 S7) ?_
          refine p_aload 25 rfl rfl rfl ?_
          refine p_getfi (j := 40) (z := (gv y3 66 40) + 1) 28 rfl rfl rfl (tg_66 S7) rfl (by rw [e7, sv_ne (by decide)]; rw [e6]; exact sv_eq _ _ _ _) ?_
          refine p_iload 29 rfl rfl rfl ?_
          refine p_iast (w := 201) 30 rfl rfl (by decide) (tg_95 S7) (ln_95 S7) (by omega) (by omega) ?_
          refine p_nmh (fun y8 e8 => ?_)
          have S8 : Shape y8 := by rw [e8]; exact S7.svA fa_95 _ _
          have kp8 : Keep mactA h y8 := by rw [e8]; exact kp7.sv rfl _
          refine p_aload 31 rfl rfl rfl ?_
          refine p_getfr (j := 43) (z := 96) 34 rfl rfl rfl (tg_66 S8) rfl (fi_66_43 S8) ?_
          refine p_aload 35 rfl rfl rfl ?_
          refine p_getfi (j := 40) (z := (gv y3 66 40) + 1) 38 rfl rfl rfl (tg_66 S8) rfl (by rw [e8, sv_ne (by decide)]; rw [e7, sv_ne (by decide)]; rw [e6]; exact sv_eq _ _ _ _) ?_
          refine p_iload 39 rfl rfl rfl ?_
          refine p_iast (w := 201) 40 rfl rfl (by decide) (tg_96 S8) (ln_96 S8) (by omega) (by omega) ?_
          refine p_nmh (fun y9 e9 => ?_)
          have S9 : Shape y9 := by rw [e9]; exact S8.svA fa_96 _ _
          have kp9 : Keep mactA h y9 := by rw [e9]; exact kp8.sv rfl _
          refine p_aload 41 rfl rfl rfl ?_
          refine p_getfr (j := 44) (z := 97) 44 rfl rfl rfl (tg_66 S9) rfl (fi_66_44 S9) ?_
          refine p_aload 45 rfl rfl rfl ?_
          refine p_getfi (j := 40) (z := (gv y3 66 40) + 1) 48 rfl rfl rfl (tg_66 S9) rfl (by rw [e9, sv_ne (by decide)]; rw [e8, sv_ne (by decide)]; rw [e7, sv_ne (by decide)]; rw [e6]; exact sv_eq _ _ _ _) ?_
          refine p_iload 50 rfl rfl rfl ?_
          refine p_iast (w := 201) 51 rfl rfl (by decide) (tg_97 S9) (ln_97 S9) (by omega) (by omega) ?_
          refine p_nmh (fun y10 e10 => ?_)
          have S10 : Shape y10 := by rw [e10]; exact S9.svA fa_97 _ _
          have kp10 : Keep mactA h y10 := by rw [e10]; exact kp9.sv rfl _
          refine p_aload 52 rfl rfl rfl ?_
          refine p_getfr (j := 45) (z := 98) 55 rfl rfl rfl (tg_66 S10) rfl (fi_66_45 S10) ?_
          refine p_aload 56 rfl rfl rfl ?_
          refine p_getfi (j := 40) (z := (gv y3 66 40) + 1) 59 rfl rfl rfl (tg_66 S10) rfl (by rw [e10, sv_ne (by decide)]; rw [e9, sv_ne (by decide)]; rw [e8, sv_ne (by decide)]; rw [e7, sv_ne (by decide)]; rw [e6]; exact sv_eq _ _ _ _) ?_
          refine p_const 60 rfl rfl ?_
          refine p_iast (w := 201) 61 rfl rfl (by decide) (tg_98 S10) (ln_98 S10) (by omega) (by omega) ?_
          refine p_nmh (fun y11 e11 => ?_)
          have S11 : Shape y11 := by rw [e11]; exact S10.svA fa_98 _ _
          have kp11 : Keep mactA h y11 := by rw [e11]; exact kp10.sv rfl _
          refine p_aload 62 rfl rfl rfl ?_
          refine p_getfi (j := 40) (z := (gv y3 66 40) + 1) 65 rfl rfl rfl (tg_66 S11) rfl (by rw [e11, sv_ne (by decide)]; rw [e10, sv_ne (by decide)]; rw [e9, sv_ne (by decide)]; rw [e8, sv_ne (by decide)]; rw [e7, sv_ne (by decide)]; rw [e6]; exact sv_eq _ _ _ _) ?_
          refine p_iret rfl rfl ?_
          show Wp (d + 4) 0 0 M_X12_flown 40 [some (.inr (.inr 66)), some (.inl s), some (.inl t), some (.inl w)] [.inl ((gv y3 66 40) + 1)] y11 _
          refine p_goto 44 rfl rfl ?_
          refine p_iret rfl rfl ?_
          -- leaf 3: answer [.inl ((gv y3 66 40) + 1)] h=y11 e11,e10,e9,e8,e7,e6 kp11
          exact K _ _ ⟨_, p3.1, Or.inr ⟨⟨c1, c2, (p3.yes c4).1, by omega⟩, by omega, by rw [e11, e10, e9, e8, e7, e6, z3]⟩⟩ (by assumption)
    · show Wp (d + 4) 0 0 M_X12_flown 11 [some (.inr (.inr 66)), some (.inl s), some (.inl t), some (.inl w)] [.inl 0] h _
      refine p_if_eq_t 43 rfl rfl (by decide) ?_
      refine p_const 44 rfl rfl ?_
      refine p_iret rfl rfl ?_
      -- leaf 4: answer [.inl (-1)] h=h 
      exact K _ _ ⟨_, Keep.rf hoA h, Or.inl ⟨fun z => c2 z.2.1, rfl, rfl⟩⟩ S
  · show Wp (d + 4) 0 0 M_X12_flown 4 [some (.inr (.inr 66)), some (.inl s), some (.inl t), some (.inl w)] [.inl 0] h _
    refine p_if_eq_t 43 rfl rfl (by decide) ?_
    refine p_const 44 rfl rfl ?_
    refine p_iret rfl rfl ?_
    -- leaf 5: answer [.inl (-1)] h=h 
    exact K _ _ ⟨_, Keep.rf hoA h, Or.inl ⟨fun z => c1 z.1, rfl, rfl⟩⟩ S
theorem isHo.pos {v : Int} (g : isHo v) : 0 < v := (rl_pos g.1).1
/-- a change of the one act c, with the books as they were -/
theorem AR.other {h h' : PH} {k : Int} (R : AR h k) (e : ∀ a, (19 ≤ a ∧ a ≤ 23) ∨ (94 ≤ a ∧ a ≤ 98) → gv h' a k = gv h a k) (eb : ∀ a i, (79 ≤ a ∧ a ≤ 84) ∨ 128 ≤ a → gv h' a i = gv h a i) (e2 : nx h' = nx h ∧ (∀ a, tg h' a = tg h a) ∧ ∀ a, ln h' a = ln h a) : AR h' k := by
  obtain ⟨r1, r2, r3, r4⟩ := R
  unfold AR
  rw [e 98 (by omega), e 23 (by omega), e 94 (by omega), e 20 (by omega), e 19 (by omega), e 97 (by omega), e 95 (by omega), e 96 (by omega), e 21 (by omega), e 22 (by omega)]
  refine ⟨r1, r2, r3, ?_⟩
  rcases r4 with ⟨a, b, c⟩ | r | r
  · refine Or.inl ⟨a, b, BkR.of c eb e2⟩
  · exact Or.inr (Or.inl r)
  · exact Or.inr (Or.inr r)
theorem flown_same {h h1 h2 : PH} {s t w r r' : Int} (A : AI h) (x : FlownX s t w h r h1) (m : FlownM s t w h1 r' h2) : r = r' ∧ AI h2 ∧ Keep allA h h2 := by
  obtain ⟨h3, k3, m⟩ := m
  have A0 := A
  obtain ⟨⟨a1, a2, a3, a4, a5, a6, a7⟩, a8, a9⟩ := A
  rcases x with ⟨x1, x2, x3⟩ | ⟨x1, x2, x3⟩
  · subst x3
    rw [a3] at m
    rcases m with ⟨m1, m2, m3⟩ | ⟨m1, m2, m3⟩
    · subst m3; exact ⟨by omega, A0.kp (k3.wide hoA_bkB), k3.wide (fun a i z => hoA_mactA a i (mactA_all a i z))⟩
    · exact absurd m1 x1
  · have K1 : Keep actA h h1 := by rw [x3]; exact ((((Keep.rf actA h).sv rfl _).sv rfl _).sv rfl _).sv rfl _
    have e40 : gv h1 66 40 = gv h 18 5 := (K1.1 66 40 rfl).trans a3
    rw [e40] at m
    rcases m with ⟨m1, m2, m3⟩ | ⟨m1, m2, m3⟩
    · exact absurd x1 m1
    · have K2 : Keep mactA h1 h2 := by rw [m3]; exact ((((((k3.wide hoA_mactA).sv rfl _).sv rfl _).sv rfl _).sv rfl _).sv rfl _).sv rfl _
      have K3 : Keep allA h h2 := (K1.wide actA_all).trans (K2.wide mactA_all)
      have eo : ∀ a i, actA a i = false → mactA a i = false → gv h2 a i = gv h a i := fun a i z1 z2 => (K2.1 a i z2).trans (K1.1 a i z1)
      have ex : ∀ a i, actA a i = true → mactA a i = false → gv h2 a i = gv h1 a i := fun a i z1 z2 => K2.1 a i z2
      have e5 : gv h2 18 5 = gv h 18 5 + 1 := by rw [ex 18 5 rfl rfl, x3, sv_ne (by decide), sv_ne (by decide), sv_ne (by decide), sv_eq]
      obtain ⟨y1, y2, y3, y4⟩ := x1
      have F : ∀ k, k ≠ gv h 18 5 + 1 → ∀ a, (19 ≤ a ∧ a ≤ 23) ∨ (94 ≤ a ∧ a ≤ 98) → gv h2 a k = gv h a k := by
        intro k hk a ha
        have b1 : ∀ b i, b ≠ 18 → i ≠ gv h 18 5 + 1 → gv h1 b i = gv h b i := fun b i q1 q2 => by rw [x3, sv_nf q2, sv_nf q2, sv_nf q2, sv_ne q1]
        have b2 : ∀ b i, b ≠ 66 → i ≠ gv h 18 5 + 1 → gv h2 b i = gv h3 b i := fun b i q1 q2 => by rw [m3, sv_nf q2, sv_nf q2, sv_nf q2, sv_nf q2, sv_nf q2, sv_ne q1]
        rw [b2 a k (by omega) hk, k3.1 a k (hoA_f (by omega)), b1 a k (by omega) hk]
      have G : ∀ a i, (79 ≤ a ∧ a ≤ 84) ∨ 128 ≤ a → gv h2 a i = gv h a i := by
        intro a i ha
        exact eo a i (decide_eq_false (by omega)) (decide_eq_false (by omega))
      have q6 : gv h2 18 6 = gv h 18 6 := by rw [K2.1 18 6 rfl, x3, sv_ne (by decide), sv_ne (by decide), sv_ne (by decide), sv_nf (by decide)]
      have q46 : gv h2 66 46 = gv h 66 46 := by rw [m3, sv_ne (by decide), sv_ne (by decide), sv_ne (by decide), sv_ne (by decide), sv_ne (by decide), sv_nf (by decide), k3.1 66 46 rfl, K1.1 66 46 rfl]
      refine ⟨by omega, ⟨⟨by omega, by omega, ?_, ?_, ?_, ?_, ?_⟩, ?_, ?_⟩, K3⟩
      · rw [e5, m3, sv_ne (by decide), sv_ne (by decide), sv_ne (by decide), sv_ne (by decide), sv_ne (by decide), sv_eq]
      · rw [q46, q6]; exact a4
      · rw [q6]; exact a5
      · rw [q6]; omega
      · rw [F 0 (by omega) 19 (by omega)]; exact a7
      · intro k k0 k1
        by_cases z : k = gv h 18 5 + 1
        · have n3 : ∀ a, mactA a k = false → gv h2 a k = gv h1 a k := fun a => K2.1 a k
          have f98 : gv h2 98 k = 0 := by rw [m3, z, sv_eq]
          have z9 := a9 k (by omega) (by omega)
          have f23 : gv h2 23 k = 0 := by rw [n3 23 rfl, x3, sv_ne (by decide), sv_ne (by decide), sv_ne (by decide), sv_ne (by decide)]; exact z9.2.2
          have f19 : gv h2 19 k = 0 := by rw [n3 19 rfl, x3, sv_ne (by decide), sv_ne (by decide), sv_ne (by decide), sv_ne (by decide)]; exact z9.1
          have f20 : gv h2 20 k = w := by rw [n3 20 rfl, x3, z, sv_eq]
          have f22 : gv h2 22 k = t := by rw [n3 22 rfl, x3, z, sv_ne (by decide), sv_eq]
          have f21 : gv h2 21 k = s := by rw [n3 21 rfl, x3, z, sv_ne (by decide), sv_ne (by decide), sv_eq]
          have f97 : gv h2 97 k = w := by rw [m3, z, sv_ne (by decide), sv_eq]
          have f96 : gv h2 96 k = t := by rw [m3, z, sv_ne (by decide), sv_ne (by decide), sv_eq]
          have f95 : gv h2 95 k = s := by rw [m3, z, sv_ne (by decide), sv_ne (by decide), sv_ne (by decide), sv_eq]
          have f94 : gv h2 94 k = 2 := by rw [m3, z, sv_ne (by decide), sv_ne (by decide), sv_ne (by decide), sv_ne (by decide), sv_eq]
          unfold AR
          rw [f98, f23, f19, f20, f21, f22, f94, f95, f96, f97]
          exact ⟨rfl, by omega, by omega, Or.inr (Or.inl ⟨rfl, rfl, y3, rfl, rfl, rfl, y1, y2⟩)⟩
        · exact (a8 k k0 (by omega)).other (F k z) G ⟨K3.2.1, K3.2.2⟩
      · intro k k0 k1
        rw [F k (by omega) 19 (by omega), F k (by omega) 20 (by omega), F k (by omega) 23 (by omega)]
        exact a9 k (by omega) k1
abbrev argV (h : PH) (k : Int) : Prop := 1 ≤ k ∧ k ≤ gv h 18 5 ∧ gv h 98 k = 0 ∧ gv h 94 k ≠ 3 ∧ gv h 18 5 < 200
abbrev AnnulX (k : Int) (h : PH) (r : Int) (h' : PH) : Prop := (¬ argV h k ∧ r = -1 ∧ h' = h) ∨ (argV h k ∧ r = gv h 18 5 + 1 ∧ h' = sv (sv h 18 5 (gv h 18 5 + 1)) 23 k (gv h 18 5 + 1))
theorem AI.cases {h : PH} (A : AI h) {k : Int} (k0 : 1 ≤ k) (k1 : k ≤ gv h 18 5) : gv h 98 k = gv h 23 k ∧ 0 ≤ gv h 23 k ∧ gv h 23 k ≤ 200 ∧ ((gv h 94 k = 1 ∧ gv h 19 k ≠ 0 ∧ gv h 20 k = 0) ∨ (gv h 94 k = 2 ∧ gv h 19 k = 0 ∧ 0 < gv h 20 k ∧ isHo (gv h 20 k)) ∨ (gv h 94 k = 3 ∧ gv h 19 k = 0 ∧ gv h 20 k = 0)) := by
  obtain ⟨r1, r2, r3, r4⟩ := A.2.1 k k0 k1
  refine ⟨r1, r2, r3, ?_⟩
  rcases r4 with ⟨x, y, z⟩ | x | x
  · refine Or.inl ⟨x, ?_, y⟩
    obtain ⟨_, _, _, _, _, w2, _⟩ := z
    have := w2.ge
    omega
  · exact Or.inr (Or.inl ⟨x.1, x.2.1, x.2.2.1.pos, x.2.2.1⟩)
  · exact Or.inr (Or.inr x)
theorem x_annul {d : Nat} {h : PH} {q : PQ} (S : Shape h) (A : AI h) (k : Int) (K : ∀ r h', AnnulX k h r h' → Shape h' → q (some (.inl r)) h') :
    Wp (d + 2) 0 0 M_X11_annul 0 [some (.inr (.inr 2)), some (.inl k)] [] h q := by
  have A0 := A
  obtain ⟨⟨a1, a2, a3, a4, a5, a6, a7⟩, a8, a9⟩ := A
  have cs : 1 ≤ k → k ≤ gv h 18 5 → _ := fun k0 k1 => A0.cases k0 k1
  refine p_aload 1 rfl rfl rfl ?_
  refine p_getfr (j := 3) (z := 18) 4 rfl rfl rfl (tg_2 S) rfl (fi_2_3 S) ?_
  refine p_iload 5 rfl rfl rfl ?_
  refine p_callv (le := [some (.inr (.inr 18)), some (.inl k)]) (as := [.inr (.inr 18), .inl k]) (rest := []) 8 0 0 0 0 rfl rfl (Nat.le_of_ble_eq_true rfl) rfl (Nat.le_of_ble_eq_true rfl) rfl rfl (Nat.le_of_ble_eq_true rfl) rfl (Nat.le_of_ble_eq_true rfl) rfl (Nat.le_refl _) (Nat.le_refl _) rfl rfl (tg_18 S) ?_
  refine p_iload 1 rfl rfl rfl ?_
  refine p_const 2 rfl rfl ?_
  refine p_ic_lt 5 44 rfl rfl rfl (fun c1 => ?_) (fun c1 => ?_)
  · skip
    refine p_const 45 rfl rfl ?_
    refine p_zret rfl rfl (by decide) ?_
    show Wp (d + 2) 0 0 M_X11_annul 8 [some (.inr (.inr 2)), some (.inl k)] [.inl 0] h _
    refine p_if_eq_t 24 rfl rfl (by decide) ?_
    refine p_const 25 rfl rfl ?_
    refine p_iret rfl rfl ?_
    -- leaf 1: answer [.inl (-1)] h=h 
    first | exact K _ _ (Or.inl ⟨by first | omega | (have := cs (by omega) (by omega); omega), rfl, rfl⟩) S | exact K _ _ (Or.inr ⟨by have := cs (by omega) (by omega); omega, rfl, by subst_vars; rfl⟩) (by assumption) | (exfalso; omega)
  · skip
    refine p_iload 6 rfl rfl rfl ?_
    refine p_aload 7 rfl rfl rfl ?_
    refine p_getfi (j := 5) (z := gv h 18 5) 10 rfl rfl rfl (tg_18 S) rfl rfl ?_
    refine p_ic_gt 13 44 rfl rfl rfl (fun c2 => ?_) (fun c2 => ?_)
    · skip
      refine p_const 45 rfl rfl ?_
      refine p_zret rfl rfl (by decide) ?_
      show Wp (d + 2) 0 0 M_X11_annul 8 [some (.inr (.inr 2)), some (.inl k)] [.inl 0] h _
      refine p_if_eq_t 24 rfl rfl (by decide) ?_
      refine p_const 25 rfl rfl ?_
      refine p_iret rfl rfl ?_
      -- leaf 2: answer [.inl (-1)] h=h 
      first | exact K _ _ (Or.inl ⟨by first | omega | (have := cs (by omega) (by omega); omega), rfl, rfl⟩) S | exact K _ _ (Or.inr ⟨by have := cs (by omega) (by omega); omega, rfl, by subst_vars; rfl⟩) (by assumption) | (exfalso; omega)
    · skip
      refine p_aload 14 rfl rfl rfl ?_
      refine p_getfr (j := 4) (z := 23) 17 rfl rfl rfl (tg_18 S) rfl (fi_18_4 S) ?_
      refine p_iload 18 rfl rfl rfl ?_
      refine p_iald (w := 201) (z := gv h 23 k) 19 rfl rfl (tg_23 S) (ln_23 S) (by omega) (by omega) rfl ?_
      refine p_if_ne 22 44 rfl rfl rfl (fun c3 => ?_) (fun c3 => ?_)
      · skip
        refine p_const 45 rfl rfl ?_
        refine p_zret rfl rfl (by decide) ?_
        show Wp (d + 2) 0 0 M_X11_annul 8 [some (.inr (.inr 2)), some (.inl k)] [.inl 0] h _
        refine p_if_eq_t 24 rfl rfl (by decide) ?_
        refine p_const 25 rfl rfl ?_
        refine p_iret rfl rfl ?_
        -- leaf 3: answer [.inl (-1)] h=h 
        first | exact K _ _ (Or.inl ⟨by first | omega | (have := cs (by omega) (by omega); omega), rfl, rfl⟩) S | exact K _ _ (Or.inr ⟨by have := cs (by omega) (by omega); omega, rfl, by subst_vars; rfl⟩) (by assumption) | (exfalso; omega)
      · skip
        refine p_aload 23 rfl rfl rfl ?_
        refine p_getfr (j := 0) (z := 19) 26 rfl rfl rfl (tg_18 S) rfl (fi_18_0 S) ?_
        refine p_iload 27 rfl rfl rfl ?_
        refine p_aald (w := 201) (z := gv h 19 k) 28 rfl rfl (Or.inl (tg_19 S)) (ln_19 S) (by omega) (by omega) rfl ?_
        refine p_ifnonnull 31 40 rfl rfl rfl (fun c4 => ?_) (fun c4 => ?_)
        · skip
          refine p_const 41 rfl rfl ?_
          refine p_goto 45 rfl rfl ?_
          refine p_zret rfl rfl (by decide) ?_
          show Wp (d + 2) 0 0 M_X11_annul 8 [some (.inr (.inr 2)), some (.inl k)] [.inl 1] h _
          refine p_if_eq_f 11 rfl rfl (by decide) ?_
          refine p_aload 12 rfl rfl rfl ?_
          refine p_getfr (j := 3) (z := 18) 15 rfl rfl rfl (tg_2 S) rfl (fi_2_3 S) ?_
          refine p_getfi (j := 5) (z := gv h 18 5) 18 rfl rfl rfl (tg_18 S) rfl rfl ?_
          refine p_const 21 rfl rfl ?_
          refine p_ic_lt 24 26 rfl rfl rfl (fun c5 => ?_) (fun c5 => ?_)
          · skip
            refine p_aload 27 rfl rfl rfl ?_
            refine p_getfr (j := 3) (z := 18) 30 rfl rfl rfl (tg_2 S) rfl (fi_2_3 S) ?_
            refine p_iload 31 rfl rfl rfl ?_
            refine p_callv (le := [some (.inr (.inr 18)), some (.inl k)]) (as := [.inr (.inr 18), .inl k]) (rest := []) 34 0 0 0 0 rfl rfl (Nat.le_of_ble_eq_true rfl) rfl (Nat.le_of_ble_eq_true rfl) rfl rfl (Nat.le_of_ble_eq_true rfl) rfl (Nat.le_of_ble_eq_true rfl) rfl (Nat.le_refl _) (Nat.le_refl _) rfl rfl (tg_18 S) ?_
            refine p_aload 1 rfl rfl rfl ?_
            refine p_getfi (j := 5) (z := gv h 18 5) 4 rfl rfl rfl (tg_18 S) rfl rfl ?_
            refine p_const 7 rfl rfl ?_
            refine p_ic_ge 10 30 rfl rfl rfl (fun c6 => ?_) (fun c6 => ?_)
            · skip
              refine p_aload 31 rfl rfl rfl ?_
              refine p_getfi (j := 5) (z := gv h 18 5) 34 rfl rfl rfl (tg_18 S) rfl rfl ?_
              refine p_iret rfl rfl ?_
              show Wp (d + 2) 0 0 M_X11_annul 34 [some (.inr (.inr 2)), some (.inl k)] [.inl (gv h 18 5)] h _
              refine p_iret rfl rfl ?_
              -- leaf 4: answer [.inl (gv h 18 5)] h=h 
              first | exact K _ _ (Or.inl ⟨by first | omega | (have := cs (by omega) (by omega); omega), rfl, rfl⟩) S | exact K _ _ (Or.inr ⟨by have := cs (by omega) (by omega); omega, rfl, by subst_vars; rfl⟩) (by assumption) | (exfalso; omega)
            · skip
              refine p_aload 11 rfl rfl rfl ?_
              refine p_dup 12 rfl rfl nl_r ?_
              refine p_getfi (j := 5) (z := gv h 18 5) 15 rfl rfl rfl (tg_18 S) rfl rfl ?_
              refine p_const 16 rfl rfl ?_
              refine p_iadd (z := (gv h 18 5) + 1) 17 rfl rfl (w32_id ⟨(by omega), (by omega)⟩) ?_
              refine p_putfi (j := 5) 20 rfl rfl rfl (fun z => absurd z (by decide)) (tg_18 S) rfl ?_
              refine p_nmh (fun y7 e7 => ?_)
              have S7 : Shape y7 := by rw [e7]; exact S.svF ff_18_5 _
              refine p_aload 21 rfl rfl rfl ?_
              refine p_getfr (j := 4) (z := 23) 24 rfl rfl rfl (tg_18 S7) rfl (fi_18_4 S7) ?_
              refine p_iload 25 rfl rfl rfl ?_
              refine p_aload 26 rfl rfl rfl ?_
              refine p_getfi (j := 5) (z := (gv h 18 5) + 1) 29 rfl rfl rfl (tg_18 S7) rfl (by rw [e7]; exact sv_eq _ _ _ _) ?_
              refine p_iast (w := 201) 30 rfl rfl (by decide) (tg_23 S7) (ln_23 S7) (by omega) (by omega) ?_
              refine p_nmh (fun y8 e8 => ?_)
              have S8 : Shape y8 := by rw [e8]; exact S7.svA fa_23 _ _
              refine p_aload 31 rfl rfl rfl ?_
              refine p_getfi (j := 5) (z := (gv h 18 5) + 1) 34 rfl rfl rfl (tg_18 S8) rfl (by rw [e8, sv_ne (by decide)]; rw [e7]; exact sv_eq _ _ _ _) ?_
              refine p_iret rfl rfl ?_
              show Wp (d + 2) 0 0 M_X11_annul 34 [some (.inr (.inr 2)), some (.inl k)] [.inl ((gv h 18 5) + 1)] y8 _
              refine p_iret rfl rfl ?_
              -- leaf 5: answer [.inl ((gv h 18 5) + 1)] h=y8 e8,e7
              first | exact K _ _ (Or.inl ⟨by first | omega | (have := cs (by omega) (by omega); omega), rfl, rfl⟩) S | exact K _ _ (Or.inr ⟨by have := cs (by omega) (by omega); omega, rfl, by subst_vars; rfl⟩) (by assumption) | (exfalso; omega)
          · skip
            refine p_const 25 rfl rfl ?_
            refine p_iret rfl rfl ?_
            -- leaf 6: answer [.inl (-1)] h=h 
            first | exact K _ _ (Or.inl ⟨by first | omega | (have := cs (by omega) (by omega); omega), rfl, rfl⟩) S | exact K _ _ (Or.inr ⟨by have := cs (by omega) (by omega); omega, rfl, by subst_vars; rfl⟩) (by assumption) | (exfalso; omega)
        · skip
          refine p_aload 32 rfl rfl rfl ?_
          refine p_getfr (j := 1) (z := 20) 35 rfl rfl rfl (tg_18 S) rfl (fi_18_1 S) ?_
          refine p_iload 36 rfl rfl rfl ?_
          refine p_iald (w := 201) (z := gv h 20 k) 37 rfl rfl (tg_20 S) (ln_20 S) (by omega) (by omega) rfl ?_
          refine p_if_eq 40 44 rfl rfl rfl (fun c9 => ?_) (fun c9 => ?_)
          · skip
            refine p_const 45 rfl rfl ?_
            refine p_zret rfl rfl (by decide) ?_
            show Wp (d + 2) 0 0 M_X11_annul 8 [some (.inr (.inr 2)), some (.inl k)] [.inl 0] h _
            refine p_if_eq_t 24 rfl rfl (by decide) ?_
            refine p_const 25 rfl rfl ?_
            refine p_iret rfl rfl ?_
            -- leaf 7: answer [.inl (-1)] h=h 
            first | exact K _ _ (Or.inl ⟨by first | omega | (have := cs (by omega) (by omega); omega), rfl, rfl⟩) S | exact K _ _ (Or.inr ⟨by have := cs (by omega) (by omega); omega, rfl, by subst_vars; rfl⟩) (by assumption) | (exfalso; omega)
          · skip
            refine p_const 41 rfl rfl ?_
            refine p_goto 45 rfl rfl ?_
            refine p_zret rfl rfl (by decide) ?_
            show Wp (d + 2) 0 0 M_X11_annul 8 [some (.inr (.inr 2)), some (.inl k)] [.inl 1] h _
            refine p_if_eq_f 11 rfl rfl (by decide) ?_
            refine p_aload 12 rfl rfl rfl ?_
            refine p_getfr (j := 3) (z := 18) 15 rfl rfl rfl (tg_2 S) rfl (fi_2_3 S) ?_
            refine p_getfi (j := 5) (z := gv h 18 5) 18 rfl rfl rfl (tg_18 S) rfl rfl ?_
            refine p_const 21 rfl rfl ?_
            refine p_ic_lt 24 26 rfl rfl rfl (fun c10 => ?_) (fun c10 => ?_)
            · skip
              refine p_aload 27 rfl rfl rfl ?_
              refine p_getfr (j := 3) (z := 18) 30 rfl rfl rfl (tg_2 S) rfl (fi_2_3 S) ?_
              refine p_iload 31 rfl rfl rfl ?_
              refine p_callv (le := [some (.inr (.inr 18)), some (.inl k)]) (as := [.inr (.inr 18), .inl k]) (rest := []) 34 0 0 0 0 rfl rfl (Nat.le_of_ble_eq_true rfl) rfl (Nat.le_of_ble_eq_true rfl) rfl rfl (Nat.le_of_ble_eq_true rfl) rfl (Nat.le_of_ble_eq_true rfl) rfl (Nat.le_refl _) (Nat.le_refl _) rfl rfl (tg_18 S) ?_
              refine p_aload 1 rfl rfl rfl ?_
              refine p_getfi (j := 5) (z := gv h 18 5) 4 rfl rfl rfl (tg_18 S) rfl rfl ?_
              refine p_const 7 rfl rfl ?_
              refine p_ic_ge 10 30 rfl rfl rfl (fun c11 => ?_) (fun c11 => ?_)
              · skip
                refine p_aload 31 rfl rfl rfl ?_
                refine p_getfi (j := 5) (z := gv h 18 5) 34 rfl rfl rfl (tg_18 S) rfl rfl ?_
                refine p_iret rfl rfl ?_
                show Wp (d + 2) 0 0 M_X11_annul 34 [some (.inr (.inr 2)), some (.inl k)] [.inl (gv h 18 5)] h _
                refine p_iret rfl rfl ?_
                -- leaf 8: answer [.inl (gv h 18 5)] h=h 
                first | exact K _ _ (Or.inl ⟨by first | omega | (have := cs (by omega) (by omega); omega), rfl, rfl⟩) S | exact K _ _ (Or.inr ⟨by have := cs (by omega) (by omega); omega, rfl, by subst_vars; rfl⟩) (by assumption) | (exfalso; omega)
              · skip
                refine p_aload 11 rfl rfl rfl ?_
                refine p_dup 12 rfl rfl nl_r ?_
                refine p_getfi (j := 5) (z := gv h 18 5) 15 rfl rfl rfl (tg_18 S) rfl rfl ?_
                refine p_const 16 rfl rfl ?_
                refine p_iadd (z := (gv h 18 5) + 1) 17 rfl rfl (w32_id ⟨(by omega), (by omega)⟩) ?_
                refine p_putfi (j := 5) 20 rfl rfl rfl (fun z => absurd z (by decide)) (tg_18 S) rfl ?_
                refine p_nmh (fun y12 e12 => ?_)
                have S12 : Shape y12 := by rw [e12]; exact S.svF ff_18_5 _
                refine p_aload 21 rfl rfl rfl ?_
                refine p_getfr (j := 4) (z := 23) 24 rfl rfl rfl (tg_18 S12) rfl (fi_18_4 S12) ?_
                refine p_iload 25 rfl rfl rfl ?_
                refine p_aload 26 rfl rfl rfl ?_
                refine p_getfi (j := 5) (z := (gv h 18 5) + 1) 29 rfl rfl rfl (tg_18 S12) rfl (by rw [e12]; exact sv_eq _ _ _ _) ?_
                refine p_iast (w := 201) 30 rfl rfl (by decide) (tg_23 S12) (ln_23 S12) (by omega) (by omega) ?_
                refine p_nmh (fun y13 e13 => ?_)
                have S13 : Shape y13 := by rw [e13]; exact S12.svA fa_23 _ _
                refine p_aload 31 rfl rfl rfl ?_
                refine p_getfi (j := 5) (z := (gv h 18 5) + 1) 34 rfl rfl rfl (tg_18 S13) rfl (by rw [e13, sv_ne (by decide)]; rw [e12]; exact sv_eq _ _ _ _) ?_
                refine p_iret rfl rfl ?_
                show Wp (d + 2) 0 0 M_X11_annul 34 [some (.inr (.inr 2)), some (.inl k)] [.inl ((gv h 18 5) + 1)] y13 _
                refine p_iret rfl rfl ?_
                -- leaf 9: answer [.inl ((gv h 18 5) + 1)] h=y13 e13,e12
                first | exact K _ _ (Or.inl ⟨by first | omega | (have := cs (by omega) (by omega); omega), rfl, rfl⟩) S | exact K _ _ (Or.inr ⟨by have := cs (by omega) (by omega); omega, rfl, by subst_vars; rfl⟩) (by assumption) | (exfalso; omega)
            · skip
              refine p_const 25 rfl rfl ?_
              refine p_iret rfl rfl ?_
              -- leaf 10: answer [.inl (-1)] h=h 
              first | exact K _ _ (Or.inl ⟨by first | omega | (have := cs (by omega) (by omega); omega), rfl, rfl⟩) S | exact K _ _ (Or.inr ⟨by have := cs (by omega) (by omega); omega, rfl, by subst_vars; rfl⟩) (by assumption) | (exfalso; omega)
abbrev AnnulM (k : Int) (h : PH) (r : Int) (h' : PH) : Prop := (¬ (1 ≤ k ∧ k ≤ gv h 66 40 ∧ gv h 98 k = 0 ∧ gv h 94 k ≠ 3 ∧ gv h 66 40 ≠ 200) ∧ r = -1 ∧ h' = h) ∨ ((1 ≤ k ∧ k ≤ gv h 66 40 ∧ gv h 98 k = 0 ∧ gv h 94 k ≠ 3 ∧ gv h 66 40 ≠ 200) ∧ r = gv h 66 40 + 1 ∧
  h' = sv (sv (sv (sv (sv (sv (sv h 98 k (gv h 66 40 + 1)) 66 40 (gv h 66 40 + 1)) 94 (gv h 66 40 + 1) 3) 95 (gv h 66 40 + 1) 0) 96 (gv h 66 40 + 1) 0) 97 (gv h 66 40 + 1) k) 98 (gv h 66 40 + 1) 0)
theorem m_annul {d : Nat} {h : PH} {q : PQ} (S : Shape h) (A : 0 ≤ gv h 66 40 ∧ gv h 66 40 ≤ 200) (k : Int) (K : ∀ r h', AnnulM k h r h' → Shape h' → q (some (.inl r)) h') :
    Wp (d + 2) 0 0 M_X12_annul 0 [some (.inr (.inr 66)), some (.inl k)] [] h q := by
  refine p_iload 1 rfl rfl rfl ?_
  refine p_i2l 2 rfl rfl ?_
  refine p_lconst 3 rfl rfl ?_
  refine p_aload 4 rfl rfl rfl ?_
  refine p_getfi (j := 40) (z := gv h 66 40) 7 rfl rfl rfl (tg_66 S) rfl rfl ?_
  refine p_i2l 8 rfl rfl ?_
  refine p_calls (le := [some (.inr (.inl k)), none, some (.inr (.inl 1)), none, some (.inr (.inl (gv h 66 40))), none]) (as := [.inr (.inl k), .inr (.inl 1), .inr (.inl (gv h 66 40))]) (rest := []) 11 0 0 0 0 rfl rfl (Nat.le_of_ble_eq_true rfl) rfl (Nat.le_of_ble_eq_true rfl) rfl rfl (Nat.le_of_ble_eq_true rfl) rfl (Nat.le_of_ble_eq_true rfl) rfl (Nat.le_refl _) (Nat.le_refl _) rfl rfl ?_
  refine m_isIn S k 1 (gv h 66 40)  (fun c1 => ?_) (fun c1 => ?_)
  · show Wp (d + 2) 0 0 M_X12_annul 11 [some (.inr (.inr 66)), some (.inl k)] [.inl 1] h _
    refine p_if_eq_f 14 rfl rfl (by decide) ?_
    refine p_aload 15 rfl rfl rfl ?_
    refine p_getfr (j := 45) (z := 98) 18 rfl rfl rfl (tg_66 S) rfl (fi_66_45 S) ?_
    refine p_iload 19 rfl rfl rfl ?_
    refine p_iald (w := 201) (z := gv h 98 k) 20 rfl rfl (tg_98 S) (ln_98 S) (by omega) (by omega) rfl ?_
    refine p_if_ne 23 43 rfl rfl rfl (fun c2 => ?_) (fun c2 => ?_)
    · skip
      refine p_const 44 rfl rfl ?_
      refine p_iret rfl rfl ?_
      -- leaf 1: answer [.inl (-1)] h=h 
      first | exact K _ _ (Or.inl ⟨by omega, rfl, rfl⟩) S | exact K _ _ (Or.inr ⟨by omega, by first | rfl | omega, by subst_vars; rfl⟩) (by assumption)
    · skip
      refine p_aload 24 rfl rfl rfl ?_
      refine p_getfr (j := 41) (z := 94) 27 rfl rfl rfl (tg_66 S) rfl (fi_66_41 S) ?_
      refine p_iload 28 rfl rfl rfl ?_
      refine p_iald (w := 201) (z := gv h 94 k) 29 rfl rfl (tg_94 S) (ln_94 S) (by omega) (by omega) rfl ?_
      refine p_const 30 rfl rfl ?_
      refine p_ic_eq 33 43 rfl rfl rfl (fun c3 => ?_) (fun c3 => ?_)
      · skip
        refine p_const 44 rfl rfl ?_
        refine p_iret rfl rfl ?_
        -- leaf 2: answer [.inl (-1)] h=h 
        first | exact K _ _ (Or.inl ⟨by omega, rfl, rfl⟩) S | exact K _ _ (Or.inr ⟨by omega, by first | rfl | omega, by subst_vars; rfl⟩) (by assumption)
      · skip
        refine p_aload 34 rfl rfl rfl ?_
        refine p_getfi (j := 40) (z := gv h 66 40) 37 rfl rfl rfl (tg_66 S) rfl rfl ?_
        refine p_const 40 rfl rfl ?_
        refine p_ic_ne 43 45 rfl rfl rfl (fun c4 => ?_) (fun c4 => ?_)
        · skip
          refine p_aload 46 rfl rfl rfl ?_
          refine p_getfr (j := 45) (z := 98) 49 rfl rfl rfl (tg_66 S) rfl (fi_66_45 S) ?_
          refine p_iload 50 rfl rfl rfl ?_
          refine p_aload 51 rfl rfl rfl ?_
          refine p_getfi (j := 40) (z := gv h 66 40) 54 rfl rfl rfl (tg_66 S) rfl rfl ?_
          refine p_const 55 rfl rfl ?_
          refine p_iadd (z := (gv h 66 40) + 1) 56 rfl rfl (w32_id ⟨(by omega), (by omega)⟩) ?_
          refine p_iast (w := 201) 57 rfl rfl (by decide) (tg_98 S) (ln_98 S) (by omega) (by omega) ?_
          refine p_nmh (fun y5 e5 => ?_)
          have S5 : Shape y5 := by rw [e5]; exact S.svA fa_98 _ _
          refine p_aload 58 rfl rfl rfl ?_
          refine p_const 59 rfl rfl ?_
          refine p_const 60 rfl rfl ?_
          refine p_const 61 rfl rfl ?_
          refine p_iload 62 rfl rfl rfl ?_
          refine p_callv (le := [some (.inr (.inr 66)), some (.inl 3), some (.inl 0), some (.inl 0), some (.inl k)]) (as := [.inr (.inr 66), .inl 3, .inl 0, .inl 0, .inl k]) (rest := []) 65 0 0 0 0 rfl rfl (Nat.le_of_ble_eq_true rfl) rfl (Nat.le_of_ble_eq_true rfl) rfl rfl (Nat.le_of_ble_eq_true rfl) rfl (Nat.le_of_ble_eq_true rfl) rfl (Nat.le_refl _) (Nat.le_refl _) rfl rfl (tg_66 S5) ?_
          refine p_aload 1 rfl rfl rfl ?_
          refine p_dup 2 rfl rfl nl_r ?_
          refine p_getfi (j := 40) (z := gv h 66 40) 5 rfl rfl rfl (tg_66 S5) rfl (by rw [e5, sv_ne (by decide)]) ?_
          refine p_const 6 rfl rfl ?_
          refine p_iadd (z := (gv h 66 40) + 1) 7 rfl rfl (w32_id ⟨(by omega), (by omega)⟩) ?_
          refine p_putfi (j := 40) 10 rfl rfl rfl (fun z => absurd z (by decide)) (tg_66 S5) rfl ?_
          refine p_nmh (fun y6 e6 => ?_)
          have S6 : Shape y6 := by rw [e6]; exact S5.svF ff_66_40 _
          refine p_aload 11 rfl rfl rfl ?_
          refine p_getfr (j := 41) (z := 94) 14 rfl rfl rfl (tg_66 S6) rfl (fi_66_41 S6) ?_
          refine p_aload 15 rfl rfl rfl ?_
          refine p_getfi (j := 40) (z := (gv h 66 40) + 1) 18 rfl rfl rfl (tg_66 S6) rfl (by rw [e6]; exact sv_eq _ _ _ _) ?_
          refine p_iload 19 rfl rfl rfl ?_
          refine p_iast (w := 201) 20 rfl rfl (by decide) (tg_94 S6) (ln_94 S6) (by omega) (by omega) ?_
          refine p_nmh (fun y7 e7 => ?_)
          have S7 : Shape y7 := by rw [e7]; exact S6.svA fa_94 _ _
          refine p_aload 21 rfl rfl rfl ?_
          refine p_getfr (j := 42) (z := 95) 24 rfl rfl rfl (tg_66 S7) rfl (fi_66_42 S7) ?_
          refine p_aload 25 rfl rfl rfl ?_
          refine p_getfi (j := 40) (z := (gv h 66 40) + 1) 28 rfl rfl rfl (tg_66 S7) rfl (by rw [e7, sv_ne (by decide)]; rw [e6]; exact sv_eq _ _ _ _) ?_
          refine p_iload 29 rfl rfl rfl ?_
          refine p_iast (w := 201) 30 rfl rfl (by decide) (tg_95 S7) (ln_95 S7) (by omega) (by omega) ?_
          refine p_nmh (fun y8 e8 => ?_)
          have S8 : Shape y8 := by rw [e8]; exact S7.svA fa_95 _ _
          refine p_aload 31 rfl rfl rfl ?_
          refine p_getfr (j := 43) (z := 96) 34 rfl rfl rfl (tg_66 S8) rfl (fi_66_43 S8) ?_
          refine p_aload 35 rfl rfl rfl ?_
          refine p_getfi (j := 40) (z := (gv h 66 40) + 1) 38 rfl rfl rfl (tg_66 S8) rfl (by rw [e8, sv_ne (by decide)]; rw [e7, sv_ne (by decide)]; rw [e6]; exact sv_eq _ _ _ _) ?_
          refine p_iload 39 rfl rfl rfl ?_
          refine p_iast (w := 201) 40 rfl rfl (by decide) (tg_96 S8) (ln_96 S8) (by omega) (by omega) ?_
          refine p_nmh (fun y9 e9 => ?_)
          have S9 : Shape y9 := by rw [e9]; exact S8.svA fa_96 _ _
          refine p_aload 41 rfl rfl rfl ?_
          refine p_getfr (j := 44) (z := 97) 44 rfl rfl rfl (tg_66 S9) rfl (fi_66_44 S9) ?_
          refine p_aload 45 rfl rfl rfl ?_
          refine p_getfi (j := 40) (z := (gv h 66 40) + 1) 48 rfl rfl rfl (tg_66 S9) rfl (by rw [e9, sv_ne (by decide)]; rw [e8, sv_ne (by decide)]; rw [e7, sv_ne (by decide)]; rw [e6]; exact sv_eq _ _ _ _) ?_
          refine p_iload 50 rfl rfl rfl ?_
          refine p_iast (w := 201) 51 rfl rfl (by decide) (tg_97 S9) (ln_97 S9) (by omega) (by omega) ?_
          refine p_nmh (fun y10 e10 => ?_)
          have S10 : Shape y10 := by rw [e10]; exact S9.svA fa_97 _ _
          refine p_aload 52 rfl rfl rfl ?_
          refine p_getfr (j := 45) (z := 98) 55 rfl rfl rfl (tg_66 S10) rfl (fi_66_45 S10) ?_
          refine p_aload 56 rfl rfl rfl ?_
          refine p_getfi (j := 40) (z := (gv h 66 40) + 1) 59 rfl rfl rfl (tg_66 S10) rfl (by rw [e10, sv_ne (by decide)]; rw [e9, sv_ne (by decide)]; rw [e8, sv_ne (by decide)]; rw [e7, sv_ne (by decide)]; rw [e6]; exact sv_eq _ _ _ _) ?_
          refine p_const 60 rfl rfl ?_
          refine p_iast (w := 201) 61 rfl rfl (by decide) (tg_98 S10) (ln_98 S10) (by omega) (by omega) ?_
          refine p_nmh (fun y11 e11 => ?_)
          have S11 : Shape y11 := by rw [e11]; exact S10.svA fa_98 _ _
          refine p_aload 62 rfl rfl rfl ?_
          refine p_getfi (j := 40) (z := (gv h 66 40) + 1) 65 rfl rfl rfl (tg_66 S11) rfl (by rw [e11, sv_ne (by decide)]; rw [e10, sv_ne (by decide)]; rw [e9, sv_ne (by decide)]; rw [e8, sv_ne (by decide)]; rw [e7, sv_ne (by decide)]; rw [e6]; exact sv_eq _ _ _ _) ?_
          refine p_iret rfl rfl ?_
          show Wp (d + 2) 0 0 M_X12_annul 65 [some (.inr (.inr 66)), some (.inl k)] [.inl ((gv h 66 40) + 1)] y11 _
          refine p_iret rfl rfl ?_
          -- leaf 3: answer [.inl ((gv h 66 40) + 1)] h=y11 e11,e10,e9,e8,e7,e6,e5
          first | exact K _ _ (Or.inl ⟨by omega, rfl, rfl⟩) S | exact K _ _ (Or.inr ⟨by omega, by first | rfl | omega, by subst_vars; rfl⟩) (by assumption)
        · skip
          refine p_const 44 rfl rfl ?_
          refine p_iret rfl rfl ?_
          -- leaf 4: answer [.inl (-1)] h=h 
          first | exact K _ _ (Or.inl ⟨by omega, rfl, rfl⟩) S | exact K _ _ (Or.inr ⟨by omega, by first | rfl | omega, by subst_vars; rfl⟩) (by assumption)
  · show Wp (d + 2) 0 0 M_X12_annul 11 [some (.inr (.inr 66)), some (.inl k)] [.inl 0] h _
    refine p_if_eq_t 43 rfl rfl (by decide) ?_
    refine p_const 44 rfl rfl ?_
    refine p_iret rfl rfl ?_
    -- leaf 5: answer [.inl (-1)] h=h 
    first | exact K _ _ (Or.inl ⟨by omega, rfl, rfl⟩) S | exact K _ _ (Or.inr ⟨by omega, by first | rfl | omega, by subst_vars; rfl⟩) (by assumption)
theorem annul_same {h h1 h2 : PH} {v r r' : Int} (A : AI h) (x : AnnulX v h r h1) (m : AnnulM v h1 r' h2) : r = r' ∧ AI h2 ∧ Keep allA h h2 := by
  have A0 := A
  obtain ⟨⟨a1, a2, a3, a4, a5, a6, a7⟩, a8, a9⟩ := A
  rcases x with ⟨x1, x2, x3⟩ | ⟨x1, x2, x3⟩
  · subst x3
    unfold AnnulM at m
    rw [a3] at m
    rcases m with ⟨m1, m2, m3⟩ | ⟨m1, m2, m3⟩
    · subst m3; exact ⟨by omega, A0, Keep.rf _ _⟩
    · exact absurd m1 (fun z => x1 ⟨z.1, z.2.1, z.2.2.1, z.2.2.2.1, by omega⟩)
  · have K1 : Keep actA h h1 := by rw [x3]; exact ((Keep.rf actA h).sv rfl _).sv rfl _
    have e40 : gv h1 66 40 = gv h 18 5 := (K1.1 66 40 rfl).trans a3
    have e98 : ∀ k, gv h1 98 k = gv h 98 k := fun k => K1.1 98 k rfl
    have e94 : ∀ k, gv h1 94 k = gv h 94 k := fun k => K1.1 94 k rfl
    unfold AnnulM at m
    rw [e40, e98, e94] at m
    rcases m with ⟨m1, m2, m3⟩ | ⟨m1, m2, m3⟩
    · exact absurd (show 1 ≤ v ∧ v ≤ gv h 18 5 ∧ gv h 98 v = 0 ∧ gv h 94 v ≠ 3 ∧ gv h 18 5 ≠ 200 from ⟨x1.1, x1.2.1, x1.2.2.1, x1.2.2.2.1, by omega⟩) m1
    · have K2 : Keep mactA h1 h2 := by rw [m3]; exact (((((((Keep.rf mactA h1).sv rfl _).sv rfl _).sv rfl _).sv rfl _).sv rfl _).sv rfl _).sv rfl _
      have K3 : Keep allA h h2 := (K1.wide actA_all).trans (K2.wide mactA_all)
      have eo : ∀ a i, actA a i = false → mactA a i = false → gv h2 a i = gv h a i := fun a i z1 z2 => (K2.1 a i z2).trans (K1.1 a i z1)
      obtain ⟨y1, y2, y3, y4, y5⟩ := x1
      have f1 : ∀ b i, b ≠ 18 → b ≠ 23 → gv h1 b i = gv h b i := fun b i q1 q2 => by rw [x3, sv_ne q2, sv_ne q1]
      have f2 : ∀ b i, b ≠ 66 → (b < 94 ∨ 98 < b) → gv h2 b i = gv h1 b i := fun b i q1 q2 => by rw [m3, sv_ne (by omega), sv_ne (by omega), sv_ne (by omega), sv_ne (by omega), sv_ne (by omega), sv_ne q1, sv_ne (by omega)]
      have e5 : gv h2 18 5 = gv h 18 5 + 1 := by rw [f2 18 5 (by decide) (by omega), x3, sv_ne (by decide), sv_eq]
      have g23 : gv h2 23 v = gv h 18 5 + 1 := by rw [f2 23 _ (by decide) (by omega), x3, sv_eq]
      have n23 : ∀ k, k ≠ v → gv h2 23 k = gv h 23 k := fun k hk => by rw [f2 23 _ (by decide) (by omega), x3, sv_nf hk, sv_ne (by decide)]
      have F : ∀ k, k ≠ gv h 18 5 + 1 → ∀ a, (19 ≤ a ∧ a ≤ 22) ∨ (94 ≤ a ∧ a ≤ 97) → gv h2 a k = gv h a k := by
        intro k hk a ha
        rcases ha with ha | ha
        · rw [f2 a k (by omega) (by omega), f1 a k (by omega) (by omega)]
        · rw [m3, sv_nf hk, sv_nf hk, sv_nf hk, sv_nf hk, sv_nf hk, sv_ne (by omega), sv_ne (by omega), f1 a k (by omega) (by omega)]
      have F98 : ∀ k, k ≠ gv h 18 5 + 1 → k ≠ v → gv h2 98 k = gv h 98 k := fun k hk hv => by rw [m3, sv_nf hk, sv_nf hk, sv_nf hk, sv_nf hk, sv_nf hk, sv_ne (by decide), sv_nf hv, f1 98 k (by omega) (by omega)]
      have g98 : gv h2 98 v = gv h 18 5 + 1 := by rw [m3, sv_nf (by omega), sv_nf (by omega), sv_nf (by omega), sv_nf (by omega), sv_nf (by omega), sv_ne (by decide), sv_eq]
      have G : ∀ a i, (79 ≤ a ∧ a ≤ 84) ∨ 128 ≤ a → gv h2 a i = gv h a i := fun a i ha => by rw [f2 a i (by omega) (by omega), f1 a i (by omega) (by omega)]
      have N := (And.intro K3.2.1 (And.intro K3.2.2.1 K3.2.2.2))
      have q6 : gv h2 18 6 = gv h 18 6 := by rw [K2.1 18 6 rfl, x3, sv_ne (by decide), sv_nf (by decide)]
      have q46 : gv h2 66 46 = gv h 66 46 := by rw [m3, sv_ne (by decide), sv_ne (by decide), sv_ne (by decide), sv_ne (by decide), sv_ne (by decide), sv_nf (by decide), sv_ne (by decide), K1.1 66 46 rfl]
      refine ⟨by omega, ⟨⟨by omega, by omega, ?_, ?_, ?_, ?_, ?_⟩, ?_, ?_⟩, K3⟩
      · rw [e5, m3, sv_ne (by decide), sv_ne (by decide), sv_ne (by decide), sv_ne (by decide), sv_ne (by decide), sv_eq]
      · rw [q46, q6]; exact a4
      · rw [q6]; exact a5
      · rw [q6]; omega
      · rw [F 0 (by omega) 19 (by omega)]; exact a7
      · intro k k0 k1
        by_cases z : k = gv h 18 5 + 1
        · have z9 := a9 k (by omega) (by omega)
          have f98 : gv h2 98 k = 0 := by rw [m3, z, sv_eq]
          have f23 : gv h2 23 k = 0 := by rw [n23 k (by omega)]; exact z9.2.2
          have f19 : gv h2 19 k = 0 := by rw [f2 19 k (by decide) (by omega), f1 19 k (by decide) (by decide)]; exact z9.1
          have f20 : gv h2 20 k = 0 := by rw [f2 20 k (by decide) (by omega), f1 20 k (by decide) (by decide)]; exact z9.2.1
          have f94 : gv h2 94 k = 3 := by rw [m3, z, sv_ne (by decide), sv_ne (by decide), sv_ne (by decide), sv_ne (by decide), sv_eq]
          unfold AR
          rw [f98, f23, f19, f20, f94]
          exact ⟨rfl, by omega, by omega, Or.inr (Or.inr ⟨rfl, rfl, rfl⟩)⟩
        · obtain ⟨r1, r2, r3, r4⟩ := a8 k k0 (by omega)
          unfold AR
          rw [F k z 94 (by omega), F k z 20 (by omega), F k z 19 (by omega), F k z 97 (by omega), F k z 95 (by omega), F k z 96 (by omega), F k z 21 (by omega), F k z 22 (by omega)]
          have t1 : gv h2 98 k = gv h2 23 k ∧ 0 ≤ gv h2 23 k ∧ gv h2 23 k ≤ 200 := by
            by_cases w : k = v
            · rw [w, g98, g23]; exact ⟨rfl, by omega, by omega⟩
            · rw [F98 k z w, n23 k w]; exact ⟨r1, r2, r3⟩
          refine ⟨t1.1, t1.2.1, t1.2.2, ?_⟩
          rcases r4 with ⟨a, b, c⟩ | r | r
          · exact Or.inl ⟨a, b, c.of G N⟩
          · exact Or.inr (Or.inl r)
          · exact Or.inr (Or.inr r)
      · intro k k0 k1
        rw [F k (by omega) 19 (by omega), F k (by omega) 20 (by omega), n23 k (by omega)]
        exact a9 k (by omega) k1
theorem as_same {h h1 h2 : PH} {n r r' : Int} (A : AI h) (x : AsR 18 6 n (gv h 18 5) h r h1) (m : AsR 66 46 n (gv h1 66 40) h1 r' h2) : r = r' ∧ AI h2 ∧ Keep allA h h2 := by
  have A0 := A
  obtain ⟨⟨a1, a2, a3, a4, a5, a6, a7⟩, a8, a9⟩ := A
  rcases x with ⟨x1, x2, x3⟩ | ⟨x1, x2, x3⟩
  · subst x3
    unfold AsR at m
    rw [a3] at m
    rcases m with ⟨m1, m2, m3⟩ | ⟨m1, m2, m3⟩
    · subst m3; exact ⟨by omega, A0, Keep.rf _ _⟩
    · exact absurd m1 x1
  · have e40 : gv h1 66 40 = gv h 18 5 := by rw [x3, sv_ne (by decide)]; exact a3
    unfold AsR at m
    rw [e40] at m
    rcases m with ⟨m1, m2, m3⟩ | ⟨m1, m2, m3⟩
    · exact absurd x1 m1
    · have K3 : Keep allA h h2 := by rw [m3, x3]; exact ((Keep.rf allA h).sv rfl _).sv rfl _
      have F : ∀ a i, a ≠ 18 → a ≠ 66 → gv h2 a i = gv h a i := fun a i q1 q2 => by rw [m3, x3, sv_ne q2, sv_ne q1]
      have F5 : gv h2 18 5 = gv h 18 5 := by rw [m3, x3, sv_ne (by decide), sv_nf (by decide)]
      refine ⟨by omega, ⟨⟨by omega, by omega, ?_, ?_, ?_, ?_, ?_⟩, ?_, ?_⟩, K3⟩
      · rw [F5, m3, sv_nf (by decide), x3, sv_ne (by decide)]; exact a3
      · rw [m3, sv_eq, sv_ne (by decide), x3, sv_eq]
      · rw [m3, x3, sv_ne (by decide), sv_eq]; omega
      · rw [F5, m3, x3, sv_ne (by decide), sv_eq]; omega
      · rw [F 19 0 (by decide) (by decide)]; exact a7
      · intro k k0 k1
        exact (a8 k k0 (by omega)).other (fun a ha => F a k (by omega) (by omega)) (fun a i ha => F a i (by omega) (by omega)) ⟨K3.2.1, K3.2.2⟩
      · intro k k0 k1
        rw [F 19 k (by decide) (by decide), F 20 k (by decide) (by decide), F 23 k (by decide) (by decide)]
        exact a9 k (by omega) k1
/-! what all tells -/
abbrev isFl (h : PH) (k n : Int) : Prop := 1 ≤ k ∧ k ≤ n ∧ gv h 94 k = 2 ∧ (gv h 98 k = 0 ∨ n < gv h 98 k)
def cntF (h : PH) (n : Int) : Nat → Int
  | 0 => 0
  | k + 1 => cntF h n k + if isFl h ((k : Int) + 1) n then 1 else 0
theorem cntF_in (h : PH) (n : Int) : ∀ k : Nat, 0 ≤ cntF h n k ∧ cntF h n k ≤ k
  | 0 => ⟨Int.le_refl 0, Int.le_refl 0⟩
  | k + 1 => by
    have := cntF_in h n k
    unfold cntF
    split <;> omega
theorem x_countFlown {d : Nat} {h : PH} {q : PQ} (S : Shape h) (A : AI h) (K : q (some (.inl (cntF h (nw h) (gv h 18 5).toNat))) h) :
    Wp (d + 3) 0 0 M_X0_countFlown 0 [some (.inr (.inr 18)), none, none] [] h q := by
  have A0 := A
  obtain ⟨⟨a1, a2, a3, a4, a5, a6, a7⟩, a8, a9⟩ := A
  have L : ∀ (c g : Nat) (k n : Int), g + c = (gv h 18 5).toNat → k = g + 1 → n = cntF h (nw h) g → Wp (d + 3) 0 0 M_X0_countFlown 4 [some (.inr (.inr 18)), some (.inl n), some (.inl k)] [] h q := by
    intro c
    induction c with
    | zero =>
      intro g k n hg hk e
      refine p_iload 5 rfl rfl rfl ?_
      refine p_aload 6 rfl rfl rfl ?_
      refine p_getfi (j := 5) (z := gv h 18 5) 9 rfl rfl rfl (tg_18 S) rfl rfl ?_
      refine p_ic_gt_t 33 rfl rfl (by omega) ?_
      refine p_iload 34 rfl rfl rfl ?_
      refine p_iret rfl rfl ?_
      -- leaf 1: answer [.inl n] h=h 
      rw [e, show g = (gv h 18 5).toNat by omega]; exact K
    | succ c ih =>
      intro g k n hg hk e
      have kc : ((g : Int) + 1) = k := by omega
      have cs := A0.cases (k := k) (by omega) (by omega)
      have ci := cntF_in h (nw h) g
      refine p_iload 5 rfl rfl rfl ?_
      refine p_aload 6 rfl rfl rfl ?_
      refine p_getfi (j := 5) (z := gv h 18 5) 9 rfl rfl rfl (tg_18 S) rfl rfl ?_
      refine p_ic_gt_f 12 rfl rfl (by omega) ?_
      refine p_aload 13 rfl rfl rfl ?_
      refine p_iload 14 rfl rfl rfl ?_
      refine p_aload 15 rfl rfl rfl ?_
      refine p_callv (le := [some (.inr (.inr 18))]) (as := [.inr (.inr 18)]) (rest := [.inl k, .inr (.inr 18)]) 18 0 0 0 0 rfl rfl (Nat.le_of_ble_eq_true rfl) rfl (Nat.le_of_ble_eq_true rfl) rfl rfl (Nat.le_of_ble_eq_true rfl) rfl (Nat.le_of_ble_eq_true rfl) rfl (Nat.le_refl _) (Nat.le_refl _) rfl rfl (tg_18 S) ?_
      refine x_knownAt S   ?_
      show Wp (d + 3) 0 0 M_X0_countFlown 18 [some (.inr (.inr 18)), some (.inl n), some (.inl k)] [.inl (nw h), .inl k, .inr (.inr 18)] h _
      refine p_callv (le := [some (.inr (.inr 18)), some (.inl k), some (.inl (nw h))]) (as := [.inr (.inr 18), .inl k, .inl (nw h)]) (rest := []) 21 0 0 0 0 rfl rfl (Nat.le_of_ble_eq_true rfl) rfl (Nat.le_of_ble_eq_true rfl) rfl rfl (Nat.le_of_ble_eq_true rfl) rfl (Nat.le_of_ble_eq_true rfl) rfl (Nat.le_refl _) (Nat.le_refl _) rfl rfl (tg_18 S) ?_
      refine x_isFlownKnown S k (nw h) (by omega) (fun c1 => ?_) (fun c1 => ?_)
      · show Wp (d + 3) 0 0 M_X0_countFlown 21 [some (.inr (.inr 18)), some (.inl n), some (.inl k)] [.inl 1] h _
        refine p_if_eq_f 24 rfl rfl (by decide) ?_
        refine p_iinc (y := n + 1) (ls' := [some (.inr (.inr 18)), some (.inl (n + 1)), some (.inl k)]) 27 rfl rfl rfl (w32_id ⟨(by omega), (by omega)⟩) rfl ?_
        refine p_iinc (y := k + 1) (ls' := [some (.inr (.inr 18)), some (.inl (n + 1)), some (.inl (k + 1))]) 30 rfl rfl rfl (w32_id ⟨(by omega), (by omega)⟩) rfl ?_
        refine p_goto 4 rfl rfl ?_
        -- leaf 1: loop 4 [some (.inr (.inr 18)), some (.inl (n + 1)), some (.inl (k + 1))] st=[] h=h 
        exact ih (g + 1) _ _ (by omega) (by omega) (by unfold cntF; rw [kc]; first | rw [if_pos (by omega), e] | (rw [if_neg (by omega), e]; omega))
      · show Wp (d + 3) 0 0 M_X0_countFlown 21 [some (.inr (.inr 18)), some (.inl n), some (.inl k)] [.inl 0] h _
        refine p_if_eq_t 27 rfl rfl (by decide) ?_
        refine p_iinc (y := k + 1) (ls' := [some (.inr (.inr 18)), some (.inl n), some (.inl (k + 1))]) 30 rfl rfl rfl (w32_id ⟨(by omega), (by omega)⟩) rfl ?_
        refine p_goto 4 rfl rfl ?_
        -- leaf 2: loop 4 [some (.inr (.inr 18)), some (.inl n), some (.inl (k + 1))] st=[] h=h 
        exact ih (g + 1) _ _ (by omega) (by omega) (by unfold cntF; rw [kc]; first | rw [if_pos (by omega), e] | (rw [if_neg (by omega), e]; omega))
  refine p_const 1 rfl rfl ?_
  refine p_istore (ls' := [some (.inr (.inr 18)), some (.inl 0), none]) 2 rfl rfl (Nat.le_of_ble_eq_true rfl) rfl ?_
  refine p_const 3 rfl rfl ?_
  refine p_istore (ls' := [some (.inr (.inr 18)), some (.inl 0), some (.inl 1)]) 4 rfl rfl (Nat.le_of_ble_eq_true rfl) rfl ?_
  -- leaf 1: loop 4 [some (.inr (.inr 18)), some (.inl 0), some (.inl 1)] st=[] h=h 
  exact L (gv h 18 5).toNat 0 _ _ (by omega) rfl rfl
theorem m_isFlown {d : Nat} {h : PH} {q : PQ} (S : Shape h) (k : Int) (A : AI h) (K1 : k ≤ gv h 18 5 ∧ isFl h k (nw h) → q (some (.inl 1)) h) (K2 : ¬ (k ≤ gv h 18 5 ∧ isFl h k (nw h)) → q (some (.inl 0)) h) :
    Wp (d + 2) 0 0 M_X12_isFlown 0 [some (.inr (.inr 66)), some (.inl k)] [] h q := by
  have A0 := A
  obtain ⟨⟨a1, a2, a3, a4, a5, a6, a7⟩, a8, a9⟩ := A
  refine p_iload 1 rfl rfl rfl ?_
  refine p_i2l 2 rfl rfl ?_
  refine p_lconst 3 rfl rfl ?_
  refine p_aload 4 rfl rfl rfl ?_
  refine p_getfi (j := 40) (z := gv h 66 40) 7 rfl rfl rfl (tg_66 S) rfl rfl ?_
  refine p_i2l 8 rfl rfl ?_
  refine p_calls (le := [some (.inr (.inl k)), none, some (.inr (.inl 1)), none, some (.inr (.inl (gv h 66 40))), none]) (as := [.inr (.inl k), .inr (.inl 1), .inr (.inl (gv h 66 40))]) (rest := []) 11 0 0 0 0 rfl rfl (Nat.le_of_ble_eq_true rfl) rfl (Nat.le_of_ble_eq_true rfl) rfl rfl (Nat.le_of_ble_eq_true rfl) rfl (Nat.le_of_ble_eq_true rfl) rfl (Nat.le_refl _) (Nat.le_refl _) rfl rfl ?_
  refine m_isIn S k 1 (gv h 66 40)  (fun c1 => ?_) (fun c1 => ?_)
  · show Wp (d + 2) 0 0 M_X12_isFlown 11 [some (.inr (.inr 66)), some (.inl k)] [.inl 1] h _
    refine p_if_eq_f 14 rfl rfl (by decide) ?_
    refine p_aload 15 rfl rfl rfl ?_
    refine p_getfr (j := 41) (z := 94) 18 rfl rfl rfl (tg_66 S) rfl (fi_66_41 S) ?_
    refine p_iload 19 rfl rfl rfl ?_
    refine p_iald (w := 201) (z := gv h 94 k) 20 rfl rfl (tg_94 S) (ln_94 S) (by omega) (by omega) rfl ?_
    refine p_const 21 rfl rfl ?_
    refine p_ic_ne 24 40 rfl rfl rfl (fun c2 => ?_) (fun c2 => ?_)
    · skip
      refine p_const 41 rfl rfl ?_
      refine p_zret rfl rfl (by decide) ?_
      -- leaf 1: answer [.inl 0] h=h 
      first | exact K1 (by omega) | exact K2 (by omega)
    · skip
      refine p_aload 25 rfl rfl rfl ?_
      refine p_iload 26 rfl rfl rfl ?_
      refine p_aload 27 rfl rfl rfl ?_
      refine p_callv (le := [some (.inr (.inr 66))]) (as := [.inr (.inr 66)]) (rest := [.inl k, .inr (.inr 66)]) 30 0 0 0 0 rfl rfl (Nat.le_of_ble_eq_true rfl) rfl (Nat.le_of_ble_eq_true rfl) rfl rfl (Nat.le_of_ble_eq_true rfl) rfl (Nat.le_of_ble_eq_true rfl) rfl (Nat.le_refl _) (Nat.le_refl _) rfl rfl (tg_66 S) ?_
      refine m_now S  (A0) ?_
      show Wp (d + 2) 0 0 M_X12_isFlown 30 [some (.inr (.inr 66)), some (.inl k)] [.inl (nw h), .inl k, .inr (.inr 66)] h _
      refine p_callv (le := [some (.inr (.inr 66)), some (.inl k), some (.inl (nw h))]) (as := [.inr (.inr 66), .inl k, .inl (nw h)]) (rest := []) 33 0 0 0 0 rfl rfl (Nat.le_of_ble_eq_true rfl) rfl (Nat.le_of_ble_eq_true rfl) rfl rfl (Nat.le_of_ble_eq_true rfl) rfl (Nat.le_of_ble_eq_true rfl) rfl (Nat.le_refl _) (Nat.le_refl _) rfl rfl (tg_66 S) ?_
      refine m_isKnown S k (nw h) (by omega) (by omega) (fun c3 => ?_) (fun c3 => ?_)
      · show Wp (d + 2) 0 0 M_X12_isFlown 33 [some (.inr (.inr 66)), some (.inl k)] [.inl 1] h _
        refine p_if_eq_f 36 rfl rfl (by decide) ?_
        refine p_const 37 rfl rfl ?_
        refine p_goto 41 rfl rfl ?_
        refine p_zret rfl rfl (by decide) ?_
        -- leaf 2: answer [.inl 1] h=h 
        first | exact K1 (by omega) | exact K2 (by omega)
      · show Wp (d + 2) 0 0 M_X12_isFlown 33 [some (.inr (.inr 66)), some (.inl k)] [.inl 0] h _
        refine p_if_eq_t 40 rfl rfl (by decide) ?_
        refine p_const 41 rfl rfl ?_
        refine p_zret rfl rfl (by decide) ?_
        -- leaf 3: answer [.inl 0] h=h 
        first | exact K1 (by omega) | exact K2 (by omega)
  · show Wp (d + 2) 0 0 M_X12_isFlown 11 [some (.inr (.inr 66)), some (.inl k)] [.inl 0] h _
    refine p_if_eq_t 40 rfl rfl (by decide) ?_
    refine p_const 41 rfl rfl ?_
    refine p_zret rfl rfl (by decide) ?_
    -- leaf 4: answer [.inl 0] h=h 
    first | exact K1 (by omega) | exact K2 (by omega)
theorem x_all {d : Nat} {h : PH} {q : PQ} (S : Shape h) (A : AI h) (w : Int) (K : q (some (.inl (if w = 0 then gv h 18 5 else if w = 1 then nw h else if w = 2 then gv h 2 10 else if w = 3 then cntF h (nw h) (gv h 18 5).toNat else -1))) h) :
    Wp (d + 4) 0 0 M_X11_all 0 [some (.inr (.inr 2)), some (.inl w)] [] h q := by
  refine p_iload 1 rfl rfl rfl ?_
  refine p_swt rfl ?_
  refine ⟨fun c1 => ?_, fun c1 => ?_⟩
  · show Wp (d + 4) 0 0 M_X11_all 32 [some (.inr (.inr 2)), some (.inl w)] [] h _
    refine p_aload 33 rfl rfl rfl ?_
    refine p_getfr (j := 3) (z := 18) 36 rfl rfl rfl (tg_2 S) rfl (fi_2_3 S) ?_
    refine p_getfi (j := 5) (z := gv h 18 5) 39 rfl rfl rfl (tg_18 S) rfl rfl ?_
    refine p_iret rfl rfl ?_
    -- leaf 1: answer [.inl (gv h 18 5)] h=h 
    (repeat' split at K) <;> first | (exfalso; omega) | exact K
  · have c1_0 := c1
    refine ⟨fun c1 => ?_, fun c1 => ?_⟩
    · show Wp (d + 4) 0 0 M_X11_all 40 [some (.inr (.inr 2)), some (.inl w)] [] h _
      refine p_aload 41 rfl rfl rfl ?_
      refine p_getfr (j := 3) (z := 18) 44 rfl rfl rfl (tg_2 S) rfl (fi_2_3 S) ?_
      refine p_callv (le := [some (.inr (.inr 18))]) (as := [.inr (.inr 18)]) (rest := []) 47 0 0 0 0 rfl rfl (Nat.le_of_ble_eq_true rfl) rfl (Nat.le_of_ble_eq_true rfl) rfl rfl (Nat.le_of_ble_eq_true rfl) rfl (Nat.le_of_ble_eq_true rfl) rfl (Nat.le_refl _) (Nat.le_refl _) rfl rfl (tg_18 S) ?_
      refine x_knownAt S   ?_
      show Wp (d + 4) 0 0 M_X11_all 47 [some (.inr (.inr 2)), some (.inl w)] [.inl (nw h)] h _
      refine p_iret rfl rfl ?_
      -- leaf 2: answer [.inl (nw h)] h=h 
      (repeat' split at K) <;> first | (exfalso; omega) | exact K
    · have c1_1 := c1
      refine ⟨fun c1 => ?_, fun c1 => ?_⟩
      · show Wp (d + 4) 0 0 M_X11_all 48 [some (.inr (.inr 2)), some (.inl w)] [] h _
        refine p_aload 49 rfl rfl rfl ?_
        refine p_getfi (j := 10) (z := gv h 2 10) 52 rfl rfl rfl (tg_2 S) rfl rfl ?_
        refine p_iret rfl rfl ?_
        -- leaf 3: answer [.inl (gv h 2 10)] h=h 
        (repeat' split at K) <;> first | (exfalso; omega) | exact K
      · have c1_2 := c1
        refine ⟨fun c1 => ?_, fun c1 => ?_⟩
        · show Wp (d + 4) 0 0 M_X11_all 53 [some (.inr (.inr 2)), some (.inl w)] [] h _
          refine p_aload 54 rfl rfl rfl ?_
          refine p_getfr (j := 3) (z := 18) 57 rfl rfl rfl (tg_2 S) rfl (fi_2_3 S) ?_
          refine p_callv (le := [some (.inr (.inr 18)), none, none]) (as := [.inr (.inr 18)]) (rest := []) 60 0 0 0 0 rfl rfl (Nat.le_of_ble_eq_true rfl) rfl (Nat.le_of_ble_eq_true rfl) rfl rfl (Nat.le_of_ble_eq_true rfl) rfl (Nat.le_of_ble_eq_true rfl) rfl (Nat.le_refl _) (Nat.le_refl _) rfl rfl (tg_18 S) ?_
          refine x_countFlown S  (A) ?_
          show Wp (d + 4) 0 0 M_X11_all 60 [some (.inr (.inr 2)), some (.inl w)] [.inl (cntF h (nw h) (gv h 18 5).toNat)] h _
          refine p_iret rfl rfl ?_
          -- leaf 4: answer [.inl (cntF h (nw h) (gv h 18 5).toNat)] h=h 
          (repeat' split at K) <;> first | (exfalso; omega) | exact K
        · have c1_3 := c1
          show Wp (d + 4) 0 0 M_X11_all 61 [some (.inr (.inr 2)), some (.inl w)] [] h _
          refine p_const 62 rfl rfl ?_
          refine p_iret rfl rfl ?_
          -- leaf 5: answer [.inl (-1)] h=h 
          (repeat' split at K) <;> first | (exfalso; omega) | exact K
theorem m_all {d : Nat} {h : PH} {q : PQ} (S : Shape h) (A : AI h) (w : Int) (K : q (some (.inl (if w = 0 then gv h 18 5 else if w = 1 then nw h else if w = 2 then gv h 66 59 else if w = 3 then cntF h (nw h) (gv h 18 5).toNat else -1))) h) :
    Wp (d + 4) 0 0 M_X12_all 0 [some (.inr (.inr 66)), some (.inl w), none, none] [] h q := by
  have A0 := A
  obtain ⟨⟨a1, a2, a3, a4, a5, a6, a7⟩, a8, a9⟩ := A
  have L : w = 3 → ∀ (c g : Nat) (k n : Int), g + c = (gv h 18 5).toNat → k = g + 1 → n = cntF h (nw h) g → Wp (d + 4) 0 0 M_X12_all 49 [some (.inr (.inr 66)), some (.inl w), some (.inl n), some (.inl k)] [] h q := by
    intro hw c
    induction c with
    | zero =>
      intro g k n hg hk e
      refine p_iload 50 rfl rfl rfl ?_
      refine p_aload 51 rfl rfl rfl ?_
      refine p_getfi (j := 40) (z := gv h 66 40) 54 rfl rfl rfl (tg_66 S) rfl rfl ?_
      refine p_ic_gt_t 74 rfl rfl (by omega) ?_
      refine p_iload 75 rfl rfl rfl ?_
      refine p_iret rfl rfl ?_
      -- leaf 1: answer [.inl n] h=h 
      rw [if_neg (by omega), if_neg (by omega), if_neg (by omega), if_pos hw] at K; rw [e, show g = (gv h 18 5).toNat by omega]; exact K
    | succ c ih =>
      intro g k n hg hk e
      have kc : ((g : Int) + 1) = k := by omega
      have ci := cntF_in h (nw h) g
      refine p_iload 50 rfl rfl rfl ?_
      refine p_aload 51 rfl rfl rfl ?_
      refine p_getfi (j := 40) (z := gv h 66 40) 54 rfl rfl rfl (tg_66 S) rfl rfl ?_
      refine p_ic_gt_f 57 rfl rfl (by omega) ?_
      refine p_aload 58 rfl rfl rfl ?_
      refine p_iload 59 rfl rfl rfl ?_
      refine p_callv (le := [some (.inr (.inr 66)), some (.inl k)]) (as := [.inr (.inr 66), .inl k]) (rest := []) 62 0 0 0 0 rfl rfl (Nat.le_of_ble_eq_true rfl) rfl (Nat.le_of_ble_eq_true rfl) rfl rfl (Nat.le_of_ble_eq_true rfl) rfl (Nat.le_of_ble_eq_true rfl) rfl (Nat.le_refl _) (Nat.le_refl _) rfl rfl (tg_66 S) ?_
      refine m_isFlown S k (A0) (fun c1 => ?_) (fun c1 => ?_)
      · show Wp (d + 4) 0 0 M_X12_all 62 [some (.inr (.inr 66)), some (.inl w), some (.inl n), some (.inl k)] [.inl 1] h _
        refine p_if_eq_f 65 rfl rfl (by decide) ?_
        refine p_iinc (y := n + 1) (ls' := [some (.inr (.inr 66)), some (.inl w), some (.inl (n + 1)), some (.inl k)]) 68 rfl rfl rfl (w32_id ⟨(by omega), (by omega)⟩) rfl ?_
        refine p_iinc (y := k + 1) (ls' := [some (.inr (.inr 66)), some (.inl w), some (.inl (n + 1)), some (.inl (k + 1))]) 71 rfl rfl rfl (w32_id ⟨(by omega), (by omega)⟩) rfl ?_
        refine p_goto 49 rfl rfl ?_
        -- leaf 1: loop 49 [some (.inr (.inr 66)), some (.inl w), some (.inl (n + 1)), some (.inl (k + 1))] st=[] h=h 
        exact ih (g + 1) _ _ (by omega) (by omega) (by unfold cntF; rw [kc]; first | rw [if_pos (by omega), e] | (rw [if_neg (by omega), e]; omega))
      · show Wp (d + 4) 0 0 M_X12_all 62 [some (.inr (.inr 66)), some (.inl w), some (.inl n), some (.inl k)] [.inl 0] h _
        refine p_if_eq_t 68 rfl rfl (by decide) ?_
        refine p_iinc (y := k + 1) (ls' := [some (.inr (.inr 66)), some (.inl w), some (.inl n), some (.inl (k + 1))]) 71 rfl rfl rfl (w32_id ⟨(by omega), (by omega)⟩) rfl ?_
        refine p_goto 49 rfl rfl ?_
        -- leaf 2: loop 49 [some (.inr (.inr 66)), some (.inl w), some (.inl n), some (.inl (k + 1))] st=[] h=h 
        exact ih (g + 1) _ _ (by omega) (by omega) (by unfold cntF; rw [kc]; first | rw [if_pos (by omega), e] | (rw [if_neg (by omega), e]; omega))
  refine p_const 1 rfl rfl ?_
  refine p_istore (ls' := [some (.inr (.inr 66)), some (.inl w), some (.inl 0), none]) 2 rfl rfl (Nat.le_of_ble_eq_true rfl) rfl ?_
  refine p_iload 3 rfl rfl rfl ?_
  refine p_swt rfl ?_
  refine ⟨fun c1 => ?_, fun c1 => ?_⟩
  · show Wp (d + 4) 0 0 M_X12_all 32 [some (.inr (.inr 66)), some (.inl w), some (.inl 0), none] [] h _
    refine p_aload 33 rfl rfl rfl ?_
    refine p_getfi (j := 40) (z := gv h 66 40) 36 rfl rfl rfl (tg_66 S) rfl rfl ?_
    refine p_iret rfl rfl ?_
    -- leaf 1: answer [.inl (gv h 66 40)] h=h 
    first | exact L (by omega) (gv h 18 5).toNat 0 _ _ (by omega) rfl rfl | ((repeat' split at K) <;> first | (exfalso; omega) | (rw [a3]; exact K) | exact K)
  · have c1_0 := c1
    refine ⟨fun c1 => ?_, fun c1 => ?_⟩
    · show Wp (d + 4) 0 0 M_X12_all 37 [some (.inr (.inr 66)), some (.inl w), some (.inl 0), none] [] h _
      refine p_aload 38 rfl rfl rfl ?_
      refine p_callv (le := [some (.inr (.inr 66))]) (as := [.inr (.inr 66)]) (rest := []) 41 0 0 0 0 rfl rfl (Nat.le_of_ble_eq_true rfl) rfl (Nat.le_of_ble_eq_true rfl) rfl rfl (Nat.le_of_ble_eq_true rfl) rfl (Nat.le_of_ble_eq_true rfl) rfl (Nat.le_refl _) (Nat.le_refl _) rfl rfl (tg_66 S) ?_
      refine m_now S  (A0) ?_
      show Wp (d + 4) 0 0 M_X12_all 41 [some (.inr (.inr 66)), some (.inl w), some (.inl 0), none] [.inl (nw h)] h _
      refine p_iret rfl rfl ?_
      -- leaf 2: answer [.inl (nw h)] h=h 
      first | exact L (by omega) (gv h 18 5).toNat 0 _ _ (by omega) rfl rfl | ((repeat' split at K) <;> first | (exfalso; omega) | (rw [a3]; exact K) | exact K)
    · have c1_1 := c1
      refine ⟨fun c1 => ?_, fun c1 => ?_⟩
      · show Wp (d + 4) 0 0 M_X12_all 42 [some (.inr (.inr 66)), some (.inl w), some (.inl 0), none] [] h _
        refine p_aload 43 rfl rfl rfl ?_
        refine p_getfi (j := 59) (z := gv h 66 59) 46 rfl rfl rfl (tg_66 S) rfl rfl ?_
        refine p_iret rfl rfl ?_
        -- leaf 3: answer [.inl (gv h 66 59)] h=h 
        first | exact L (by omega) (gv h 18 5).toNat 0 _ _ (by omega) rfl rfl | ((repeat' split at K) <;> first | (exfalso; omega) | (rw [a3]; exact K) | exact K)
      · have c1_2 := c1
        refine ⟨fun c1 => ?_, fun c1 => ?_⟩
        · show Wp (d + 4) 0 0 M_X12_all 47 [some (.inr (.inr 66)), some (.inl w), some (.inl 0), none] [] h _
          refine p_const 48 rfl rfl ?_
          refine p_istore (ls' := [some (.inr (.inr 66)), some (.inl w), some (.inl 0), some (.inl 1)]) 49 rfl rfl (Nat.le_of_ble_eq_true rfl) rfl ?_
          -- leaf 4: loop 49 [some (.inr (.inr 66)), some (.inl w), some (.inl 0), some (.inl 1)] st=[] h=h 
          first | exact L (by omega) (gv h 18 5).toNat 0 _ _ (by omega) rfl rfl | ((repeat' split at K) <;> first | (exfalso; omega) | (rw [a3]; exact K) | exact K)
        · have c1_3 := c1
          show Wp (d + 4) 0 0 M_X12_all 76 [some (.inr (.inr 66)), some (.inl w), some (.inl 0), none] [] h _
          refine p_const 77 rfl rfl ?_
          refine p_iret rfl rfl ?_
          -- leaf 5: answer [.inl (-1)] h=h 
          first | exact L (by omega) (gv h 18 5).toNat 0 _ _ (by omega) rfl rfl | ((repeat' split at K) <;> first | (exfalso; omega) | (rw [a3]; exact K) | exact K)

