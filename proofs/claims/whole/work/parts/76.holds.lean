/-! HOLDS, FAULT -/
abbrev argH (h : PH) (i s t : Int) : Prop := kb h ≠ 0 ∧ (0 ≤ i ∧ i < gv h 79 (kb h)) ∧ (0 ≤ s ∧ s < 10) ∧ (0 ≤ t ∧ t < 1000)
def HldR (h : PH) (i s t r : Int) : Prop := (¬ argH h i s t ∧ r = -1) ∨ (argH h i s t ∧ r = tv h (kb h) s t (zh h t) i)
theorem x_holds {d : Nat} {h : PH} {q : PQ} (S : Shape h) (A : AI h) (F : FI h) (i s t : Int) (K : ∀ r h', (Keep xA h h' ∧ HldR h i s t r) → Shape h' → q (some (.inl r)) h') : Wp (d + 4) 0 0 M_X11_holds 0 [some (.inr (.inr 2)), some (.inl i), some (.inl s), some (.inl t), none] [] h q := by
  have A0 := A
  rcases A.kb with ⟨k0, x0⟩ | ⟨k1, k2, z1, Ro⟩
  · skip
    refine p_aload 1 rfl rfl rfl ?_
    refine p_callv (le := [some (.inr (.inr 2))]) (as := [.inr (.inr 2)]) (rest := []) 4 0 0 0 0 rfl rfl (Nat.le_of_ble_eq_true rfl) rfl (Nat.le_of_ble_eq_true rfl) rfl rfl (Nat.le_of_ble_eq_true rfl) rfl (Nat.le_of_ble_eq_true rfl) rfl (Nat.le_refl _) (Nat.le_refl _) rfl rfl (tg_2 S) ?_
    refine x_knownBook S  (A0) ?_
    show Wp (d + 4) 0 0 M_X11_holds 4 [some (.inr (.inr 2)), some (.inl i), some (.inl s), some (.inl t), none] [.inr (.inr (xb h))] h _
    refine p_astore (ls' := [some (.inr (.inr 2)), some (.inl i), some (.inl s), some (.inl t), some (.inr (.inr (xb h)))]) 6 rfl rfl (Nat.le_of_ble_eq_true rfl) rfl ?_
    refine p_aload 8 rfl rfl rfl ?_
    refine p_ifnull 11 38 rfl rfl rfl (fun c2 => ?_) (fun z => absurd (by omega) z)
    refine p_const 39 rfl rfl ?_
    refine p_iret rfl rfl ?_
    -- leaf 1: answer [.inl (-1)] h=h 
    exact K _ _ ⟨Keep.rf _ _, Or.inl ⟨fun z => z.1 k0, rfl⟩⟩ S
  · have Ro0 := Ro
    obtain ⟨r1, r2, pl, r3, r4, Bk, Is⟩ := Ro
    have f0 := Bk.f0
    refine p_aload 1 rfl rfl rfl ?_
    refine p_callv (le := [some (.inr (.inr 2))]) (as := [.inr (.inr 2)]) (rest := []) 4 0 0 0 0 rfl rfl (Nat.le_of_ble_eq_true rfl) rfl (Nat.le_of_ble_eq_true rfl) rfl rfl (Nat.le_of_ble_eq_true rfl) rfl (Nat.le_of_ble_eq_true rfl) rfl (Nat.le_refl _) (Nat.le_refl _) rfl rfl (tg_2 S) ?_
    refine x_knownBook S  (A0) ?_
    show Wp (d + 4) 0 0 M_X11_holds 4 [some (.inr (.inr 2)), some (.inl i), some (.inl s), some (.inl t), none] [.inr (.inr (xb h))] h _
    refine p_astore (ls' := [some (.inr (.inr 2)), some (.inl i), some (.inl s), some (.inl t), some (.inr (.inr (xb h)))]) 6 rfl rfl (Nat.le_of_ble_eq_true rfl) rfl ?_
    refine p_aload 8 rfl rfl rfl ?_
    refine p_ifnull 11 38 rfl rfl rfl (fun z => absurd z (by omega)) (fun c2 => ?_)
    refine p_iload 12 rfl rfl rfl ?_
    refine p_if_lt 15 38 rfl rfl rfl (fun c3 => ?_) (fun c3 => ?_)
    · skip
      refine p_const 39 rfl rfl ?_
      refine p_iret rfl rfl ?_
      -- leaf 1: answer [.inl (-1)] h=h 
      exact K _ _ ⟨Keep.rf _ _, Or.inl ⟨fun z => by have := z.2; omega, rfl⟩⟩ S
    · skip
      refine p_iload 16 rfl rfl rfl ?_
      refine p_aload 18 rfl rfl rfl ?_
      refine p_getfi (j := 0) (z := gv h (xb h) 0) 21 rfl rfl rfl Bk.tag rfl rfl ?_
      refine p_ic_ge 24 38 rfl rfl rfl (fun c4 => ?_) (fun c4 => ?_)
      · skip
        refine p_const 39 rfl rfl ?_
        refine p_iret rfl rfl ?_
        -- leaf 2: answer [.inl (-1)] h=h 
        exact K _ _ ⟨Keep.rf _ _, Or.inl ⟨fun z => by have := z.2; omega, rfl⟩⟩ S
      · skip
        refine p_iload 25 rfl rfl rfl ?_
        refine p_calls (le := [some (.inl s)]) (as := [.inl s]) (rest := []) 28 0 0 0 0 rfl rfl (Nat.le_of_ble_eq_true rfl) rfl (Nat.le_of_ble_eq_true rfl) rfl rfl (Nat.le_of_ble_eq_true rfl) rfl (Nat.le_of_ble_eq_true rfl) rfl (Nat.le_refl _) (Nat.le_refl _) rfl rfl ?_
        refine x_isShip S s  (fun c5 => ?_) (fun c5 => ?_)
        · show Wp (d + 4) 0 0 M_X11_holds 28 [some (.inr (.inr 2)), some (.inl i), some (.inl s), some (.inl t), some (.inr (.inr (xb h)))] [.inl 1] h _
          refine p_if_eq_f 31 rfl rfl (by decide) ?_
          refine p_iload 32 rfl rfl rfl ?_
          refine p_calls (le := [some (.inl t)]) (as := [.inl t]) (rest := []) 35 0 0 0 0 rfl rfl (Nat.le_of_ble_eq_true rfl) rfl (Nat.le_of_ble_eq_true rfl) rfl rfl (Nat.le_of_ble_eq_true rfl) rfl (Nat.le_of_ble_eq_true rfl) rfl (Nat.le_refl _) (Nat.le_refl _) rfl rfl ?_
          refine x_isMinute S t  (fun c6 => ?_) (fun c6 => ?_)
          · show Wp (d + 4) 0 0 M_X11_holds 35 [some (.inr (.inr 2)), some (.inl i), some (.inl s), some (.inl t), some (.inr (.inr (xb h)))] [.inl 1] h _
            refine p_if_ne_t 40 rfl rfl (by decide) ?_
            refine p_aload 41 rfl rfl rfl ?_
            refine p_getfr (j := 4) (z := 24) 44 rfl rfl rfl (tg_2 S) rfl (fi_2_4 S) ?_
            refine p_aload 46 rfl rfl rfl ?_
            refine p_iload 47 rfl rfl rfl ?_
            refine p_iload 48 rfl rfl rfl ?_
            refine p_callv (le := [some (.inr (.inr 24)), some (.inr (.inr (xb h))), some (.inl s), some (.inl t), none]) (as := [.inr (.inr 24), .inr (.inr (xb h)), .inl s, .inl t]) (rest := []) 51 0 0 0 0 rfl rfl (Nat.le_of_ble_eq_true rfl) rfl (Nat.le_of_ble_eq_true rfl) rfl rfl (Nat.le_of_ble_eq_true rfl) rfl (Nat.le_of_ble_eq_true rfl) rfl (Nat.le_refl _) (Nat.le_refl _) rfl rfl (tg_24 S) ?_
            refine x_prepare S (xb h) s t Ro0 F c5 c6 (fun y7 p7 S7 => ?_)
            have kp7 : Keep xA h y7 := (p7.1.wide pA_xA)
            show Wp (d + 4) 0 0 M_X11_holds 51 [some (.inr (.inr 2)), some (.inl i), some (.inl s), some (.inl t), some (.inr (.inr (xb h)))] [] y7 _
            refine p_aload 52 rfl rfl rfl ?_
            refine p_getfr (j := 4) (z := 24) 55 rfl rfl rfl (tg_2 S7) rfl (fi_2_4 S7) ?_
            refine p_iload 56 rfl rfl rfl ?_
            refine p_callv (le := [some (.inr (.inr 24)), some (.inl i)]) (as := [.inr (.inr 24), .inl i]) (rest := []) 59 0 0 0 0 rfl rfl (Nat.le_of_ble_eq_true rfl) rfl (Nat.le_of_ble_eq_true rfl) rfl rfl (Nat.le_of_ble_eq_true rfl) rfl (Nat.le_of_ble_eq_true rfl) rfl (Nat.le_refl _) (Nat.le_refl _) rfl rfl (tg_24 S7) ?_
            refine p_aload 1 rfl rfl rfl ?_
            refine p_getfl (j := 3) (z := gv y7 24 3) 4 rfl rfl rfl (tg_24 S7) rfl rfl ?_
            refine p_iload 5 rfl rfl rfl ?_
            refine p_lshr (z := (gv y7 24 3) / 2 ^ (i).toNat) 6 rfl rfl (by omega) (by omega) rfl ?_
            refine p_lconst 7 rfl rfl ?_
            refine p_land (z := ((gv y7 24 3) / 2 ^ (i).toNat) % 2) 8 rfl rfl (mask64 1 rfl (by decide)) ?_
            refine p_lconst 9 rfl rfl ?_
            refine p_lc_eq 10 13 17 rfl rfl rfl rfl rfl (fun c8 => ?_) (fun c8 => ?_)
            · skip
              refine p_const 18 rfl rfl ?_
              refine p_zret rfl rfl (by decide) ?_
              show Wp (d + 4) 0 0 M_X11_holds 59 [some (.inr (.inr 2)), some (.inl i), some (.inl s), some (.inl t), some (.inr (.inr (xb h)))] [.inl 0] y7 _
              refine p_if_eq_t 66 rfl rfl (by decide) ?_
              refine p_const 67 rfl rfl ?_
              refine p_iret rfl rfl ?_
              -- leaf 3: answer [.inl 0] h=y7  kp7
              have hb : (gv y7 24 3) / 2 ^ (i).toNat % 2 = tv h (kb h) s t (zh h t) i := (p7.2.2.2 i (by omega) (by rw [p7.1.1 79 _ rfl]; omega)).trans (tv_congr (kp7.wide xA_bkB) _ _ _ _ _)
              exact K _ _ ⟨kp7, Or.inr ⟨⟨by omega, by omega, c5, c6⟩, by omega⟩⟩ S7
            · skip
              refine p_const 14 rfl rfl ?_
              refine p_goto 18 rfl rfl ?_
              refine p_zret rfl rfl (by decide) ?_
              show Wp (d + 4) 0 0 M_X11_holds 59 [some (.inr (.inr 2)), some (.inl i), some (.inl s), some (.inl t), some (.inr (.inr (xb h)))] [.inl 1] y7 _
              refine p_if_eq_f 62 rfl rfl (by decide) ?_
              refine p_const 63 rfl rfl ?_
              refine p_goto 67 rfl rfl ?_
              refine p_iret rfl rfl ?_
              -- leaf 4: answer [.inl 1] h=y7  kp7
              have hb : (gv y7 24 3) / 2 ^ (i).toNat % 2 = tv h (kb h) s t (zh h t) i := (p7.2.2.2 i (by omega) (by rw [p7.1.1 79 _ rfl]; omega)).trans (tv_congr (kp7.wide xA_bkB) _ _ _ _ _)
              exact K _ _ ⟨kp7, Or.inr ⟨⟨by omega, by omega, c5, c6⟩, by omega⟩⟩ S7
          · show Wp (d + 4) 0 0 M_X11_holds 35 [some (.inr (.inr 2)), some (.inl i), some (.inl s), some (.inl t), some (.inr (.inr (xb h)))] [.inl 0] h _
            refine p_if_ne_f 38 rfl rfl (by decide) ?_
            refine p_const 39 rfl rfl ?_
            refine p_iret rfl rfl ?_
            -- leaf 5: answer [.inl (-1)] h=h 
            exact K _ _ ⟨Keep.rf _ _, Or.inl ⟨fun z => by have := z.2.2; omega, rfl⟩⟩ S
        · show Wp (d + 4) 0 0 M_X11_holds 28 [some (.inr (.inr 2)), some (.inl i), some (.inl s), some (.inl t), some (.inr (.inr (xb h)))] [.inl 0] h _
          refine p_if_eq_t 38 rfl rfl (by decide) ?_
          refine p_const 39 rfl rfl ?_
          refine p_iret rfl rfl ?_
          -- leaf 6: answer [.inl (-1)] h=h 
          exact K _ _ ⟨Keep.rf _ _, Or.inl ⟨fun z => by have := z.2.2; omega, rfl⟩⟩ S
theorem m_holds {d : Nat} {h : PH} {q : PQ} (S : Shape h) (A : AI h) (F : FI h) (i s t : Int) (K : ∀ r h', (Keep mhA h h' ∧ HldR h i s t r) → Shape h' → q (some (.inl r)) h') : Wp (d + 4) 0 0 M_X12_holds 0 [some (.inr (.inr 66)), some (.inl i), some (.inl s), some (.inl t)] [] h q := by
  have A0 := A
  have nwi := nw_in A
  have kb0 := A.kb
  have n79 : kb h = 0 ∨ (0 ≤ gv h 79 (kb h) ∧ gv h 79 (kb h) ≤ 40) := by
    rcases kb0 with ⟨z, _⟩ | ⟨_, _, _, R⟩
    · exact Or.inl z
    · exact Or.inr ⟨R.1, R.2.1⟩
  refine p_aload 1 rfl rfl rfl ?_
  refine p_iload 2 rfl rfl rfl ?_
  refine p_callv (le := [some (.inr (.inr 66)), some (.inl i), none]) (as := [.inr (.inr 66), .inl i]) (rest := []) 5 0 0 0 0 rfl rfl (Nat.le_of_ble_eq_true rfl) rfl (Nat.le_of_ble_eq_true rfl) rfl rfl (Nat.le_of_ble_eq_true rfl) rfl (Nat.le_of_ble_eq_true rfl) rfl (Nat.le_refl _) (Nat.le_refl _) rfl rfl (tg_66 S) ?_
  refine p_aload 1 rfl rfl rfl ?_
  refine p_aload 2 rfl rfl rfl ?_
  refine p_callv (le := [some (.inr (.inr 66))]) (as := [.inr (.inr 66)]) (rest := [.inr (.inr 66)]) 5 0 0 0 0 rfl rfl (Nat.le_of_ble_eq_true rfl) rfl (Nat.le_of_ble_eq_true rfl) rfl rfl (Nat.le_of_ble_eq_true rfl) rfl (Nat.le_of_ble_eq_true rfl) rfl (Nat.le_refl _) (Nat.le_refl _) rfl rfl (tg_66 S) ?_
  refine m_now S  (A0) ?_
  show Wp (d + 3) 0 0 M_X12_isSense 5 [some (.inr (.inr 66)), some (.inl i), none] [.inl (nw h), .inr (.inr 66)] h _
  refine p_callv (le := [some (.inr (.inr 66)), some (.inl (nw h)), none, none]) (as := [.inr (.inr 66), .inl (nw h)]) (rest := []) 8 0 0 0 0 rfl rfl (Nat.le_of_ble_eq_true rfl) rfl (Nat.le_of_ble_eq_true rfl) rfl rfl (Nat.le_of_ble_eq_true rfl) rfl (Nat.le_of_ble_eq_true rfl) rfl (Nat.le_refl _) (Nat.le_refl _) rfl rfl (tg_66 S) ?_
  refine m_bookAt S (nw h) A (by omega) (by omega) ?_
  show Wp (d + 3) 0 0 M_X12_isSense 8 [some (.inr (.inr 66)), some (.inl i), none] [.inl (kb h)] h _
  refine p_istore (ls' := [some (.inr (.inr 66)), some (.inl i), some (.inl (kb h))]) 9 rfl rfl (Nat.le_of_ble_eq_true rfl) rfl ?_
  refine p_iload 10 rfl rfl rfl ?_
  refine p_if_le 13 35 rfl rfl rfl (fun c2 => ?_) (fun c2 => ?_)
  · skip
    refine p_const 36 rfl rfl ?_
    refine p_zret rfl rfl (by decide) ?_
    show Wp (d + 4) 0 0 M_X12_holds 5 [some (.inr (.inr 66)), some (.inl i), some (.inl s), some (.inl t)] [.inl 0] h _
    refine p_if_eq_t 22 rfl rfl (by decide) ?_
    refine p_const 23 rfl rfl ?_
    refine p_goto 49 rfl rfl ?_
    refine p_iret rfl rfl ?_
    -- leaf 1: answer [.inl (-1)] h=h 
    exact K _ _ ⟨Keep.rf _ _, Or.inl ⟨fun z => by have := z.1; omega, rfl⟩⟩ S
  · skip
    refine p_iload 14 rfl rfl rfl ?_
    refine p_i2l 15 rfl rfl ?_
    refine p_lconst 16 rfl rfl ?_
    refine p_aload 17 rfl rfl rfl ?_
    refine p_getfr (j := 20) (z := 79) 20 rfl rfl rfl (tg_66 S) rfl (fi_66_20 S) ?_
    refine p_iload 21 rfl rfl rfl ?_
    refine p_iald (w := 201) (z := gv h 79 (kb h)) 22 rfl rfl (tg_79 S) (ln_79 S) (by omega) (by omega) rfl ?_
    refine p_const 23 rfl rfl ?_
    refine p_isub (z := (gv h 79 (kb h)) - 1) 24 rfl rfl (w32_id ⟨(by omega), (by omega)⟩) ?_
    refine p_i2l 25 rfl rfl ?_
    refine p_calls (le := [some (.inr (.inl i)), none, some (.inr (.inl 0)), none, some (.inr (.inl ((gv h 79 (kb h)) - 1))), none]) (as := [.inr (.inl i), .inr (.inl 0), .inr (.inl ((gv h 79 (kb h)) - 1))]) (rest := []) 28 0 0 0 0 rfl rfl (Nat.le_of_ble_eq_true rfl) rfl (Nat.le_of_ble_eq_true rfl) rfl rfl (Nat.le_of_ble_eq_true rfl) rfl (Nat.le_of_ble_eq_true rfl) rfl (Nat.le_refl _) (Nat.le_refl _) rfl rfl ?_
    refine m_isIn S i 0 ((gv h 79 (kb h)) - 1)  (fun c3 => ?_) (fun c3 => ?_)
    · show Wp (d + 3) 0 0 M_X12_isSense 28 [some (.inr (.inr 66)), some (.inl i), some (.inl (kb h))] [.inl 1] h _
      refine p_if_eq_f 31 rfl rfl (by decide) ?_
      refine p_const 32 rfl rfl ?_
      refine p_goto 36 rfl rfl ?_
      refine p_zret rfl rfl (by decide) ?_
      show Wp (d + 4) 0 0 M_X12_holds 5 [some (.inr (.inr 66)), some (.inl i), some (.inl s), some (.inl t)] [.inl 1] h _
      refine p_if_eq_f 8 rfl rfl (by decide) ?_
      refine p_iload 9 rfl rfl rfl ?_
      refine p_calls (le := [some (.inl s)]) (as := [.inl s]) (rest := []) 12 0 0 0 0 rfl rfl (Nat.le_of_ble_eq_true rfl) rfl (Nat.le_of_ble_eq_true rfl) rfl rfl (Nat.le_of_ble_eq_true rfl) rfl (Nat.le_of_ble_eq_true rfl) rfl (Nat.le_refl _) (Nat.le_refl _) rfl rfl ?_
      refine m_isShip S s  (fun c4 => ?_) (fun c4 => ?_)
      · show Wp (d + 4) 0 0 M_X12_holds 12 [some (.inr (.inr 66)), some (.inl i), some (.inl s), some (.inl t)] [.inl 1] h _
        refine p_if_eq_f 15 rfl rfl (by decide) ?_
        refine p_iload 16 rfl rfl rfl ?_
        refine p_calls (le := [some (.inl t)]) (as := [.inl t]) (rest := []) 19 0 0 0 0 rfl rfl (Nat.le_of_ble_eq_true rfl) rfl (Nat.le_of_ble_eq_true rfl) rfl rfl (Nat.le_of_ble_eq_true rfl) rfl (Nat.le_of_ble_eq_true rfl) rfl (Nat.le_refl _) (Nat.le_refl _) rfl rfl ?_
        refine m_isMinute S t  (fun c5 => ?_) (fun c5 => ?_)
        · show Wp (d + 4) 0 0 M_X12_holds 19 [some (.inr (.inr 66)), some (.inl i), some (.inl s), some (.inl t)] [.inl 1] h _
          refine p_if_ne_t 26 rfl rfl (by decide) ?_
          refine p_aload 27 rfl rfl rfl ?_
          refine p_aload 28 rfl rfl rfl ?_
          refine p_aload 29 rfl rfl rfl ?_
          refine p_callv (le := [some (.inr (.inr 66))]) (as := [.inr (.inr 66)]) (rest := [.inr (.inr 66), .inr (.inr 66)]) 32 0 0 0 0 rfl rfl (Nat.le_of_ble_eq_true rfl) rfl (Nat.le_of_ble_eq_true rfl) rfl rfl (Nat.le_of_ble_eq_true rfl) rfl (Nat.le_of_ble_eq_true rfl) rfl (Nat.le_refl _) (Nat.le_refl _) rfl rfl (tg_66 S) ?_
          refine m_now S  (A0) ?_
          show Wp (d + 4) 0 0 M_X12_holds 32 [some (.inr (.inr 66)), some (.inl i), some (.inl s), some (.inl t)] [.inl (nw h), .inr (.inr 66), .inr (.inr 66)] h _
          refine p_callv (le := [some (.inr (.inr 66)), some (.inl (nw h)), none, none]) (as := [.inr (.inr 66), .inl (nw h)]) (rest := [.inr (.inr 66)]) 35 0 0 0 0 rfl rfl (Nat.le_of_ble_eq_true rfl) rfl (Nat.le_of_ble_eq_true rfl) rfl rfl (Nat.le_of_ble_eq_true rfl) rfl (Nat.le_of_ble_eq_true rfl) rfl (Nat.le_refl _) (Nat.le_refl _) rfl rfl (tg_66 S) ?_
          refine m_bookAt S (nw h) A (by omega) (by omega) ?_
          show Wp (d + 4) 0 0 M_X12_holds 35 [some (.inr (.inr 66)), some (.inl i), some (.inl s), some (.inl t)] [.inl (kb h), .inr (.inr 66)] h _
          refine p_iload 36 rfl rfl rfl ?_
          obtain ⟨k1, k2, _, r1, r2, pl, r3, r4, Bk, Is⟩ : 1 ≤ kb h ∧ kb h ≤ 200 ∧ 128 ≤ xb h ∧ BkR h (xb h) (kb h) := by rcases kb0 with w | w; omega; exact w
          have Ii := Is i (by omega) (by omega)
          have t01 := BkR.tv_in (z := zh h t) ⟨r1, r2, pl, r3, r4, Bk, Is⟩ c4 c5 (zh_in F c5.1 c5.2) c3.1 (by omega)
          refine p_iload 37 rfl rfl rfl ?_
          refine p_iload 38 rfl rfl rfl ?_
          refine p_callv (le := [some (.inr (.inr 66)), some (.inl (kb h)), some (.inl i), some (.inl s), some (.inl t), none, none, none]) (as := [.inr (.inr 66), .inl (kb h), .inl i, .inl s, .inl t]) (rest := []) 41 0 0 0 0 rfl rfl (Nat.le_of_ble_eq_true rfl) rfl (Nat.le_of_ble_eq_true rfl) rfl rfl (Nat.le_of_ble_eq_true rfl) rfl (Nat.le_of_ble_eq_true rfl) rfl (Nat.le_refl _) (Nat.le_refl _) rfl rfl (tg_66 S) ?_
          refine m_holdsTest S (kb h) i s t c4 c5 (by omega) (by omega) (by omega) (by omega) F Ii r4 (fun r7 y7 p7 S7 => ?_)
          show Wp (d + 4) 0 0 M_X12_holds 41 [some (.inr (.inr 66)), some (.inl i), some (.inl s), some (.inl t)] [.inl r7] y7 _
          refine p_if_eq 44 48 rfl rfl rfl (fun c8 => ?_) (fun c8 => ?_)
          · skip
            refine p_const 49 rfl rfl ?_
            refine p_iret rfl rfl ?_
            -- leaf 2: answer [.inl 0] h=y7 
            exact K _ _ ⟨p7.1, Or.inr ⟨⟨by omega, by omega, c4, c5⟩, (show (0 : Int) = r7 by omega).trans p7.2⟩⟩ S7
          · skip
            refine p_const 45 rfl rfl ?_
            refine p_goto 49 rfl rfl ?_
            refine p_iret rfl rfl ?_
            -- leaf 3: answer [.inl 1] h=y7 
            have e7 : r7 = tv h (kb h) s t (zh h t) i := p7.2
            exact K _ _ ⟨p7.1, Or.inr ⟨⟨by omega, by omega, c4, c5⟩, by omega⟩⟩ S7
        · show Wp (d + 4) 0 0 M_X12_holds 19 [some (.inr (.inr 66)), some (.inl i), some (.inl s), some (.inl t)] [.inl 0] h _
          refine p_if_ne_f 22 rfl rfl (by decide) ?_
          refine p_const 23 rfl rfl ?_
          refine p_goto 49 rfl rfl ?_
          refine p_iret rfl rfl ?_
          -- leaf 4: answer [.inl (-1)] h=h 
          exact K _ _ ⟨Keep.rf _ _, Or.inl ⟨fun z => by have := z.2.2; omega, rfl⟩⟩ S
      · show Wp (d + 4) 0 0 M_X12_holds 12 [some (.inr (.inr 66)), some (.inl i), some (.inl s), some (.inl t)] [.inl 0] h _
        refine p_if_eq_t 22 rfl rfl (by decide) ?_
        refine p_const 23 rfl rfl ?_
        refine p_goto 49 rfl rfl ?_
        refine p_iret rfl rfl ?_
        -- leaf 5: answer [.inl (-1)] h=h 
        exact K _ _ ⟨Keep.rf _ _, Or.inl ⟨fun z => by have := z.2.2; omega, rfl⟩⟩ S
    · show Wp (d + 3) 0 0 M_X12_isSense 28 [some (.inr (.inr 66)), some (.inl i), some (.inl (kb h))] [.inl 0] h _
      refine p_if_eq_t 35 rfl rfl (by decide) ?_
      refine p_const 36 rfl rfl ?_
      refine p_zret rfl rfl (by decide) ?_
      show Wp (d + 4) 0 0 M_X12_holds 5 [some (.inr (.inr 66)), some (.inl i), some (.inl s), some (.inl t)] [.inl 0] h _
      refine p_if_eq_t 22 rfl rfl (by decide) ?_
      refine p_const 23 rfl rfl ?_
      refine p_goto 49 rfl rfl ?_
      refine p_iret rfl rfl ?_
      -- leaf 6: answer [.inl (-1)] h=h 
      exact K _ _ ⟨Keep.rf _ _, Or.inl ⟨fun z => by have := z.2; omega, rfl⟩⟩ S
theorem x_fault {d : Nat} {h : PH} {q : PQ} (S : Shape h) (k : Int) (K : q (some (.inl (if k = 0 then gv h 11 6 else if k = 1 then gv h 11 7 else -1))) h) : Wp (d + 1) 0 0 M_X11_fault 0 [some (.inr (.inr 2)), some (.inl k)] [] h q := by
  refine p_iload 1 rfl rfl rfl ?_
  refine p_if_ne 4 12 rfl rfl rfl (fun c1 => ?_) (fun c1 => ?_)
  · skip
    refine p_iload 13 rfl rfl rfl ?_
    refine p_const 14 rfl rfl ?_
    refine p_ic_ne 17 27 rfl rfl rfl (fun c2 => ?_) (fun c2 => ?_)
    · skip
      refine p_const 28 rfl rfl ?_
      refine p_iret rfl rfl ?_
      -- leaf 1: answer [.inl (-1)] h=h 
      first | (rw [if_pos (by omega)] at K; exact K) | (rw [if_neg (by omega), if_pos (by omega)] at K; exact K) | (rw [if_neg (by omega), if_neg (by omega)] at K; exact K)
    · skip
      refine p_aload 18 rfl rfl rfl ?_
      refine p_getfr (j := 2) (z := 11) 21 rfl rfl rfl (tg_2 S) rfl (fi_2_2 S) ?_
      refine p_getfi (j := 7) (z := gv h 11 7) 24 rfl rfl rfl (tg_11 S) rfl rfl ?_
      refine p_goto 28 rfl rfl ?_
      refine p_iret rfl rfl ?_
      -- leaf 2: answer [.inl (gv h 11 7)] h=h 
      first | (rw [if_pos (by omega)] at K; exact K) | (rw [if_neg (by omega), if_pos (by omega)] at K; exact K) | (rw [if_neg (by omega), if_neg (by omega)] at K; exact K)
  · skip
    refine p_aload 5 rfl rfl rfl ?_
    refine p_getfr (j := 2) (z := 11) 8 rfl rfl rfl (tg_2 S) rfl (fi_2_2 S) ?_
    refine p_getfi (j := 6) (z := gv h 11 6) 11 rfl rfl rfl (tg_11 S) rfl rfl ?_
    refine p_iret rfl rfl ?_
    -- leaf 3: answer [.inl (gv h 11 6)] h=h 
    first | (rw [if_pos (by omega)] at K; exact K) | (rw [if_neg (by omega), if_pos (by omega)] at K; exact K) | (rw [if_neg (by omega), if_neg (by omega)] at K; exact K)
theorem m_fault {d : Nat} {h : PH} {q : PQ} (S : Shape h) (k : Int) (K : q (some (.inl (if k = 0 then gv h 66 7 else if k = 1 then gv h 66 8 else -1))) h) : Wp (d + 1) 0 0 M_X12_fault 0 [some (.inr (.inr 66)), some (.inl k)] [] h q := by
  refine p_iload 1 rfl rfl rfl ?_
  refine p_if_ne 4 11 rfl rfl rfl (fun c1 => ?_) (fun c1 => ?_)
  · skip
    refine p_iload 12 rfl rfl rfl ?_
    refine p_const 13 rfl rfl ?_
    refine p_ic_ne 16 23 rfl rfl rfl (fun c2 => ?_) (fun c2 => ?_)
    · skip
      refine p_const 24 rfl rfl ?_
      refine p_iret rfl rfl ?_
      -- leaf 1: answer [.inl (-1)] h=h 
      first | (rw [if_pos (by omega)] at K; exact K) | (rw [if_neg (by omega), if_pos (by omega)] at K; exact K) | (rw [if_neg (by omega), if_neg (by omega)] at K; exact K)
    · skip
      refine p_aload 17 rfl rfl rfl ?_
      refine p_getfi (j := 8) (z := gv h 66 8) 20 rfl rfl rfl (tg_66 S) rfl rfl ?_
      refine p_goto 24 rfl rfl ?_
      refine p_iret rfl rfl ?_
      -- leaf 2: answer [.inl (gv h 66 8)] h=h 
      first | (rw [if_pos (by omega)] at K; exact K) | (rw [if_neg (by omega), if_pos (by omega)] at K; exact K) | (rw [if_neg (by omega), if_neg (by omega)] at K; exact K)
  · skip
    refine p_aload 5 rfl rfl rfl ?_
    refine p_getfi (j := 7) (z := gv h 66 7) 8 rfl rfl rfl (tg_66 S) rfl rfl ?_
    refine p_goto 24 rfl rfl ?_
    refine p_iret rfl rfl ?_
    -- leaf 3: answer [.inl (gv h 66 7)] h=h 
    first | (rw [if_pos (by omega)] at K; exact K) | (rw [if_neg (by omega), if_pos (by omega)] at K; exact K) | (rw [if_neg (by omega), if_neg (by omega)] at K; exact K)

