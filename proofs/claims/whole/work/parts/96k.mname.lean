/-! THE MODEL'S READER: OWN WORDS, NAMES -/
theorem w_sense : wf (chr [115, 101, 110, 115, 101]) 5 = 20101733 := by decide
theorem w_is : wf (chr [105, 115]) 2 = 307 := by decide
theorem w_for : wf (chr [102, 111, 114]) 3 = 6642 := by decide
theorem own_of {v w : Int} (e : v = w) (h : own w) : own v := by rw [e]; exact h
/-- the model can read on at token i -/
def RdN (h : PH) (T : Int → Int) (n : Int) (L : List Tok) (i : Nat) : Prop := (TxM h T n ∧ WrdI h) ∧ MAt h T n L i ∧ gv h 66 5 = 0
theorem RdN.lk {h h' : PH} {T : Int → Int} {n : Int} {L : List Tok} {i j : Nat} (R : RdN h T n L i) (k : Keep tkA h h') (M : MAt h' T n L j) : RdN h' T n L j := ⟨⟨R.1.1.kp (k.1 66 3 rfl) (fun i => k.1 67 i rfl), R.1.2.kp k (fun a i x y => decide_eq_false (by omega))⟩, M, (k.1 66 5 rfl).trans R.2.2⟩
theorem m_isOwnHere {d : Nat} {h : PH} {q : PQ} (S : Shape h) {T : Int → Int} {n : Int} {L : List Tok} {i : Nat} (O : TxO T n) (LX : LexA T n L) (R : RdN h T n L i)
    (K : ∀ r h', (Keep lukA h h' ∧ MAt h' T n L i ∧ gv h' 66 2 = (tk L i).2.1 ∧ ((r = 1 ∧ (tk L i).1 = 1 ∧ own (tk L i).2.2.2) ∨ (r = 0 ∧ ¬ ((tk L i).1 = 1 ∧ own (tk L i).2.2.2)))) → Shape h' → q (some (.inl r)) h') :
    Wp (d + 3) 0 0 M_X12_isOwnHere 0 [some (.inr (.inr 66)), none] [] h q := by
  have k0 := Keep.rf lukA h
  have WW := R.1.2.1
  refine p_aload 1 rfl rfl rfl ?_
  refine p_aload 2 rfl rfl rfl ?_
  refine p_getfr (j := 9) (z := 68) 5 rfl rfl rfl (tg_66 S) rfl (fi_66_9 S) ?_
  refine p_callv (le := [some (.inr (.inr 66)), some (.inr (.inr 68)), none, none]) (as := [.inr (.inr 66), .inr (.inr 68)]) (rest := []) 8 0 0 0 0 rfl rfl (Nat.le_of_ble_eq_true rfl) rfl (Nat.le_of_ble_eq_true rfl) rfl rfl (Nat.le_of_ble_eq_true rfl) rfl (Nat.le_of_ble_eq_true rfl) rfl (Nat.le_refl _) (Nat.le_refl _) rfl rfl (tg_66 S) ?_
  refine m_isHere S 68 WW (by decide) O R.1.1 LX R.2.1 R.2.2 (fun y1 p1 S1 => ?_) (fun y1 p1 S1 => ?_)
  · show Wp (d + 3) 0 0 M_X12_isOwnHere 8 [some (.inr (.inr 66)), none] [.inl 1] y1 _
    have kp1 : Keep lukA h y1 := k0.trans p1.1
    refine p_if_ne_t 66 rfl rfl (by decide) ?_
    refine p_const 67 rfl rfl ?_
    refine p_goto 71 rfl rfl ?_
    refine p_istore (ls' := [some (.inr (.inr 66)), some (.inl 1)]) 72 rfl rfl (Nat.le_of_ble_eq_true rfl) rfl ?_
    refine p_iload 73 rfl rfl rfl ?_
    refine p_if_ne_t 131 rfl rfl (by decide) ?_
    refine p_const 132 rfl rfl ?_
    refine p_goto 136 rfl rfl ?_
    refine p_zret rfl rfl (by decide) ?_
    -- leaf 1: answer [.inl 1] h=y1  kp1
    exact K 1 _ ⟨kp1, p1.2.2.2.1, p1.2.2.2.2, Or.inl ⟨rfl, p1.2.1.1, own_of (p1.2.1.2.trans w_sense) (by unfold own; decide)⟩⟩ S1
  · show Wp (d + 3) 0 0 M_X12_isOwnHere 8 [some (.inr (.inr 66)), none] [.inl 0] y1 _
    have kp1 : Keep lukA h y1 := k0.trans p1.1
    have n1 : ¬ isWd L i 20101733 := by have z := p1.2.1; rw [w_sense] at z; exact z
    have R := R.lk (p1.1.wide lukA_tkA) p1.2.2.1
    have WW := R.1.2.2.1
    refine p_if_ne_f 11 rfl rfl (by decide) ?_
    refine p_aload 12 rfl rfl rfl ?_
    refine p_aload 13 rfl rfl rfl ?_
    refine p_getfr (j := 10) (z := 69) 16 rfl rfl rfl (tg_66 S1) rfl (fi_66_10 S1) ?_
    refine p_callv (le := [some (.inr (.inr 66)), some (.inr (.inr 69)), none, none]) (as := [.inr (.inr 66), .inr (.inr 69)]) (rest := []) 19 0 0 0 0 rfl rfl (Nat.le_of_ble_eq_true rfl) rfl (Nat.le_of_ble_eq_true rfl) rfl rfl (Nat.le_of_ble_eq_true rfl) rfl (Nat.le_of_ble_eq_true rfl) rfl (Nat.le_refl _) (Nat.le_refl _) rfl rfl (tg_66 S1) ?_
    refine m_isHere S1 69 WW (by decide) O R.1.1 LX R.2.1 R.2.2 (fun y2 p2 S2 => ?_) (fun y2 p2 S2 => ?_)
    · show Wp (d + 3) 0 0 M_X12_isOwnHere 19 [some (.inr (.inr 66)), none] [.inl 1] y2 _
      have kp2 : Keep lukA h y2 := kp1.trans p2.1
      refine p_if_ne_t 66 rfl rfl (by decide) ?_
      refine p_const 67 rfl rfl ?_
      refine p_goto 71 rfl rfl ?_
      refine p_istore (ls' := [some (.inr (.inr 66)), some (.inl 1)]) 72 rfl rfl (Nat.le_of_ble_eq_true rfl) rfl ?_
      refine p_iload 73 rfl rfl rfl ?_
      refine p_if_ne_t 131 rfl rfl (by decide) ?_
      refine p_const 132 rfl rfl ?_
      refine p_goto 136 rfl rfl ?_
      refine p_zret rfl rfl (by decide) ?_
      -- leaf 2: answer [.inl 1] h=y2  kp2
      exact K 1 _ ⟨kp2, p2.2.2.2.1, p2.2.2.2.2, Or.inl ⟨rfl, p2.2.1.1, own_of (p2.2.1.2.trans w_is) (by unfold own; decide)⟩⟩ S2
    · show Wp (d + 3) 0 0 M_X12_isOwnHere 19 [some (.inr (.inr 66)), none] [.inl 0] y2 _
      have kp2 : Keep lukA h y2 := kp1.trans p2.1
      have n2 : ¬ isWd L i 307 := by have z := p2.2.1; rw [w_is] at z; exact z
      have R := R.lk (p2.1.wide lukA_tkA) p2.2.2.1
      have WW := R.1.2.2.2.1
      refine p_if_ne_f 22 rfl rfl (by decide) ?_
      refine p_aload 23 rfl rfl rfl ?_
      refine p_aload 24 rfl rfl rfl ?_
      refine p_getfr (j := 11) (z := 70) 27 rfl rfl rfl (tg_66 S2) rfl (fi_66_11 S2) ?_
      refine p_callv (le := [some (.inr (.inr 66)), some (.inr (.inr 70)), none, none]) (as := [.inr (.inr 66), .inr (.inr 70)]) (rest := []) 30 0 0 0 0 rfl rfl (Nat.le_of_ble_eq_true rfl) rfl (Nat.le_of_ble_eq_true rfl) rfl rfl (Nat.le_of_ble_eq_true rfl) rfl (Nat.le_of_ble_eq_true rfl) rfl (Nat.le_refl _) (Nat.le_refl _) rfl rfl (tg_66 S2) ?_
      refine m_isHere S2 70 WW (by decide) O R.1.1 LX R.2.1 R.2.2 (fun y3 p3 S3 => ?_) (fun y3 p3 S3 => ?_)
      · show Wp (d + 3) 0 0 M_X12_isOwnHere 30 [some (.inr (.inr 66)), none] [.inl 1] y3 _
        have kp3 : Keep lukA h y3 := kp2.trans p3.1
        refine p_if_ne_t 66 rfl rfl (by decide) ?_
        refine p_const 67 rfl rfl ?_
        refine p_goto 71 rfl rfl ?_
        refine p_istore (ls' := [some (.inr (.inr 66)), some (.inl 1)]) 72 rfl rfl (Nat.le_of_ble_eq_true rfl) rfl ?_
        refine p_iload 73 rfl rfl rfl ?_
        refine p_if_ne_t 131 rfl rfl (by decide) ?_
        refine p_const 132 rfl rfl ?_
        refine p_goto 136 rfl rfl ?_
        refine p_zret rfl rfl (by decide) ?_
        -- leaf 3: answer [.inl 1] h=y3  kp3
        exact K 1 _ ⟨kp3, p3.2.2.2.1, p3.2.2.2.2, Or.inl ⟨rfl, p3.2.1.1, own_of (p3.2.1.2.trans w_for) (by unfold own; decide)⟩⟩ S3
      · show Wp (d + 3) 0 0 M_X12_isOwnHere 30 [some (.inr (.inr 66)), none] [.inl 0] y3 _
        have kp3 : Keep lukA h y3 := kp2.trans p3.1
        have n3 : ¬ isWd L i 6642 := by have z := p3.2.1; rw [w_for] at z; exact z
        have R := R.lk (p3.1.wide lukA_tkA) p3.2.2.1
        have WW := R.1.2.2.2.2.1
        refine p_if_ne_f 33 rfl rfl (by decide) ?_
        refine p_aload 34 rfl rfl rfl ?_
        refine p_aload 35 rfl rfl rfl ?_
        refine p_getfr (j := 12) (z := 71) 38 rfl rfl rfl (tg_66 S3) rfl (fi_66_12 S3) ?_
        refine p_callv (le := [some (.inr (.inr 66)), some (.inr (.inr 71)), none, none]) (as := [.inr (.inr 66), .inr (.inr 71)]) (rest := []) 41 0 0 0 0 rfl rfl (Nat.le_of_ble_eq_true rfl) rfl (Nat.le_of_ble_eq_true rfl) rfl rfl (Nat.le_of_ble_eq_true rfl) rfl (Nat.le_of_ble_eq_true rfl) rfl (Nat.le_refl _) (Nat.le_refl _) rfl rfl (tg_66 S3) ?_
        refine m_isHere S3 71 WW (by decide) O R.1.1 LX R.2.1 R.2.2 (fun y4 p4 S4 => ?_) (fun y4 p4 S4 => ?_)
        · show Wp (d + 3) 0 0 M_X12_isOwnHere 41 [some (.inr (.inr 66)), none] [.inl 1] y4 _
          have kp4 : Keep lukA h y4 := kp3.trans p4.1
          refine p_if_ne_t 66 rfl rfl (by decide) ?_
          refine p_const 67 rfl rfl ?_
          refine p_goto 71 rfl rfl ?_
          refine p_istore (ls' := [some (.inr (.inr 66)), some (.inl 1)]) 72 rfl rfl (Nat.le_of_ble_eq_true rfl) rfl ?_
          refine p_iload 73 rfl rfl rfl ?_
          refine p_if_ne_t 131 rfl rfl (by decide) ?_
          refine p_const 132 rfl rfl ?_
          refine p_goto 136 rfl rfl ?_
          refine p_zret rfl rfl (by decide) ?_
          -- leaf 4: answer [.inl 1] h=y4  kp4
          exact K 1 _ ⟨kp4, p4.2.2.2.1, p4.2.2.2.2, Or.inl ⟨rfl, p4.2.1.1, own_of (p4.2.1.2.trans w_or) (by unfold own; decide)⟩⟩ S4
        · show Wp (d + 3) 0 0 M_X12_isOwnHere 41 [some (.inr (.inr 66)), none] [.inl 0] y4 _
          have kp4 : Keep lukA h y4 := kp3.trans p4.1
          have n4 : ¬ isWd L i 498 := by have z := p4.2.1; rw [w_or] at z; exact z
          have R := R.lk (p4.1.wide lukA_tkA) p4.2.2.1
          have WW := R.1.2.2.2.2.2.1
          refine p_if_ne_f 44 rfl rfl (by decide) ?_
          refine p_aload 45 rfl rfl rfl ?_
          refine p_aload 46 rfl rfl rfl ?_
          refine p_getfr (j := 13) (z := 72) 49 rfl rfl rfl (tg_66 S4) rfl (fi_66_13 S4) ?_
          refine p_callv (le := [some (.inr (.inr 66)), some (.inr (.inr 72)), none, none]) (as := [.inr (.inr 66), .inr (.inr 72)]) (rest := []) 52 0 0 0 0 rfl rfl (Nat.le_of_ble_eq_true rfl) rfl (Nat.le_of_ble_eq_true rfl) rfl rfl (Nat.le_of_ble_eq_true rfl) rfl (Nat.le_of_ble_eq_true rfl) rfl (Nat.le_refl _) (Nat.le_refl _) rfl rfl (tg_66 S4) ?_
          refine m_isHere S4 72 WW (by decide) O R.1.1 LX R.2.1 R.2.2 (fun y5 p5 S5 => ?_) (fun y5 p5 S5 => ?_)
          · show Wp (d + 3) 0 0 M_X12_isOwnHere 52 [some (.inr (.inr 66)), none] [.inl 1] y5 _
            have kp5 : Keep lukA h y5 := kp4.trans p5.1
            refine p_if_ne_t 66 rfl rfl (by decide) ?_
            refine p_const 67 rfl rfl ?_
            refine p_goto 71 rfl rfl ?_
            refine p_istore (ls' := [some (.inr (.inr 66)), some (.inl 1)]) 72 rfl rfl (Nat.le_of_ble_eq_true rfl) rfl ?_
            refine p_iload 73 rfl rfl rfl ?_
            refine p_if_ne_t 131 rfl rfl (by decide) ?_
            refine p_const 132 rfl rfl ?_
            refine p_goto 136 rfl rfl ?_
            refine p_zret rfl rfl (by decide) ?_
            -- leaf 5: answer [.inl 1] h=y5  kp5
            exact K 1 _ ⟨kp5, p5.2.2.2.1, p5.2.2.2.2, Or.inl ⟨rfl, p5.2.1.1, own_of (p5.2.1.2.trans w_and) (by unfold own; decide)⟩⟩ S5
          · show Wp (d + 3) 0 0 M_X12_isOwnHere 52 [some (.inr (.inr 66)), none] [.inl 0] y5 _
            have kp5 : Keep lukA h y5 := kp4.trans p5.1
            have n5 : ¬ isWd L i 1476 := by have z := p5.2.1; rw [w_and] at z; exact z
            have R := R.lk (p5.1.wide lukA_tkA) p5.2.2.1
            have WW := R.1.2.2.2.2.2.2.1
            refine p_if_ne_f 55 rfl rfl (by decide) ?_
            refine p_aload 56 rfl rfl rfl ?_
            refine p_aload 57 rfl rfl rfl ?_
            refine p_getfr (j := 14) (z := 73) 60 rfl rfl rfl (tg_66 S5) rfl (fi_66_14 S5) ?_
            refine p_callv (le := [some (.inr (.inr 66)), some (.inr (.inr 73)), none, none]) (as := [.inr (.inr 66), .inr (.inr 73)]) (rest := []) 63 0 0 0 0 rfl rfl (Nat.le_of_ble_eq_true rfl) rfl (Nat.le_of_ble_eq_true rfl) rfl rfl (Nat.le_of_ble_eq_true rfl) rfl (Nat.le_of_ble_eq_true rfl) rfl (Nat.le_refl _) (Nat.le_refl _) rfl rfl (tg_66 S5) ?_
            refine m_isHere S5 73 WW (by decide) O R.1.1 LX R.2.1 R.2.2 (fun y6 p6 S6 => ?_) (fun y6 p6 S6 => ?_)
            · show Wp (d + 3) 0 0 M_X12_isOwnHere 63 [some (.inr (.inr 66)), none] [.inl 1] y6 _
              have kp6 : Keep lukA h y6 := kp5.trans p6.1
              refine p_if_eq_f 66 rfl rfl (by decide) ?_
              refine p_const 67 rfl rfl ?_
              refine p_goto 71 rfl rfl ?_
              refine p_istore (ls' := [some (.inr (.inr 66)), some (.inl 1)]) 72 rfl rfl (Nat.le_of_ble_eq_true rfl) rfl ?_
              refine p_iload 73 rfl rfl rfl ?_
              refine p_if_ne_t 131 rfl rfl (by decide) ?_
              refine p_const 132 rfl rfl ?_
              refine p_goto 136 rfl rfl ?_
              refine p_zret rfl rfl (by decide) ?_
              -- leaf 6: answer [.inl 1] h=y6  kp6
              exact K 1 _ ⟨kp6, p6.2.2.2.1, p6.2.2.2.2, Or.inl ⟨rfl, p6.2.1.1, own_of (p6.2.1.2.trans w_not) (by unfold own; decide)⟩⟩ S6
            · show Wp (d + 3) 0 0 M_X12_isOwnHere 63 [some (.inr (.inr 66)), none] [.inl 0] y6 _
              have kp6 : Keep lukA h y6 := kp5.trans p6.1
              have n6 : ¬ isWd L i 14836 := by have z := p6.2.1; rw [w_not] at z; exact z
              have R := R.lk (p6.1.wide lukA_tkA) p6.2.2.1
              have WW := R.1.2.2.2.2.2.2.2.1
              refine p_if_eq_t 70 rfl rfl (by decide) ?_
              refine p_const 71 rfl rfl ?_
              refine p_istore (ls' := [some (.inr (.inr 66)), some (.inl 0)]) 72 rfl rfl (Nat.le_of_ble_eq_true rfl) rfl ?_
              refine p_iload 73 rfl rfl rfl ?_
              refine p_if_ne_f 76 rfl rfl (by decide) ?_
              refine p_aload 77 rfl rfl rfl ?_
              refine p_aload 78 rfl rfl rfl ?_
              refine p_getfr (j := 15) (z := 74) 81 rfl rfl rfl (tg_66 S6) rfl (fi_66_15 S6) ?_
              refine p_callv (le := [some (.inr (.inr 66)), some (.inr (.inr 74)), none, none]) (as := [.inr (.inr 66), .inr (.inr 74)]) (rest := []) 84 0 0 0 0 rfl rfl (Nat.le_of_ble_eq_true rfl) rfl (Nat.le_of_ble_eq_true rfl) rfl rfl (Nat.le_of_ble_eq_true rfl) rfl (Nat.le_of_ble_eq_true rfl) rfl (Nat.le_refl _) (Nat.le_refl _) rfl rfl (tg_66 S6) ?_
              refine m_isHere S6 74 WW (by decide) O R.1.1 LX R.2.1 R.2.2 (fun y7 p7 S7 => ?_) (fun y7 p7 S7 => ?_)
              · show Wp (d + 3) 0 0 M_X12_isOwnHere 84 [some (.inr (.inr 66)), some (.inl 0)] [.inl 1] y7 _
                have kp7 : Keep lukA h y7 := kp6.trans p7.1
                refine p_if_ne_t 131 rfl rfl (by decide) ?_
                refine p_const 132 rfl rfl ?_
                refine p_goto 136 rfl rfl ?_
                refine p_zret rfl rfl (by decide) ?_
                -- leaf 7: answer [.inl 1] h=y7  kp7
                exact K 1 _ ⟨kp7, p7.2.2.2.1, p7.2.2.2.2, Or.inl ⟨rfl, p7.2.1.1, own_of (p7.2.1.2.trans w_all) (by unfold own; decide)⟩⟩ S7
              · show Wp (d + 3) 0 0 M_X12_isOwnHere 84 [some (.inr (.inr 66)), some (.inl 0)] [.inl 0] y7 _
                have kp7 : Keep lukA h y7 := kp6.trans p7.1
                have n7 : ¬ isWd L i 1420 := by have z := p7.2.1; rw [w_all] at z; exact z
                have R := R.lk (p7.1.wide lukA_tkA) p7.2.2.1
                have WW := R.1.2.2.2.2.2.2.2.2.1
                refine p_if_ne_f 87 rfl rfl (by decide) ?_
                refine p_aload 88 rfl rfl rfl ?_
                refine p_aload 89 rfl rfl rfl ?_
                refine p_getfr (j := 16) (z := 75) 92 rfl rfl rfl (tg_66 S7) rfl (fi_66_16 S7) ?_
                refine p_callv (le := [some (.inr (.inr 66)), some (.inr (.inr 75)), none, none]) (as := [.inr (.inr 66), .inr (.inr 75)]) (rest := []) 95 0 0 0 0 rfl rfl (Nat.le_of_ble_eq_true rfl) rfl (Nat.le_of_ble_eq_true rfl) rfl rfl (Nat.le_of_ble_eq_true rfl) rfl (Nat.le_of_ble_eq_true rfl) rfl (Nat.le_refl _) (Nat.le_refl _) rfl rfl (tg_66 S7) ?_
                refine m_isHere S7 75 WW (by decide) O R.1.1 LX R.2.1 R.2.2 (fun y8 p8 S8 => ?_) (fun y8 p8 S8 => ?_)
                · show Wp (d + 3) 0 0 M_X12_isOwnHere 95 [some (.inr (.inr 66)), some (.inl 0)] [.inl 1] y8 _
                  have kp8 : Keep lukA h y8 := kp7.trans p8.1
                  refine p_if_ne_t 131 rfl rfl (by decide) ?_
                  refine p_const 132 rfl rfl ?_
                  refine p_goto 136 rfl rfl ?_
                  refine p_zret rfl rfl (by decide) ?_
                  -- leaf 8: answer [.inl 1] h=y8  kp8
                  exact K 1 _ ⟨kp8, p8.2.2.2.1, p8.2.2.2.2, Or.inl ⟨rfl, p8.2.1.1, own_of (p8.2.1.2.trans w_ship) (by unfold own; decide)⟩⟩ S8
                · show Wp (d + 3) 0 0 M_X12_isOwnHere 95 [some (.inr (.inr 66)), some (.inl 0)] [.inl 0] y8 _
                  have kp8 : Keep lukA h y8 := kp7.trans p8.1
                  have n8 : ¬ isWd L i 631088 := by have z := p8.2.1; rw [w_ship] at z; exact z
                  have R := R.lk (p8.1.wide lukA_tkA) p8.2.2.1
                  have WW := R.1.2.2.2.2.2.2.2.2.2.1
                  refine p_if_ne_f 98 rfl rfl (by decide) ?_
                  refine p_aload 99 rfl rfl rfl ?_
                  refine p_aload 100 rfl rfl rfl ?_
                  refine p_getfr (j := 17) (z := 76) 103 rfl rfl rfl (tg_66 S8) rfl (fi_66_17 S8) ?_
                  refine p_callv (le := [some (.inr (.inr 66)), some (.inr (.inr 76)), none, none]) (as := [.inr (.inr 66), .inr (.inr 76)]) (rest := []) 106 0 0 0 0 rfl rfl (Nat.le_of_ble_eq_true rfl) rfl (Nat.le_of_ble_eq_true rfl) rfl rfl (Nat.le_of_ble_eq_true rfl) rfl (Nat.le_of_ble_eq_true rfl) rfl (Nat.le_refl _) (Nat.le_refl _) rfl rfl (tg_66 S8) ?_
                  refine m_isHere S8 76 WW (by decide) O R.1.1 LX R.2.1 R.2.2 (fun y9 p9 S9 => ?_) (fun y9 p9 S9 => ?_)
                  · show Wp (d + 3) 0 0 M_X12_isOwnHere 106 [some (.inr (.inr 66)), some (.inl 0)] [.inl 1] y9 _
                    have kp9 : Keep lukA h y9 := kp8.trans p9.1
                    refine p_if_ne_t 131 rfl rfl (by decide) ?_
                    refine p_const 132 rfl rfl ?_
                    refine p_goto 136 rfl rfl ?_
                    refine p_zret rfl rfl (by decide) ?_
                    -- leaf 9: answer [.inl 1] h=y9  kp9
                    exact K 1 _ ⟨kp9, p9.2.2.2.1, p9.2.2.2.2, Or.inl ⟨rfl, p9.2.1.1, own_of (p9.2.1.2.trans w_hour) (by unfold own; decide)⟩⟩ S9
                  · show Wp (d + 3) 0 0 M_X12_isOwnHere 106 [some (.inr (.inr 66)), some (.inl 0)] [.inl 0] y9 _
                    have kp9 : Keep lukA h y9 := kp8.trans p9.1
                    have n9 : ¬ isWd L i 278194 := by have z := p9.2.1; rw [w_hour] at z; exact z
                    have R := R.lk (p9.1.wide lukA_tkA) p9.2.2.1
                    have WW := R.1.2.2.2.2.2.2.2.2.2.2.1
                    refine p_if_ne_f 109 rfl rfl (by decide) ?_
                    refine p_aload 110 rfl rfl rfl ?_
                    refine p_aload 111 rfl rfl rfl ?_
                    refine p_getfr (j := 18) (z := 77) 114 rfl rfl rfl (tg_66 S9) rfl (fi_66_18 S9) ?_
                    refine p_callv (le := [some (.inr (.inr 66)), some (.inr (.inr 77)), none, none]) (as := [.inr (.inr 66), .inr (.inr 77)]) (rest := []) 117 0 0 0 0 rfl rfl (Nat.le_of_ble_eq_true rfl) rfl (Nat.le_of_ble_eq_true rfl) rfl rfl (Nat.le_of_ble_eq_true rfl) rfl (Nat.le_of_ble_eq_true rfl) rfl (Nat.le_refl _) (Nat.le_refl _) rfl rfl (tg_66 S9) ?_
                    refine m_isHere S9 77 WW (by decide) O R.1.1 LX R.2.1 R.2.2 (fun y10 p10 S10 => ?_) (fun y10 p10 S10 => ?_)
                    · show Wp (d + 3) 0 0 M_X12_isOwnHere 117 [some (.inr (.inr 66)), some (.inl 0)] [.inl 1] y10 _
                      have kp10 : Keep lukA h y10 := kp9.trans p10.1
                      refine p_if_ne_t 131 rfl rfl (by decide) ?_
                      refine p_const 132 rfl rfl ?_
                      refine p_goto 136 rfl rfl ?_
                      refine p_zret rfl rfl (by decide) ?_
                      -- leaf 10: answer [.inl 1] h=y10  kp10
                      exact K 1 _ ⟨kp10, p10.2.2.2.1, p10.2.2.2.2, Or.inl ⟨rfl, p10.2.1.1, own_of (p10.2.1.2.trans w_minute) (by unfold own; decide)⟩⟩ S10
                    · show Wp (d + 3) 0 0 M_X12_isOwnHere 117 [some (.inr (.inr 66)), some (.inl 0)] [.inl 0] y10 _
                      have kp10 : Keep lukA h y10 := kp9.trans p10.1
                      have n10 : ¬ isWd L i 446125701 := by have z := p10.2.1; rw [w_minute] at z; exact z
                      have R := R.lk (p10.1.wide lukA_tkA) p10.2.2.1
                      have WW := R.1.2.2.2.2.2.2.2.2.2.2.2
                      refine p_if_ne_f 120 rfl rfl (by decide) ?_
                      refine p_aload 121 rfl rfl rfl ?_
                      refine p_aload 122 rfl rfl rfl ?_
                      refine p_getfr (j := 19) (z := 78) 125 rfl rfl rfl (tg_66 S10) rfl (fi_66_19 S10) ?_
                      refine p_callv (le := [some (.inr (.inr 66)), some (.inr (.inr 78)), none, none]) (as := [.inr (.inr 66), .inr (.inr 78)]) (rest := []) 128 0 0 0 0 rfl rfl (Nat.le_of_ble_eq_true rfl) rfl (Nat.le_of_ble_eq_true rfl) rfl rfl (Nat.le_of_ble_eq_true rfl) rfl (Nat.le_of_ble_eq_true rfl) rfl (Nat.le_refl _) (Nat.le_refl _) rfl rfl (tg_66 S10) ?_
                      refine m_isHere S10 78 WW (by decide) O R.1.1 LX R.2.1 R.2.2 (fun y11 p11 S11 => ?_) (fun y11 p11 S11 => ?_)
                      · show Wp (d + 3) 0 0 M_X12_isOwnHere 128 [some (.inr (.inr 66)), some (.inl 0)] [.inl 1] y11 _
                        have kp11 : Keep lukA h y11 := kp10.trans p11.1
                        refine p_if_eq_f 131 rfl rfl (by decide) ?_
                        refine p_const 132 rfl rfl ?_
                        refine p_goto 136 rfl rfl ?_
                        refine p_zret rfl rfl (by decide) ?_
                        -- leaf 11: answer [.inl 1] h=y11  kp11
                        exact K 1 _ ⟨kp11, p11.2.2.2.1, p11.2.2.2.2, Or.inl ⟨rfl, p11.2.1.1, own_of (p11.2.1.2.trans w_haze) (by unfold own; decide)⟩⟩ S11
                      · show Wp (d + 3) 0 0 M_X12_isOwnHere 128 [some (.inr (.inr 66)), some (.inl 0)] [.inl 0] y11 _
                        have kp11 : Keep lukA h y11 := kp10.trans p11.1
                        have n11 : ¬ isWd L i 264005 := by have z := p11.2.1; rw [w_haze] at z; exact z
                        have R := R.lk (p11.1.wide lukA_tkA) p11.2.2.1
                        refine p_if_eq_t 135 rfl rfl (by decide) ?_
                        refine p_const 136 rfl rfl ?_
                        refine p_zret rfl rfl (by decide) ?_
                        -- leaf 12: answer [.inl 0] h=y11  kp11
                        refine K 0 _ ⟨kp11, R.2.1, p11.2.2.2, Or.inr ⟨rfl, fun z => ?_⟩⟩ S11
                        obtain ⟨z1, z2⟩ := z
                        rcases z2 with z | z | z | z | z | z | z | z
                        · exact n2 ⟨z1, z⟩
                        · exact n4 ⟨z1, z⟩
                        · exact n7 ⟨z1, z⟩
                        · exact n5 ⟨z1, z⟩
                        · exact n3 ⟨z1, z⟩
                        · exact n6 ⟨z1, z⟩
                        · exact n1 ⟨z1, z⟩
                        · refine z ?_
                          unfold fcd
                          rw [if_neg (fun y => n8 ⟨z1, y⟩), if_neg (fun y => n9 ⟨z1, y⟩), if_neg (fun y => n10 ⟨z1, y⟩), if_neg (fun y => n11 ⟨z1, y⟩)]
theorem nm_kind {T : Int → Int} {n : Int} {L : List Tok} {i : Nat} {h : PH} (O : TxO T n) (LX : LexA T n L) (M : MAt h T n L i) (g2 : gv h 66 2 = (tk L i).2.1) : (isLet (T (tk L i).2.1) ∧ gv h 66 2 ≠ gv h 66 4) ↔ (tk L i).1 = 1 := by
  have TA := LX.tok O M.1
  constructor
  · rintro ⟨l, e⟩
    have z := M.2.2.2 (Or.inl l)
    rcases (TA.let O l).1 with y | y
    · exact y
    · exact absurd (z.2 y) (by omega)
  · intro k
    have l := TA.wd k
    refine ⟨l, fun e => ?_⟩
    have z := (M.2.2.2 (Or.inl l)).1 (by omega)
    omega
theorem lsr_nmA : ∀ a i, nmA a i = false → lsrA a i = false := fun a i => dw (by omega)
theorem m_name {d : Nat} {h : PH} {q : PQ} (S : Shape h) {T : Int → Int} {n : Int} {L : List Tok} {i : Nat} (O : TxO T n) (LX : LexA T n L) (R : RdN h T n L i)
    (K : ∀ v h', (Keep nmA h h' ∧ (((tk L i).1 = 1 ∧ ¬ own (tk L i).2.2.2 ∧ (tk L i).2.2.1 - (tk L i).2.1 ≤ 6 ∧ v = (tk L i).2.2.2 ∧ MAt h' T n L (i + 1) ∧ gv h' 66 5 = 0 ∧ gv h' 66 6 = gv h 66 6) ∨
      ((tk L i).1 = 1 ∧ ¬ own (tk L i).2.2.2 ∧ 6 < (tk L i).2.2.1 - (tk L i).2.1 ∧ v = 0 ∧ gv h' 66 5 = 1 ∧ gv h' 66 6 = (tk L i).2.1 + 6) ∨
      (¬ ((tk L i).1 = 1 ∧ ¬ own (tk L i).2.2.2) ∧ v = 0 ∧ gv h' 66 5 = 1 ∧ gv h' 66 6 = (tk L i).2.1))) → Shape h' → q (some (.inr (.inl v))) h') :
    Wp (d + 4) 0 0 M_X12_name 0 [some (.inr (.inr 66))] [] h q := by
  have n7 := O.1
  have B := LX.tl O
  have TA := LX.tok O R.2.1.1
  have t2 := TA.2.1
  have R0 := R
  obtain ⟨⟨r2, r3⟩, r4, r5⟩ := R
  have J37 : ∀ (h1 : PH), Keep lukA h h1 → ¬ ((tk L i).1 = 1 ∧ ¬ own (tk L i).2.2.2) → gv h1 66 2 = (tk L i).2.1 → Shape h1 → Wp (d + 4) 0 0 M_X12_name 37 [some (.inr (.inr 66))] [] h1 q := by
    intro h1 k1 no g2 S1
    have b5 := (k1.1 66 5 rfl).trans r5
    refine p_aload 38 rfl rfl rfl ?_
    refine p_const 39 rfl rfl ?_
    refine p_aload 40 rfl rfl rfl ?_
    refine p_getfi (j := 2) (z := (tk L i).2.1) 43 rfl rfl rfl (tg_66 S1) rfl g2 ?_
    refine p_callv (le := [some (.inr (.inr 66)), some (.inl 1), some (.inl ((tk L i).2.1))]) (as := [.inr (.inr 66), .inl 1, .inl ((tk L i).2.1)]) (rest := []) 46 0 0 0 0 rfl rfl (Nat.le_of_ble_eq_true rfl) rfl (Nat.le_of_ble_eq_true rfl) rfl rfl (Nat.le_of_ble_eq_true rfl) rfl (Nat.le_of_ble_eq_true rfl) rfl (Nat.le_refl _) (Nat.le_refl _) rfl rfl (tg_66 S1) ?_
    refine p_aload 1 rfl rfl rfl ?_
    refine p_getfi (j := 5) (z := gv h1 66 5) 4 rfl rfl rfl (tg_66 S1) rfl rfl ?_
    refine p_if_eq_t 8 rfl rfl (by omega) ?_
    refine p_aload 9 rfl rfl rfl ?_
    refine p_iload 10 rfl rfl rfl ?_
    refine p_putfi (j := 5) 13 rfl rfl rfl (fun z => absurd z (by decide)) (tg_66 S1) rfl ?_
    refine p_nmh (fun y1 e1 => ?_)
    have S1 : Shape y1 := by rw [e1]; exact S1.svF ff_66_5 _
    refine p_aload 14 rfl rfl rfl ?_
    refine p_iload 15 rfl rfl rfl ?_
    refine p_putfi (j := 6) 18 rfl rfl rfl (fun z => absurd z (by decide)) (tg_66 S1) rfl ?_
    refine p_nmh (fun y2 e2 => ?_)
    have S2 : Shape y2 := by rw [e2]; exact S1.svF ff_66_6 _
    refine p_ret rfl rfl ?_
    show Wp (d + 4) 0 0 M_X12_name 46 [some (.inr (.inr 66))] [] y2 _
    refine p_lconst 47 rfl rfl ?_
    refine p_lret rfl rfl ?_
    -- leaf 1: answer [.inr (.inl 0)] h=y2 e2,e1
    exact K 0 _ ⟨by rw [e2, e1]; exact ((k1.wide lukA_nmA).sv rfl _).sv rfl _, Or.inr (Or.inr ⟨no, rfl, by rw [e2, e1, sv_nf (by decide), sv_eq], by rw [e2, e1, sv_eq]⟩)⟩ S2
  refine p_aload 1 rfl rfl rfl ?_
  refine p_getfi (j := 5) (z := gv h 66 5) 4 rfl rfl rfl (tg_66 S) rfl rfl ?_
  refine p_if_eq_t 9 rfl rfl (by omega) ?_
  refine p_aload 10 rfl rfl rfl ?_
  refine p_callv (le := [some (.inr (.inr 66))]) (as := [.inr (.inr 66)]) (rest := []) 13 0 0 0 0 rfl rfl (Nat.le_of_ble_eq_true rfl) rfl (Nat.le_of_ble_eq_true rfl) rfl rfl (Nat.le_of_ble_eq_true rfl) rfl (Nat.le_of_ble_eq_true rfl) rfl (Nat.le_refl _) (Nat.le_refl _) rfl rfl (tg_66 S) ?_
  refine m_lookT S O r2 LX r4 (fun r1 y1 p1 S1 => ?_)
  show Wp (d + 4) 0 0 M_X12_name 13 [some (.inr (.inr 66))] [.inl r1] y1 _
  obtain ⟨kl, re, M2, g2⟩ := p1
  have R1 := R0.lk (kl.wide lukA_tkA) M2
  have nk := nm_kind O LX M2 g2
  refine p_calls (le := [some (.inl r1)]) (as := [.inl r1]) (rest := []) 16 0 0 0 0 rfl rfl (Nat.le_of_ble_eq_true rfl) rfl (Nat.le_of_ble_eq_true rfl) rfl rfl (Nat.le_of_ble_eq_true rfl) rfl (Nat.le_of_ble_eq_true rfl) rfl (Nat.le_refl _) (Nat.le_refl _) rfl rfl ?_
  refine p_iload 1 rfl rfl rfl ?_
  refine p_const 3 rfl rfl ?_
  refine p_ic_lt 6 16 rfl rfl rfl (fun c2 => ?_) (fun c2 => ?_)
  · skip
    refine p_const 17 rfl rfl ?_
    refine p_zret rfl rfl (by decide) ?_
    show Wp (d + 4) 0 0 M_X12_name 16 [some (.inr (.inr 66))] [.inl 0] y1 _
    refine p_if_eq_t 37 rfl rfl (by decide) ?_
    -- leaf 1: loop 37 [some (.inr (.inr 66))] st=[] h=y1 
    exact J37 _ kl (fun z => by have := (nk.2 z.1).1; omega) g2 S1
  · skip
    refine p_iload 7 rfl rfl rfl ?_
    refine p_const 9 rfl rfl ?_
    refine p_ic_gt 12 16 rfl rfl rfl (fun c3 => ?_) (fun c3 => ?_)
    · skip
      refine p_const 17 rfl rfl ?_
      refine p_zret rfl rfl (by decide) ?_
      show Wp (d + 4) 0 0 M_X12_name 16 [some (.inr (.inr 66))] [.inl 0] y1 _
      refine p_if_eq_t 37 rfl rfl (by decide) ?_
      -- leaf 2: loop 37 [some (.inr (.inr 66))] st=[] h=y1 
      exact J37 _ kl (fun z => by have := (nk.2 z.1).1; omega) g2 S1
    · skip
      refine p_const 13 rfl rfl ?_
      refine p_goto 17 rfl rfl ?_
      refine p_zret rfl rfl (by decide) ?_
      show Wp (d + 4) 0 0 M_X12_name 16 [some (.inr (.inr 66))] [.inl 1] y1 _
      refine p_if_eq_f 19 rfl rfl (by decide) ?_
      refine p_aload 20 rfl rfl rfl ?_
      refine p_getfi (j := 2) (z := gv y1 66 2) 23 rfl rfl rfl (tg_66 S1) rfl rfl ?_
      refine p_aload 24 rfl rfl rfl ?_
      refine p_getfi (j := 4) (z := gv y1 66 4) 27 rfl rfl rfl (tg_66 S1) rfl rfl ?_
      refine p_ic_eq 30 37 rfl rfl rfl (fun c4 => ?_) (fun c4 => ?_)
      · skip
        -- leaf 3: loop 37 [some (.inr (.inr 66))] st=[] h=y1 
        exact J37 _ kl (fun z => (nk.2 z.1).2 c4) g2 S1
      · skip
        refine p_aload 31 rfl rfl rfl ?_
        refine p_callv (le := [some (.inr (.inr 66)), none]) (as := [.inr (.inr 66)]) (rest := []) 34 0 0 0 0 rfl rfl (Nat.le_of_ble_eq_true rfl) rfl (Nat.le_of_ble_eq_true rfl) rfl rfl (Nat.le_of_ble_eq_true rfl) rfl (Nat.le_of_ble_eq_true rfl) rfl (Nat.le_refl _) (Nat.le_refl _) rfl rfl (tg_66 S1) ?_
        refine m_isOwnHere S1 O LX R1 (fun r5 y5 p5 S5 => ?_)
        show Wp (d + 4) 0 0 M_X12_name 34 [some (.inr (.inr 66))] [.inl r5] y5 _
        refine p_if_eq 37 48 rfl rfl rfl (fun c6 => ?_) (fun c6 => ?_)
        · skip
          have g3 := p5.2.2.1
          have R3 := R1.lk (p5.1.wide lukA_tkA) p5.2.1
          refine p_aload 49 rfl rfl rfl ?_
          refine p_const 51 rfl rfl ?_
          refine p_callv (le := [some (.inr (.inr 66)), some (.inl 6), none, none, none]) (as := [.inr (.inr 66), .inl 6]) (rest := []) 54 0 0 0 0 rfl rfl (Nat.le_of_ble_eq_true rfl) rfl (Nat.le_of_ble_eq_true rfl) rfl rfl (Nat.le_of_ble_eq_true rfl) rfl (Nat.le_of_ble_eq_true rfl) rfl (Nat.le_refl _) (Nat.le_refl _) rfl rfl (tg_66 S5) ?_
          refine m_letters S5 6 O R3.1.1 g3 R3.2.2 (by omega) (by omega) (by decide) (by decide) (fun r7 y7 p7 S7 => ?_)
          show Wp (d + 4) 0 0 M_X12_name 54 [some (.inr (.inr 66))] [.inr (.inl r7)] y7 _
          refine p_lret rfl rfl ?_
          -- leaf 4: answer [.inr (.inl r7)] h=y7 
          have k1 : (tk L i).1 = 1 := nk.1 ⟨⟨by omega, by omega⟩, c4⟩
          have no : ¬ own (tk L i).2.2.2 := by rcases p5.2.2.2 with ⟨z, _⟩ | ⟨_, z⟩; omega; exact fun y => z ⟨k1, y⟩
          obtain ⟨k7, e, he, en, cs⟩ := p7
          obtain ⟨_, he2, hv, en2⟩ := TA.let O (TA.wd k1)
          have ee : e = (tk L i).2.2.1 := he.same he2
          have e0 := he2.1
          subst ee
          have kk : Keep nmA h y7 := ((kl.trans p5.1).wide lukA_nmA).trans (k7.wide lsr_nmA)
          rcases cs with ⟨a, b, c, d4, e5, e6⟩ | ⟨a, b, c, d4, e5, e6⟩
          · refine K _ _ ⟨kk, Or.inl ⟨k1, no, a, ?_, MAt.word O LX (B.nx R0.2.1.1 (by rw [k1]; decide)).1 (Or.inl k1) (by omega) c d4, e5, e6.trans ((kl.trans p5.1).1 66 6 rfl)⟩⟩ S7
            rw [hv, b]; unfold wq; rw [if_pos a]
          · exact K _ _ ⟨kk, Or.inr (Or.inl ⟨k1, no, a, b, e5, e6⟩)⟩ S7
        · skip
          -- leaf 5: loop 37 [some (.inr (.inr 66))] st=[] h=y5 
          refine J37 _ (kl.trans p5.1) (fun z => z.2 ?_) p5.2.2.1 S5
          rcases p5.2.2.2 with ⟨_, _, z⟩ | ⟨z, _⟩
          · exact z
          · omega

