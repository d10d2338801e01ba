/-! THE MODEL'S READER: a figure -/
def chr (l : List Int) (j : Nat) : Int := l.getD j 0
def WrdI (h : PH) : Prop := WdA h 68 5 (chr [115, 101, 110, 115, 101]) ∧ WdA h 69 2 (chr [105, 115]) ∧ WdA h 70 3 (chr [102, 111, 114]) ∧ WdA h 71 2 (chr [111, 114]) ∧ WdA h 72 3 (chr [97, 110, 100]) ∧ WdA h 73 3 (chr [110, 111, 116]) ∧ WdA h 74 3 (chr [97, 108, 108]) ∧
  WdA h 75 4 (chr [115, 104, 105, 112]) ∧ WdA h 76 4 (chr [104, 111, 117, 114]) ∧ WdA h 77 6 (chr [109, 105, 110, 117, 116, 101]) ∧ WdA h 78 4 (chr [104, 97, 122, 101])
theorem WrdI.kp {h h' : PH} {A : Int → Int → Bool} (W : WrdI h) (k : Keep A h h') (hA : ∀ a i, 68 ≤ a → a ≤ 78 → A a i = false) : WrdI h' := by
  obtain ⟨a, b, c, d, e, f, g, i, j, l, m⟩ := W
  exact ⟨a.kp k (fun i => hA _ i (by decide) (by decide)), b.kp k (fun i => hA _ i (by decide) (by decide)), c.kp k (fun i => hA _ i (by decide) (by decide)), d.kp k (fun i => hA _ i (by decide) (by decide)), e.kp k (fun i => hA _ i (by decide) (by decide)), f.kp k (fun i => hA _ i (by decide) (by decide)), g.kp k (fun i => hA _ i (by decide) (by decide)), i.kp k (fun i => hA _ i (by decide) (by decide)), j.kp k (fun i => hA _ i (by decide) (by decide)), l.kp k (fun i => hA _ i (by decide) (by decide)), m.kp k (fun i => hA _ i (by decide) (by decide))⟩
/-- what the reading of a test changes -/
def rtA (a i : Int) : Bool := decide ((a = 66 ∧ (i = 2 ∨ i = 4 ∨ i = 5 ∨ i = 6 ∨ i = 26 ∨ i = 28 ∨ i = 29 ∨ i = 30)) ∨ (a = 84 ∧ i < 700) ∨ a = 85)
theorem tkA_rtA : ∀ a i, rtA a i = false → tkA a i = false := fun a i => dw (by omega)
theorem lukA_rtA : ∀ a i, rtA a i = false → lukA a i = false := fun a i => dw (by omega)
theorem nmA_rtA : ∀ a i, rtA a i = false → nmA a i = false := fun a i => dw (by omega)
theorem cdA_rtA : ∀ a i, rtA a i = false → cdA a i = false := fun a i => dw (by omega)
theorem drA_rtA : ∀ a i, rtA a i = false → drA a i = false := fun a i => dw (by omega)
theorem opA_rtA : ∀ a i, rtA a i = false → opA a i = false := fun a i => dw (by omega)
theorem rtA_wd : ∀ a i, 68 ≤ a → a ≤ 78 → rtA a i = false := fun a i x y => decide_eq_false (by omega)
/-- the model reads well, at token i, o open, base b, W waits, C is coded -/
def RdM (h0 h : PH) (T : Int → Int) (n : Int) (L : List Tok) (i o : Nat) (b : Int) (W C : List Int) : Prop := Keep rtA h0 h ∧ (TxM h T n ∧ WrdI h) ∧ MAt h T n L i ∧ gv h 66 5 = 0 ∧ gv h 66 29 = o ∧ gv h 66 30 = b ∧ StkM h W ∧ CodM h C ∧ W.length + C.length + 4 ≤ i ∧ o ≤ 6 ∧ gv h 66 6 = -1
/-- the model has met a fault -/
def BdM (h0 h : PH) (k p : Int) : Prop := Keep rtA h0 h ∧ gv h 66 5 = k ∧ k ≠ 0 ∧ gv h 66 6 = p ∧ 0 ≤ gv h 66 26 ∧ gv h 66 26 ≤ 698
theorem RdM.tk {h0 h h' : PH} {T : Int → Int} {n : Int} {L : List Tok} {i j o : Nat} {b : Int} {W C : List Int} (R : RdM h0 h T n L i o b W C) (k : Keep tkA h h') (M : MAt h' T n L j) (ij : i ≤ j) : RdM h0 h' T n L j o b W C := by
  obtain ⟨r1, ⟨r2, r3⟩, r4, r5, r6, r7, r8, r9, r10, r11⟩ := R
  exact ⟨r1.trans (k.wide tkA_rtA), ⟨r2.kp (k.1 66 3 rfl) (fun i => k.1 67 i rfl), r3.kp k (fun a i x y => decide_eq_false (by omega))⟩, M, (k.1 66 5 rfl).trans r5, (k.1 66 29 rfl).trans r6, (k.1 66 30 rfl).trans r7, r8.of (k.1 66 28 rfl) (fun i => k.1 85 i rfl), r9.of (k.1 66 26 rfl) (fun i => k.1 84 i rfl), by omega, r11.1, (k.1 66 6 rfl).trans r11.2⟩
theorem MAt.of {h h' : PH} {T : Int → Int} {n : Int} {L : List Tok} {i : Nat} (M : MAt h T n L i) (e2 : gv h' 66 2 = gv h 66 2) (e4 : gv h' 66 4 = gv h 66 4) : MAt h' T n L i := by
  unfold MAt at M ⊢
  rw [e2, e4]; exact M
theorem RdM.cd {h0 h h' : PH} {T : Int → Int} {n : Int} {L : List Tok} {i o : Nat} {b : Int} {W C : List Int} {v : Int} (R : RdM h0 h T n L i o b W C) (k : Keep cdA h h') (c : CodM h' (C ++ [v])) (l : W.length + C.length + 5 ≤ i) : RdM h0 h' T n L i o b W (C ++ [v]) := by
  obtain ⟨r1, ⟨r2, r3⟩, r4, r5, r6, r7, r8, r9, r10, r11⟩ := R
  exact ⟨r1.trans (k.wide cdA_rtA), ⟨r2.kp (k.1 66 3 rfl) (fun i => k.1 67 i rfl), r3.kp k (fun a i x y => decide_eq_false (by omega))⟩, r4.of (k.1 66 2 rfl) (k.1 66 4 rfl), (k.1 66 5 rfl).trans r5, (k.1 66 29 rfl).trans r6, (k.1 66 30 rfl).trans r7, r8.of (k.1 66 28 rfl) (fun i => k.1 85 i rfl), c, by rw [List.length_append]; show W.length + (C.length + 1) + 4 ≤ i; omega, r11.1, (k.1 66 6 rfl).trans r11.2⟩
theorem RdM.nm {h0 h h' : PH} {T : Int → Int} {n : Int} {L : List Tok} {i j o : Nat} {b : Int} {W C : List Int} (R : RdM h0 h T n L i o b W C) (k : Keep nmA h h') (M : MAt h' T n L j) (b5 : gv h' 66 5 = 0) (e6 : gv h' 66 6 = gv h 66 6) (ij : i ≤ j) : RdM h0 h' T n L j o b W C := by
  obtain ⟨r1, ⟨r2, r3⟩, r4, r5, r6, r7, r8, r9, r10, r11⟩ := R
  exact ⟨r1.trans (k.wide nmA_rtA), ⟨r2.kp (k.1 66 3 rfl) (fun i => k.1 67 i rfl), r3.kp k (fun a i x y => decide_eq_false (by omega))⟩, M, b5, (k.1 66 29 rfl).trans r6, (k.1 66 30 rfl).trans r7, r8.of (k.1 66 28 rfl) (fun i => k.1 85 i rfl), r9.of (k.1 66 26 rfl) (fun i => k.1 84 i rfl), by omega, r11.1, e6.trans r11.2⟩
theorem w_ship : wf (chr [115, 104, 105, 112]) 4 = 631088 := by decide
theorem w_hour : wf (chr [104, 111, 117, 114]) 4 = 278194 := by decide
theorem w_minute : wf (chr [109, 105, 110, 117, 116, 101]) 6 = 446125701 := by decide
theorem w_haze : wf (chr [104, 97, 122, 101]) 4 = 264005 := by decide
theorem m_leaf {d : Nat} {h0 h : PH} {q : PQ} (S : Shape h) {T : Int → Int} {n : Int} {L : List Tok} {i o : Nat} {b : Int} {W C : List Int} (O : TxO T n) (LX : LexA T n L) (R : RdM h0 h T n L i o b W C) (pv3 : (prv L i).1 ≠ 3)
    (K1 : fAt L i ≠ -1 → ¬ ((tk L i).1 = 2 ∧ (tk L i).2.1 + 4 < (tk L i).2.2.1) → ∀ h', RdM h0 h' T n L (i + 1) o b W (C ++ [fAt L i]) → Shape h' → q none h')
    (K2 : fAt L i ≠ -1 → (tk L i).1 = 2 → (tk L i).2.1 + 4 < (tk L i).2.2.1 → ∀ h', BdM h0 h' 1 ((tk L i).2.1 + 4) → Shape h' → q none h')
    (K3 : fAt L i = -1 → ∀ h', BdM h0 h' 1 (tk L i).2.1 → Shape h' → q none h') :
    Wp (d + 4) 0 0 M_X12_part 39 [some (.inr (.inr 66))] [] h q := by
  have l7 := (LX.tl O).1
  have R0 := R
  obtain ⟨r1, ⟨r2, r3⟩, r4, r5, r6, r7, r8, r9, r10, r11⟩ := R
  have i7 := r4.1
  have wd : ∀ (w c : Int) (h1 h2 : PH), isWd L i w → fcd w = c → c ≠ -1 → Keep tkA h h1 → MAt h1 T n L (i + 1) → Keep cdA h1 h2 → CodM h2 (C ++ [c]) → Shape h2 → q none h2 := fun w c h1 h2 e f cn k M kc c2 S' => by
    have fe : fAt L i = c := by unfold fAt; rw [if_neg (by have := e.1; omega), if_pos e.1, e.2, f]
    refine K1 (by rw [fe]; exact cn) (fun z => by have := e.1; omega) h2 ?_ S'
    rw [fe]
    exact (R0.tk k M (by omega)).cd kc c2 (by omega)
  refine p_aload 40 rfl rfl rfl ?_
  refine p_getfi (j := 5) (z := gv h 66 5) 43 rfl rfl rfl (tg_66 S) rfl rfl ?_
  refine p_if_eq_t 47 rfl rfl (by omega) ?_
  refine p_aload 48 rfl rfl rfl ?_
  have RC := R0
  have WW := r3.2.2.2.2.2.2.2.1
  have XX := r2
  have MM := r4
  have BB := r5
  refine p_aload 49 rfl rfl rfl ?_
  refine p_getfr (j := 16) (z := 75) 52 rfl rfl rfl (tg_66 S) rfl (fi_66_16 S) ?_
  refine p_callv (le := [some (.inr (.inr 66)), some (.inr (.inr 75))]) (as := [.inr (.inr 66), .inr (.inr 75)]) (rest := []) 55 0 0 0 0 rfl rfl (Nat.le_of_ble_eq_true rfl) rfl (Nat.le_of_ble_eq_true rfl) rfl rfl (Nat.le_of_ble_eq_true rfl) rfl (Nat.le_of_ble_eq_true rfl) rfl (Nat.le_refl _) (Nat.le_refl _) rfl rfl (tg_66 S) ?_
  refine m_takesW S 75 WW (by decide) O XX LX MM BB (fun y1 p1 S1 => ?_) (fun y1 p1 S1 => ?_)
  · show Wp (d + 4) 0 0 M_X12_part 55 [some (.inr (.inr 66))] [.inl 1] y1 _
    refine p_if_eq_f 58 rfl rfl (by decide) ?_
    have CC := (RC.tk p1.1 p1.2.2 (Nat.le_succ i)).2.2.2.2.2.2.2.1
    refine p_aload 59 rfl rfl rfl ?_
    refine p_const 60 rfl rfl ?_
    refine p_callv (le := [some (.inr (.inr 66)), some (.inl 4)]) (as := [.inr (.inr 66), .inl 4]) (rest := []) 63 0 0 0 0 rfl rfl (Nat.le_of_ble_eq_true rfl) rfl (Nat.le_of_ble_eq_true rfl) rfl rfl (Nat.le_of_ble_eq_true rfl) rfl (Nat.le_of_ble_eq_true rfl) rfl (Nat.le_refl _) (Nat.le_refl _) rfl rfl (tg_66 S1) ?_
    refine m_code S1 4 CC (by omega) (fun y2 p2 S2 => ?_)
    show Wp (d + 4) 0 0 M_X12_part 63 [some (.inr (.inr 66))] [] y2 _
    refine p_goto 141 rfl rfl ?_
    refine p_ret rfl rfl ?_
    -- leaf 1: answer [] h=y2 
    have e := p1.2.1
    rw [w_ship] at e
    exact wd 631088 4 _ _ e (by decide) (by decide) p1.1 p1.2.2 p2.1 p2.2 S2
  · show Wp (d + 4) 0 0 M_X12_part 55 [some (.inr (.inr 66))] [.inl 0] y1 _
    have RC := RC.tk p1.1 p1.2.2.1 (Nat.le_refl i)
    have WW := RC.2.1.2.2.2.2.2.2.2.2.2.1
    have XX := RC.2.1.1
    have MM := RC.2.2.1
    have BB := RC.2.2.2.1
    refine p_if_eq_t 66 rfl rfl (by decide) ?_
    refine p_aload 67 rfl rfl rfl ?_
    refine p_aload 68 rfl rfl rfl ?_
    refine p_getfr (j := 17) (z := 76) 71 rfl rfl rfl (tg_66 S1) rfl (fi_66_17 S1) ?_
    refine p_callv (le := [some (.inr (.inr 66)), some (.inr (.inr 76))]) (as := [.inr (.inr 66), .inr (.inr 76)]) (rest := []) 74 0 0 0 0 rfl rfl (Nat.le_of_ble_eq_true rfl) rfl (Nat.le_of_ble_eq_true rfl) rfl rfl (Nat.le_of_ble_eq_true rfl) rfl (Nat.le_of_ble_eq_true rfl) rfl (Nat.le_refl _) (Nat.le_refl _) rfl rfl (tg_66 S1) ?_
    refine m_takesW S1 76 WW (by decide) O XX LX MM BB (fun y3 p3 S3 => ?_) (fun y3 p3 S3 => ?_)
    · show Wp (d + 4) 0 0 M_X12_part 74 [some (.inr (.inr 66))] [.inl 1] y3 _
      refine p_if_eq_f 77 rfl rfl (by decide) ?_
      have CC := (RC.tk p3.1 p3.2.2 (Nat.le_succ i)).2.2.2.2.2.2.2.1
      refine p_aload 78 rfl rfl rfl ?_
      refine p_const 79 rfl rfl ?_
      refine p_callv (le := [some (.inr (.inr 66)), some (.inl 5)]) (as := [.inr (.inr 66), .inl 5]) (rest := []) 82 0 0 0 0 rfl rfl (Nat.le_of_ble_eq_true rfl) rfl (Nat.le_of_ble_eq_true rfl) rfl rfl (Nat.le_of_ble_eq_true rfl) rfl (Nat.le_of_ble_eq_true rfl) rfl (Nat.le_refl _) (Nat.le_refl _) rfl rfl (tg_66 S3) ?_
      refine m_code S3 5 CC (by omega) (fun y4 p4 S4 => ?_)
      show Wp (d + 4) 0 0 M_X12_part 82 [some (.inr (.inr 66))] [] y4 _
      refine p_goto 141 rfl rfl ?_
      refine p_ret rfl rfl ?_
      -- leaf 2: answer [] h=y4 
      have e := p3.2.1
      rw [w_hour] at e
      exact wd 278194 5 _ _ e (by decide) (by decide) (p1.1.trans p3.1) p3.2.2 p4.1 p4.2 S4
    · show Wp (d + 4) 0 0 M_X12_part 74 [some (.inr (.inr 66))] [.inl 0] y3 _
      have RC := RC.tk p3.1 p3.2.2.1 (Nat.le_refl i)
      have WW := RC.2.1.2.2.2.2.2.2.2.2.2.2.1
      have XX := RC.2.1.1
      have MM := RC.2.2.1
      have BB := RC.2.2.2.1
      refine p_if_eq_t 85 rfl rfl (by decide) ?_
      refine p_aload 86 rfl rfl rfl ?_
      refine p_aload 87 rfl rfl rfl ?_
      refine p_getfr (j := 18) (z := 77) 90 rfl rfl rfl (tg_66 S3) rfl (fi_66_18 S3) ?_
      refine p_callv (le := [some (.inr (.inr 66)), some (.inr (.inr 77))]) (as := [.inr (.inr 66), .inr (.inr 77)]) (rest := []) 93 0 0 0 0 rfl rfl (Nat.le_of_ble_eq_true rfl) rfl (Nat.le_of_ble_eq_true rfl) rfl rfl (Nat.le_of_ble_eq_true rfl) rfl (Nat.le_of_ble_eq_true rfl) rfl (Nat.le_refl _) (Nat.le_refl _) rfl rfl (tg_66 S3) ?_
      refine m_takesW S3 77 WW (by decide) O XX LX MM BB (fun y5 p5 S5 => ?_) (fun y5 p5 S5 => ?_)
      · show Wp (d + 4) 0 0 M_X12_part 93 [some (.inr (.inr 66))] [.inl 1] y5 _
        refine p_if_eq_f 96 rfl rfl (by decide) ?_
        have CC := (RC.tk p5.1 p5.2.2 (Nat.le_succ i)).2.2.2.2.2.2.2.1
        refine p_aload 97 rfl rfl rfl ?_
        refine p_const 99 rfl rfl ?_
        refine p_callv (le := [some (.inr (.inr 66)), some (.inl 6)]) (as := [.inr (.inr 66), .inl 6]) (rest := []) 102 0 0 0 0 rfl rfl (Nat.le_of_ble_eq_true rfl) rfl (Nat.le_of_ble_eq_true rfl) rfl rfl (Nat.le_of_ble_eq_true rfl) rfl (Nat.le_of_ble_eq_true rfl) rfl (Nat.le_refl _) (Nat.le_refl _) rfl rfl (tg_66 S5) ?_
        refine m_code S5 6 CC (by omega) (fun y6 p6 S6 => ?_)
        show Wp (d + 4) 0 0 M_X12_part 102 [some (.inr (.inr 66))] [] y6 _
        refine p_goto 141 rfl rfl ?_
        refine p_ret rfl rfl ?_
        -- leaf 3: answer [] h=y6 
        have e := p5.2.1
        rw [w_minute] at e
        exact wd 446125701 6 _ _ e (by decide) (by decide) ((p1.1.trans p3.1).trans p5.1) p5.2.2 p6.1 p6.2 S6
      · show Wp (d + 4) 0 0 M_X12_part 93 [some (.inr (.inr 66))] [.inl 0] y5 _
        have RC := RC.tk p5.1 p5.2.2.1 (Nat.le_refl i)
        have WW := RC.2.1.2.2.2.2.2.2.2.2.2.2.2
        have XX := RC.2.1.1
        have MM := RC.2.2.1
        have BB := RC.2.2.2.1
        refine p_if_eq_t 105 rfl rfl (by decide) ?_
        refine p_aload 106 rfl rfl rfl ?_
        refine p_aload 107 rfl rfl rfl ?_
        refine p_getfr (j := 19) (z := 78) 110 rfl rfl rfl (tg_66 S5) rfl (fi_66_19 S5) ?_
        refine p_callv (le := [some (.inr (.inr 66)), some (.inr (.inr 78))]) (as := [.inr (.inr 66), .inr (.inr 78)]) (rest := []) 113 0 0 0 0 rfl rfl (Nat.le_of_ble_eq_true rfl) rfl (Nat.le_of_ble_eq_true rfl) rfl rfl (Nat.le_of_ble_eq_true rfl) rfl (Nat.le_of_ble_eq_true rfl) rfl (Nat.le_refl _) (Nat.le_refl _) rfl rfl (tg_66 S5) ?_
        refine m_takesW S5 78 WW (by decide) O XX LX MM BB (fun y7 p7 S7 => ?_) (fun y7 p7 S7 => ?_)
        · show Wp (d + 4) 0 0 M_X12_part 113 [some (.inr (.inr 66))] [.inl 1] y7 _
          refine p_if_eq_f 116 rfl rfl (by decide) ?_
          have CC := (RC.tk p7.1 p7.2.2 (Nat.le_succ i)).2.2.2.2.2.2.2.1
          refine p_aload 117 rfl rfl rfl ?_
          refine p_const 119 rfl rfl ?_
          refine p_callv (le := [some (.inr (.inr 66)), some (.inl 7)]) (as := [.inr (.inr 66), .inl 7]) (rest := []) 122 0 0 0 0 rfl rfl (Nat.le_of_ble_eq_true rfl) rfl (Nat.le_of_ble_eq_true rfl) rfl rfl (Nat.le_of_ble_eq_true rfl) rfl (Nat.le_of_ble_eq_true rfl) rfl (Nat.le_refl _) (Nat.le_refl _) rfl rfl (tg_66 S7) ?_
          refine m_code S7 7 CC (by omega) (fun y8 p8 S8 => ?_)
          show Wp (d + 4) 0 0 M_X12_part 122 [some (.inr (.inr 66))] [] y8 _
          refine p_goto 141 rfl rfl ?_
          refine p_ret rfl rfl ?_
          -- leaf 4: answer [] h=y8 
          have e := p7.2.1
          rw [w_haze] at e
          exact wd 264005 7 _ _ e (by decide) (by decide) (((p1.1.trans p3.1).trans p5.1).trans p7.1) p7.2.2 p8.1 p8.2 S8
        · show Wp (d + 4) 0 0 M_X12_part 113 [some (.inr (.inr 66))] [.inl 0] y7 _
          have RC := RC.tk p7.1 p7.2.2.1 (Nat.le_refl i)
          have XX := RC.2.1.1
          have MM := RC.2.2.1
          have BB := RC.2.2.2.1
          refine p_if_eq_t 125 rfl rfl (by decide) ?_
          refine p_aload 126 rfl rfl rfl ?_
          refine p_const 129 rfl rfl ?_
          refine p_aload 130 rfl rfl rfl ?_
          refine p_const 131 rfl rfl ?_
          refine p_const 134 rfl rfl ?_
          refine p_callv (le := [some (.inr (.inr 66)), some (.inl 0), some (.inl 9999), none, none]) (as := [.inr (.inr 66), .inl 0, .inl 9999]) (rest := [.inl 1000, .inr (.inr 66)]) 137 0 0 0 0 rfl rfl (Nat.le_of_ble_eq_true rfl) rfl (Nat.le_of_ble_eq_true rfl) rfl rfl (Nat.le_of_ble_eq_true rfl) rfl (Nat.le_of_ble_eq_true rfl) rfl (Nat.le_refl _) (Nat.le_refl _) rfl rfl (tg_66 S7) ?_
          refine m_number S7 O XX LX MM BB pv3 (fun r9 y9 p9 S9 => ?_)
          show Wp (d + 4) 0 0 M_X12_part 137 [some (.inr (.inr 66))] [.inl r9, .inl 1000, .inr (.inr 66)] y9 _
          obtain ⟨kn, num⟩ := p9
          have CC : CodM y9 C := RC.2.2.2.2.2.2.2.1.of (kn.1 66 26 rfl) (fun i => kn.1 84 i rfl)
          have tb := (LX.tl O).2.1 i i7
          have tb4 := tb.2.2.2
          have r9b : 0 ≤ r9 ∧ r9 < 1073741824 := by rcases num with ⟨_, _, e, _⟩ | ⟨_, _, e, _⟩ | ⟨_, e, _⟩ <;> omega
          refine p_iadd (z := 1000 + r9) 138 rfl rfl (w32_id ⟨(by omega), (by omega)⟩) ?_
          refine p_callv (le := [some (.inr (.inr 66)), some (.inl (1000 + r9))]) (as := [.inr (.inr 66), .inl (1000 + r9)]) (rest := []) 141 0 0 0 0 rfl rfl (Nat.le_of_ble_eq_true rfl) rfl (Nat.le_of_ble_eq_true rfl) rfl rfl (Nat.le_of_ble_eq_true rfl) rfl (Nat.le_of_ble_eq_true rfl) rfl (Nat.le_refl _) (Nat.le_refl _) rfl rfl (tg_66 S9) ?_
          refine m_code S9 (1000 + r9) CC (by omega) (fun y10 p10 S10 => ?_)
          show Wp (d + 4) 0 0 M_X12_part 141 [some (.inr (.inr 66))] [] y10 _
          refine p_ret rfl rfl ?_
          -- leaf 5: answer [] h=y10 
          have kB : Keep rtA h0 y10 := (RC.1.trans (kn.wide nmA_rtA)).trans (p10.1.wide cdA_rtA)
          have c26 : gv y10 66 26 = (C.length : Int) + 1 := by rw [p10.2.1, List.length_append]; rfl
          rcases num with ⟨k2, l4, re, M9, b9, e69⟩ | ⟨k2, l4, re, b9, pl⟩ | ⟨k2, re, b9, pl⟩
          · have fe : fAt L i = 1000 + r9 := by unfold fAt; rw [if_pos k2, re]
            refine K1 (by omega) (fun z => by omega) _ ?_ S10
            rw [fe]
            exact (RC.nm kn M9 b9 e69 (Nat.le_succ i)).cd p10.1 p10.2 (by omega)
          · have fe : fAt L i = 1000 + (tk L i).2.2.2 := by unfold fAt; rw [if_pos k2]
            exact K2 (by omega) k2 (by omega) _ ⟨kB, (p10.1.1 66 5 rfl).trans b9, by decide, (p10.1.1 66 6 rfl).trans pl, by omega, by omega⟩ S10
          · have fe : fAt L i = -1 := by
              unfold fAt
              rw [if_neg k2]
              by_cases z : (tk L i).1 = 1
              · rw [if_pos z]
                have n1 := p1.2.1
                have n2 := p3.2.1
                have n3 := p5.2.1
                have n4 := p7.2.1
                rw [w_ship] at n1
                rw [w_hour] at n2
                rw [w_minute] at n3
                rw [w_haze] at n4
                unfold fcd
                rw [if_neg (fun y => n1 ⟨z, y⟩), if_neg (fun y => n2 ⟨z, y⟩), if_neg (fun y => n3 ⟨z, y⟩), if_neg (fun y => n4 ⟨z, y⟩)]
              · rw [if_neg z]
            exact K3 fe _ ⟨kB, (p10.1.1 66 5 rfl).trans b9, by decide, (p10.1.1 66 6 rfl).trans pl, by omega, by omega⟩ S10

