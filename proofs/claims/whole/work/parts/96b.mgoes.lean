/-! THE MODEL'S READER: how a sum goes on -/
theorem plain41 : plainS 41 := ⟨by decide, by decide, by decide, by decide⟩
theorem m_markP {d : Nat} {h : PH} {q : PQ} (S : Shape h) {V : List Int} {b : Int} (Y : StkM h V) (hb : gv h 66 30 = b) (b0 : 0 ≤ b) (lv : V.length ≤ 799) (K : ∀ r, ((hasMark V b ∧ r = 20) ∨ (¬ hasMark V b ∧ r = -1)) → q (some (.inl r)) h) :
    Wp (d + 2) 0 0 M_X12_mark 0 [some (.inr (.inr 66)), none] [] h q := m_mark S Y hb b0 lv (fun z => K _ (Or.inl ⟨z, rfl⟩)) (fun z => K _ (Or.inr ⟨z, rfl⟩))
theorem m_goesHead {d : Nat} {h0 h : PH} {q : PQ} (S : Shape h) {T : Int → Int} {n : Int} {L : List Tok} {i o : Nat} {b : Int} {V C : List Int} (O : TxO T n) (LX : LexA T n L) (R : RdM h0 h T n L i o b V C) (b0 : 0 ≤ b)
    (K1 : isSg L i 41 → hasMark V b → ∀ h', RdM h0 h' T n L i o b V C → gv h' 66 2 = (tk L i).2.1 → Shape h' → Wp (d + 5) 0 0 M_X12_goesOn 25 [some (.inr (.inr 66)), none] [] h' q)
    (K2 : ¬ (isSg L i 41 ∧ hasMark V b) → ∀ h', RdM h0 h' T n L i o b V C → Shape h' → Wp (d + 5) 0 0 M_X12_goesOn 62 [some (.inr (.inr 66)), none] [] h' q) :
    Wp (d + 5) 0 0 M_X12_goesOn 0 [some (.inr (.inr 66)), none] [] h q := by
  have l7 := (LX.tl O).1
  have R0 := R
  obtain ⟨r1, ⟨r2, r3⟩, r4, r5, r6, r7, r8, r9, r10, r11⟩ := R
  have i7 := r4.1
  have TA := LX.tok O i7
  have sg := TA.sg O plain41.1 plain41.2.1 plain41.2.2.1 plain41.2.2.2
  refine p_aload 1 rfl rfl rfl ?_
  refine p_getfi (j := 5) (z := gv h 66 5) 4 rfl rfl rfl (tg_66 S) rfl rfl ?_
  refine p_if_ne_f 7 rfl rfl (by omega) ?_
  refine p_aload 8 rfl rfl rfl ?_
  refine p_callv (le := [some (.inr (.inr 66))]) (as := [.inr (.inr 66)]) (rest := []) 11 0 0 0 0 rfl rfl (Nat.le_of_ble_eq_true rfl) rfl (Nat.le_of_ble_eq_true rfl) rfl rfl (Nat.le_of_ble_eq_true rfl) rfl (Nat.le_of_ble_eq_true rfl) rfl (Nat.le_refl _) (Nat.le_refl _) rfl rfl (tg_66 S) ?_
  refine m_lookT S O r2 LX r4 (fun r1 y1 p1 S1 => ?_)
  show Wp (d + 5) 0 0 M_X12_goesOn 11 [some (.inr (.inr 66)), none] [.inl r1] y1 _
  obtain ⟨kl, re, M2, g2⟩ := p1
  have R1 := R0.tk (kl.wide lukA_tkA) M2 (Nat.le_refl i)
  refine p_const 13 rfl rfl ?_
  refine p_ic_ne 16 62 rfl rfl rfl (fun c2 => ?_) (fun c2 => ?_)
  · skip
    -- leaf 1: loop 62 [some (.inr (.inr 66)), none] st=[] h=y1 
    exact K2 (fun z => by have := sg.1 z.1; omega) _ R1 S1
  · skip
    refine p_aload 17 rfl rfl rfl ?_
    refine p_callv (le := [some (.inr (.inr 66)), none]) (as := [.inr (.inr 66)]) (rest := []) 20 0 0 0 0 rfl rfl (Nat.le_of_ble_eq_true rfl) rfl (Nat.le_of_ble_eq_true rfl) rfl rfl (Nat.le_of_ble_eq_true rfl) rfl (Nat.le_of_ble_eq_true rfl) rfl (Nat.le_refl _) (Nat.le_refl _) rfl rfl (tg_66 S1) ?_
    refine m_markP S1 R1.2.2.2.2.2.2.1 R1.2.2.2.2.2.1 b0 (by omega) (fun r3 p3 => ?_)
    show Wp (d + 5) 0 0 M_X12_goesOn 20 [some (.inr (.inr 66)), none] [.inl r3] y1 _
    refine p_const 22 rfl rfl ?_
    refine p_ic_ne 25 62 rfl rfl rfl (fun c4 => ?_) (fun c4 => ?_)
    · skip
      -- leaf 2: loop 62 [some (.inr (.inr 66)), none] st=[] h=y1 
      rcases p3 with ⟨_, z⟩ | ⟨z, _⟩
      · omega
      · exact K2 (fun y => z y.2) _ R1 S1
    · skip
      -- leaf 3: loop 25 [some (.inr (.inr 66)), none] st=[] h=y1 
      rcases p3 with ⟨z, _⟩ | ⟨_, z⟩
      · exact K1 (sg.2 (by omega)) z _ R1 g2 S1
      · omega
theorem m_goesClose {d : Nat} {h0 h : PH} {q : PQ} (S : Shape h) {T : Int → Int} {n : Int} {L : List Tok} {i o : Nat} {b : Int} {W pend C : List Int} (O : TxO T n) (LX : LexA T n L) (R : RdM h0 h T n L i (o + 1) b (W ++ [20] ++ pend) C) (pp : pendOp pend) (b0 : 0 ≤ b) (bw : b ≤ W.length) (is : isSg L i 41) (g2 : gv h 66 2 = (tk L i).2.1)
    (K : ∀ h', RdM h0 h' T n L (i + 1) o b W (C ++ pend) → Shape h' → Wp (d + 5) 0 0 M_X12_goesOn 0 [some (.inr (.inr 66)), none] [] h' q) :
    Wp (d + 5) 0 0 M_X12_goesOn 25 [some (.inr (.inr 66)), none] [] h q := by
  have l7 := (LX.tl O).1
  have n7 := O.1
  have B := LX.tl O
  obtain ⟨r1, ⟨r2, r3⟩, r4, r5, r6, r7, r8, r9, r10, r11⟩ := R
  have i7 := r4.1
  have TA := LX.tok O i7
  have t2 := TA.2.1
  have m4 := r4.2.2.1
  have ll : (W ++ [20] ++ pend).length = W.length + 1 + pend.length := by rw [List.length_append, List.length_append]; rfl
  rw [ll] at r10
  refine p_aload 26 rfl rfl rfl ?_
  refine p_dup 27 rfl rfl nl_r ?_
  refine p_getfi (j := 2) (z := (tk L i).2.1) 30 rfl rfl rfl (tg_66 S) rfl g2 ?_
  refine p_const 31 rfl rfl ?_
  refine p_iadd (z := ((tk L i).2.1) + 1) 32 rfl rfl (w32_id ⟨(by omega), (by omega)⟩) ?_
  refine p_putfi (j := 2) 35 rfl rfl rfl (fun z => absurd z (by decide)) (tg_66 S) rfl ?_
  refine p_nmh (fun y1 e1 => ?_)
  have S1 : Shape y1 := by rw [e1]; exact S.svF ff_66_2 _
  refine p_aload 36 rfl rfl rfl ?_
  have YA : StkM y1 (W ++ [20] ++ pend) := r8.of (by rw [e1, sv_nf (by decide)]) (fun i => by rw [e1, sv_ne (by decide)])
  have XA : CodM y1 C := r9.of (by rw [e1, sv_nf (by decide)]) (fun i => by rw [e1, sv_ne (by decide)])
  have hbA : gv y1 66 30 = b := by rw [e1, sv_nf (by decide)]; exact r7
  refine p_callv (le := [some (.inr (.inr 66))]) (as := [.inr (.inr 66)]) (rest := []) 39 0 0 0 0 rfl rfl (Nat.le_of_ble_eq_true rfl) rfl (Nat.le_of_ble_eq_true rfl) rfl rfl (Nat.le_of_ble_eq_true rfl) rfl (Nat.le_of_ble_eq_true rfl) rfl (Nat.le_refl _) (Nat.le_refl _) rfl rfl (tg_66 S1) ?_
  refine m_dropsToMark S1 YA XA pp hbA b0 bw (by omega) (by omega) (fun y2 p2 S2 => ?_)
  show Wp (d + 5) 0 0 M_X12_goesOn 39 [some (.inr (.inr 66)), none] [] y2 _
  obtain ⟨kd, Y2, X2⟩ := p2
  have yt := Y2.top
  have w28 := yt.1
  have o29 : gv y2 66 29 = (o : Int) + 1 := by rw [kd.1 66 29 rfl, e1, sv_nf (by decide), r6]; rfl
  refine p_aload 40 rfl rfl rfl ?_
  refine p_dup 41 rfl rfl nl_r ?_
  refine p_getfi (j := 28) (z := gv y2 66 28) 44 rfl rfl rfl (tg_66 S2) rfl rfl ?_
  refine p_const 45 rfl rfl ?_
  refine p_isub (z := (gv y2 66 28) - 1) 46 rfl rfl (w32_id ⟨(by omega), (by omega)⟩) ?_
  refine p_putfi (j := 28) 49 rfl rfl rfl (fun z => absurd z (by decide)) (tg_66 S2) rfl ?_
  refine p_nmh (fun y3 e3 => ?_)
  have S3 : Shape y3 := by rw [e3]; exact S2.svF ff_66_28 _
  refine p_aload 50 rfl rfl rfl ?_
  refine p_dup 51 rfl rfl nl_r ?_
  refine p_getfi (j := 29) (z := gv y2 66 29) 54 rfl rfl rfl (tg_66 S3) rfl (by rw [e3, sv_nf (by decide)]) ?_
  refine p_const 55 rfl rfl ?_
  refine p_isub (z := (gv y2 66 29) - 1) 56 rfl rfl (w32_id ⟨(by omega), (by omega)⟩) ?_
  refine p_putfi (j := 29) 59 rfl rfl rfl (fun z => absurd z (by decide)) (tg_66 S3) rfl ?_
  refine p_nmh (fun y4 e4 => ?_)
  have S4 : Shape y4 := by rw [e4]; exact S3.svF ff_66_29 _
  refine p_goto 0 rfl rfl ?_
  -- leaf 1: loop 0 [some (.inr (.inr 66)), none] st=[] h=y4 e4,e3
  have f : ∀ j, j ≠ 28 → j ≠ 29 → gv y4 66 j = gv y2 66 j := fun j hj hk => by rw [e4, sv_nf (by omega), e3, sv_nf (by omega)]
  have f2 : ∀ a j, a ≠ 66 → gv y4 a j = gv y2 a j := fun a j ha => by rw [e4, sv_ne (by omega), e3, sv_ne (by omega)]
  have g : ∀ j, j ≠ 2 → gv y1 66 j = gv h 66 j := fun j hj => by rw [e1, sv_nf (by omega)]
  have g2' : ∀ a j, a ≠ 66 → gv y1 a j = gv h a j := fun a j ha => by rw [e1, sv_ne (by omega)]
  have kA : Keep rtA h y1 := by rw [e1]; exact (Keep.rf _ _).sv rfl _
  have kC : Keep rtA y2 y4 := by rw [e4, e3]; exact ((Keep.rf _ _).sv rfl _).sv rfl _
  have kAll : Keep rtA h y4 := (kA.trans (kd.wide drA_rtA)).trans kC
  refine K _ ⟨r1.trans kAll, ⟨r2.kp (kAll.1 66 3 rfl) (fun i => kAll.1 67 i rfl), r3.kp kAll rtA_wd⟩, MAt.sign O LX (B.nx i7 (by rw [is.1]; decide)).1 is.1 t2.1 ?_ ?_, ?_, ?_, ?_, Y2.pop ?_ (fun i => f2 85 i (by decide)), X2.of (f 26 (by decide) (by decide)) (fun i => f2 84 i (by decide)), ?_, by omega, by rw [f 6 (by decide) (by decide), kd.1 66 6 rfl, g 6 (by decide)]; exact r11.2⟩ S4
  · rw [f 2 (by decide) (by decide), kd.1 66 2 rfl, e1, sv_eq]
  · rw [f 4 (by decide) (by decide), kd.1 66 4 rfl, g 4 (by decide)]; omega
  · rw [f 5 (by decide) (by decide), kd.1 66 5 rfl, g 5 (by decide)]; exact r5
  · rw [e4, sv_eq]; omega
  · rw [f 30 (by decide) (by decide), kd.1 66 30 rfl, g 30 (by decide)]; exact r7
  · rw [e4, sv_nf (by decide), e3, sv_eq]; omega
  · rw [List.length_append]; omega

