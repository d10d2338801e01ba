/-! THE MODEL'S READER: a comparison, or all -/
/-- the model has met a fault; as many codes as a comparison may leave -/
def BdT (h0 h : PH) (k p : Int) : Prop := Keep rtA h0 h ∧ gv h 66 5 = k ∧ k ≠ 0 ∧ gv h 66 6 = p ∧ 0 ≤ gv h 66 26 ∧ gv h 66 26 ≤ 699
theorem BdM.t {h0 h : PH} {k p : Int} (B : BdM h0 h k p) : BdT h0 h k p := ⟨B.1, B.2.1, B.2.2.1, B.2.2.2.1, B.2.2.2.2.1, by have := B.2.2.2.2.2; omega⟩
def C3 (L : List Tok) (o i : Nat) (r : Rs) : Prop := (∃ k p, r = bdR k p ∧ Dv L 1 [] o i (bdR k p)) ∨ ∃ j c, Dv L 1 [] o i (okR j c) ∧ ((cAt L j = -1 ∧ r = bdR 1 (tk L j).2.1) ∨ (cAt L j ≠ -1 ∧ ((∃ k p, r = bdR k p ∧ Dv L 1 [] o (j + 1) (bdR k p)) ∨ ∃ j' c', r = okR j' (c ++ c' ++ [cAt L j]) ∧ Dv L 1 [] o (j + 1) (okR j' c'))))
def FcT (L : List Tok) (o i : Nat) (r : Rs) : Prop := (isWd L i 1420 ∧ r = okR (i + 1) [17]) ∨ (¬ isWd L i 1420 ∧ C3 L o i r)
theorem w_all : wf (chr [97, 108, 108]) 3 = 1420 := by decide
theorem cAt_T {T : Int → Int} {n : Int} {L : List Tok} {i : Nat} (O : TxO T n) (A : TokA T n L i) : (T (tk L i).2.1 = 60 ∧ cAt L i = 11) ∨ (T (tk L i).2.1 = 62 ∧ cAt L i = 12) ∨ (T (tk L i).2.1 = 61 ∧ cAt L i = 13) ∨ (T (tk L i).2.1 ≠ 60 ∧ T (tk L i).2.1 ≠ 62 ∧ T (tk L i).2.1 ≠ 61 ∧ cAt L i = -1) := by
  have s1 := A.sg O (c := 60) (by decide) (by decide) (by decide) (by decide)
  have s2 := A.sg O (c := 62) (by decide) (by decide) (by decide) (by decide)
  have s3 := A.sg O (c := 61) (by decide) (by decide) (by decide) (by decide)
  by_cases e1 : T (tk L i).2.1 = 60
  · have y := s1.2 e1
    exact Or.inl ⟨e1, by unfold cAt; rw [if_pos y.1, y.2]; rfl⟩
  · by_cases e2 : T (tk L i).2.1 = 62
    · have y := s2.2 e2
      exact Or.inr (Or.inl ⟨e2, by unfold cAt; rw [if_pos y.1, y.2]; rfl⟩)
    · by_cases e3 : T (tk L i).2.1 = 61
      · have y := s3.2 e3
        exact Or.inr (Or.inr (Or.inl ⟨e3, by unfold cAt; rw [if_pos y.1, y.2]; rfl⟩))
      · refine Or.inr (Or.inr (Or.inr ⟨e1, e2, e3, ?_⟩))
        unfold cAt
        by_cases k : (tk L i).1 = 4
        · rw [if_pos k]
          unfold ccd
          rw [if_neg (fun y => e1 (s1.1 ⟨k, y⟩)), if_neg (fun y => e2 (s2.1 ⟨k, y⟩)), if_neg (fun y => e3 (s3.1 ⟨k, y⟩))]
        · rw [if_neg k]
theorem m_fact {d : Nat} {h0 h : PH} {q : PQ} (S : Shape h) {T : Int → Int} {n : Int} {L : List Tok} {i o : Nat} {bb : Int} {W C : List Int} {r : Rs} (O : TxO T n) (LX : LexA T n L) (D : FcT L o i r) (R : RdM h0 h T n L i o bb W C) (p3 : (prv L i).1 ≠ 3) (no : noOp W)
    (K1 : ∀ j c, r = okR j c → ∀ h', RdM h0 h' T n L j o bb W (C ++ c) → Shape h' → q none h') (K2 : ∀ k p, r = bdR k p → ∀ h', BdT h0 h' k p → Shape h' → q none h') :
    Wp (d + 7) 0 0 M_X12_fact 0 [some (.inr (.inr 66)), none] [] h q := by
  have l7 := (LX.tl O).1
  have n7 := O.1
  have B := LX.tl O
  have R0 := R
  obtain ⟨r1, ⟨r2, r3⟩, r4, r5, r6, r7, r8, r9, r10, r11⟩ := R
  have i7 := r4.1
  have J77 : ∀ (h1 : PH) (c cd : Int) (j : Nat) (D cc : List Int), cd = (if c = 60 then 11 else if c = 62 then 12 else 13) → r = okR j cc → D ++ [cd] = C ++ cc → RdM h0 h1 T n L j o bb W D → W.length + D.length + 5 ≤ j → Shape h1 → Wp (d + 7) 0 0 M_X12_fact 77 [some (.inr (.inr 66)), some (.inl c)] [] h1 q := by
    intro h1 c cd j D cc ec er eD R1 ll S1
    have u9 := R1.2.2.2.2.2.2.2.1
    have j7 := R1.2.2.1.1
    have go : ∀ (x : Int) (y : PH), x = cd → Keep cdA h1 y → CodM y (D ++ [x]) → Shape y → q none y := fun x y ex k c Sy => K1 j cc er y (by rw [← eD, ← ex]; exact R1.cd k c ll) Sy
    refine p_aload 78 rfl rfl rfl ?_
    refine p_iload 79 rfl rfl rfl ?_
    refine p_const 81 rfl rfl ?_
    refine p_ic_ne 84 89 rfl rfl rfl (fun c1 => ?_) (fun c1 => ?_)
    · skip
      refine p_iload 90 rfl rfl rfl ?_
      refine p_const 92 rfl rfl ?_
      refine p_ic_ne 95 100 rfl rfl rfl (fun c2 => ?_) (fun c2 => ?_)
      · skip
        refine p_const 102 rfl rfl ?_
        refine p_callv (le := [some (.inr (.inr 66)), some (.inl 13)]) (as := [.inr (.inr 66), .inl 13]) (rest := []) 105 0 0 0 0 rfl rfl (Nat.le_of_ble_eq_true rfl) rfl (Nat.le_of_ble_eq_true rfl) rfl rfl (Nat.le_of_ble_eq_true rfl) rfl (Nat.le_of_ble_eq_true rfl) rfl (Nat.le_refl _) (Nat.le_refl _) rfl rfl (tg_66 S1) ?_
        refine m_code S1 13 u9 (by omega) (fun y3 p3 S3 => ?_)
        show Wp (d + 7) 0 0 M_X12_fact 105 [some (.inr (.inr 66)), some (.inl c)] [] y3 _
        refine p_ret rfl rfl ?_
        -- leaf 1: answer [] h=y3 
        exact go 13 _ (by rw [ec, if_neg (by omega), if_neg (by omega)]) p3.1 p3.2 S3
      · skip
        refine p_const 97 rfl rfl ?_
        refine p_goto 102 rfl rfl ?_
        refine p_callv (le := [some (.inr (.inr 66)), some (.inl 12)]) (as := [.inr (.inr 66), .inl 12]) (rest := []) 105 0 0 0 0 rfl rfl (Nat.le_of_ble_eq_true rfl) rfl (Nat.le_of_ble_eq_true rfl) rfl rfl (Nat.le_of_ble_eq_true rfl) rfl (Nat.le_of_ble_eq_true rfl) rfl (Nat.le_refl _) (Nat.le_refl _) rfl rfl (tg_66 S1) ?_
        refine m_code S1 12 u9 (by omega) (fun y4 p4 S4 => ?_)
        show Wp (d + 7) 0 0 M_X12_fact 105 [some (.inr (.inr 66)), some (.inl c)] [] y4 _
        refine p_ret rfl rfl ?_
        -- leaf 2: answer [] h=y4 
        exact go 12 _ (by rw [ec, if_neg (by omega), if_pos (by omega)]) p4.1 p4.2 S4
    · skip
      refine p_const 86 rfl rfl ?_
      refine p_goto 102 rfl rfl ?_
      refine p_callv (le := [some (.inr (.inr 66)), some (.inl 11)]) (as := [.inr (.inr 66), .inl 11]) (rest := []) 105 0 0 0 0 rfl rfl (Nat.le_of_ble_eq_true rfl) rfl (Nat.le_of_ble_eq_true rfl) rfl rfl (Nat.le_of_ble_eq_true rfl) rfl (Nat.le_of_ble_eq_true rfl) rfl (Nat.le_refl _) (Nat.le_refl _) rfl rfl (tg_66 S1) ?_
      refine m_code S1 11 u9 (by omega) (fun y5 p5 S5 => ?_)
      show Wp (d + 7) 0 0 M_X12_fact 105 [some (.inr (.inr 66)), some (.inl c)] [] y5 _
      refine p_ret rfl rfl ?_
      -- leaf 3: answer [] h=y5 
      exact go 11 _ (by rw [ec, if_pos (by omega)]) p5.1 p5.2 S5
  have J77b : ∀ (h1 : PH) (c k p : Int), r = bdR k p → BdM h0 h1 k p → Shape h1 → Wp (d + 7) 0 0 M_X12_fact 77 [some (.inr (.inr 66)), some (.inl c)] [] h1 q := by
    intro h1 c k p er B1 S1
    obtain ⟨b1, b2, b3, b4, b5, b6⟩ := B1
    have gb : ∀ (y x : PH) {a : Int} {v w : Int}, a < 700 → y = sv x 66 26 w → x = sv h1 84 a v → w = gv h1 66 26 + 1 → Shape y → q none y := by
      intro y x a v w a7 ey ex ew Sy
      refine K2 k p er y ⟨by rw [ey, ex]; exact (b1.sv (decide_eq_true (by omega)) _).sv rfl _, ?_, b3, ?_, ?_, ?_⟩ Sy <;> rw [ey]
      · rw [sv_nf (by decide), ex, sv_ne (by decide)]; exact b2
      · rw [sv_nf (by decide), ex, sv_ne (by decide)]; exact b4
      · rw [sv_eq]; omega
      · rw [sv_eq]; omega
    refine p_aload 78 rfl rfl rfl ?_
    refine p_iload 79 rfl rfl rfl ?_
    refine p_const 81 rfl rfl ?_
    refine p_ic_ne 84 89 rfl rfl rfl (fun c1 => ?_) (fun c1 => ?_)
    · skip
      refine p_iload 90 rfl rfl rfl ?_
      refine p_const 92 rfl rfl ?_
      refine p_ic_ne 95 100 rfl rfl rfl (fun c2 => ?_) (fun c2 => ?_)
      · skip
        refine p_const 102 rfl rfl ?_
        refine p_callv (le := [some (.inr (.inr 66)), some (.inl 13)]) (as := [.inr (.inr 66), .inl 13]) (rest := []) 105 0 0 0 0 rfl rfl (Nat.le_of_ble_eq_true rfl) rfl (Nat.le_of_ble_eq_true rfl) rfl rfl (Nat.le_of_ble_eq_true rfl) rfl (Nat.le_of_ble_eq_true rfl) rfl (Nat.le_refl _) (Nat.le_refl _) rfl rfl (tg_66 S1) ?_
        refine p_aload 1 rfl rfl rfl ?_
        refine p_getfr (j := 25) (z := 84) 4 rfl rfl rfl (tg_66 S1) rfl (fi_66_25 S1) ?_
        refine p_const 5 rfl rfl ?_
        refine p_aload 6 rfl rfl rfl ?_
        refine p_getfi (j := 26) (z := gv h1 66 26) 9 rfl rfl rfl (tg_66 S1) rfl rfl ?_
        refine p_iadd (z := 0 + (gv h1 66 26)) 10 rfl rfl (w32_id ⟨(by omega), (by omega)⟩) ?_
        refine p_iload 11 rfl rfl rfl ?_
        refine p_iast (w := 140700) 12 rfl rfl (by decide) (tg_84 S1) (ln_84 S1) (by omega) (by omega) ?_
        refine p_nmh (fun y3 e3 => ?_)
        have S3 : Shape y3 := by rw [e3]; exact S1.svA fa_84 _ _
        refine p_aload 13 rfl rfl rfl ?_
        refine p_dup 14 rfl rfl nl_r ?_
        refine p_getfi (j := 26) (z := gv h1 66 26) 17 rfl rfl rfl (tg_66 S3) rfl (by rw [e3, sv_ne (by decide)]) ?_
        refine p_const 18 rfl rfl ?_
        refine p_iadd (z := (gv h1 66 26) + 1) 19 rfl rfl (w32_id ⟨(by omega), (by omega)⟩) ?_
        refine p_putfi (j := 26) 22 rfl rfl rfl (fun z => absurd z (by decide)) (tg_66 S3) rfl ?_
        refine p_nmh (fun y4 e4 => ?_)
        have S4 : Shape y4 := by rw [e4]; exact S3.svF ff_66_26 _
        refine p_ret rfl rfl ?_
        show Wp (d + 7) 0 0 M_X12_fact 105 [some (.inr (.inr 66)), some (.inl c)] [] y4 _
        refine p_ret rfl rfl ?_
        -- leaf 1: answer [] h=y4 e4,e3
        exact gb _ _ (by omega) e4 e3 (by first | rfl | omega) S4
      · skip
        refine p_const 97 rfl rfl ?_
        refine p_goto 102 rfl rfl ?_
        refine p_callv (le := [some (.inr (.inr 66)), some (.inl 12)]) (as := [.inr (.inr 66), .inl 12]) (rest := []) 105 0 0 0 0 rfl rfl (Nat.le_of_ble_eq_true rfl) rfl (Nat.le_of_ble_eq_true rfl) rfl rfl (Nat.le_of_ble_eq_true rfl) rfl (Nat.le_of_ble_eq_true rfl) rfl (Nat.le_refl _) (Nat.le_refl _) rfl rfl (tg_66 S1) ?_
        refine p_aload 1 rfl rfl rfl ?_
        refine p_getfr (j := 25) (z := 84) 4 rfl rfl rfl (tg_66 S1) rfl (fi_66_25 S1) ?_
        refine p_const 5 rfl rfl ?_
        refine p_aload 6 rfl rfl rfl ?_
        refine p_getfi (j := 26) (z := gv h1 66 26) 9 rfl rfl rfl (tg_66 S1) rfl rfl ?_
        refine p_iadd (z := 0 + (gv h1 66 26)) 10 rfl rfl (w32_id ⟨(by omega), (by omega)⟩) ?_
        refine p_iload 11 rfl rfl rfl ?_
        refine p_iast (w := 140700) 12 rfl rfl (by decide) (tg_84 S1) (ln_84 S1) (by omega) (by omega) ?_
        refine p_nmh (fun y5 e5 => ?_)
        have S5 : Shape y5 := by rw [e5]; exact S1.svA fa_84 _ _
        refine p_aload 13 rfl rfl rfl ?_
        refine p_dup 14 rfl rfl nl_r ?_
        refine p_getfi (j := 26) (z := gv h1 66 26) 17 rfl rfl rfl (tg_66 S5) rfl (by rw [e5, sv_ne (by decide)]) ?_
        refine p_const 18 rfl rfl ?_
        refine p_iadd (z := (gv h1 66 26) + 1) 19 rfl rfl (w32_id ⟨(by omega), (by omega)⟩) ?_
        refine p_putfi (j := 26) 22 rfl rfl rfl (fun z => absurd z (by decide)) (tg_66 S5) rfl ?_
        refine p_nmh (fun y6 e6 => ?_)
        have S6 : Shape y6 := by rw [e6]; exact S5.svF ff_66_26 _
        refine p_ret rfl rfl ?_
        show Wp (d + 7) 0 0 M_X12_fact 105 [some (.inr (.inr 66)), some (.inl c)] [] y6 _
        refine p_ret rfl rfl ?_
        -- leaf 2: answer [] h=y6 e6,e5
        exact gb _ _ (by omega) e6 e5 (by first | rfl | omega) S6
    · skip
      refine p_const 86 rfl rfl ?_
      refine p_goto 102 rfl rfl ?_
      refine p_callv (le := [some (.inr (.inr 66)), some (.inl 11)]) (as := [.inr (.inr 66), .inl 11]) (rest := []) 105 0 0 0 0 rfl rfl (Nat.le_of_ble_eq_true rfl) rfl (Nat.le_of_ble_eq_true rfl) rfl rfl (Nat.le_of_ble_eq_true rfl) rfl (Nat.le_of_ble_eq_true rfl) rfl (Nat.le_refl _) (Nat.le_refl _) rfl rfl (tg_66 S1) ?_
      refine p_aload 1 rfl rfl rfl ?_
      refine p_getfr (j := 25) (z := 84) 4 rfl rfl rfl (tg_66 S1) rfl (fi_66_25 S1) ?_
      refine p_const 5 rfl rfl ?_
      refine p_aload 6 rfl rfl rfl ?_
      refine p_getfi (j := 26) (z := gv h1 66 26) 9 rfl rfl rfl (tg_66 S1) rfl rfl ?_
      refine p_iadd (z := 0 + (gv h1 66 26)) 10 rfl rfl (w32_id ⟨(by omega), (by omega)⟩) ?_
      refine p_iload 11 rfl rfl rfl ?_
      refine p_iast (w := 140700) 12 rfl rfl (by decide) (tg_84 S1) (ln_84 S1) (by omega) (by omega) ?_
      refine p_nmh (fun y7 e7 => ?_)
      have S7 : Shape y7 := by rw [e7]; exact S1.svA fa_84 _ _
      refine p_aload 13 rfl rfl rfl ?_
      refine p_dup 14 rfl rfl nl_r ?_
      refine p_getfi (j := 26) (z := gv h1 66 26) 17 rfl rfl rfl (tg_66 S7) rfl (by rw [e7, sv_ne (by decide)]) ?_
      refine p_const 18 rfl rfl ?_
      refine p_iadd (z := (gv h1 66 26) + 1) 19 rfl rfl (w32_id ⟨(by omega), (by omega)⟩) ?_
      refine p_putfi (j := 26) 22 rfl rfl rfl (fun z => absurd z (by decide)) (tg_66 S7) rfl ?_
      refine p_nmh (fun y8 e8 => ?_)
      have S8 : Shape y8 := by rw [e8]; exact S7.svF ff_66_26 _
      refine p_ret rfl rfl ?_
      show Wp (d + 7) 0 0 M_X12_fact 105 [some (.inr (.inr 66)), some (.inl c)] [] y8 _
      refine p_ret rfl rfl ?_
      -- leaf 3: answer [] h=y8 e8,e7
      exact gb _ _ (by omega) e8 e7 (by first | rfl | omega) S8
  have J63 : ∀ (h1 : PH) (c : Int) (j : Nat) (cc : List Int), cAt L j = (if c = 60 then 11 else if c = 62 then 12 else 13) → cAt L j ≠ -1 → Dv L 1 [] o i (okR j cc) → ((∃ k p, r = bdR k p ∧ Dv L 1 [] o (j + 1) (bdR k p)) ∨ ∃ j' c', r = okR j' (cc ++ c' ++ [cAt L j]) ∧ Dv L 1 [] o (j + 1) (okR j' c')) → RdM h0 h1 T n L j o bb W (C ++ cc) → gv h1 66 2 = (tk L j).2.1 → Shape h1 → Wp (d + 7) 0 0 M_X12_fact 63 [some (.inr (.inr 66)), some (.inl c)] [] h1 q := by
    intro h1 c j cc ec cn Dc D2 R1 g2 S1
    have k4 := cAt_k cn
    have m4 := R1.2.2.1.2.2.1
    have j7 := R1.2.2.1.1
    have t2 := (LX.tok O j7).2.1
    have ln := Dc.len1 (by decide)
    have go : ∀ y : PH, y = sv h1 66 2 ((tk L j).2.1 + 1) → Shape y → Wp (d + 6) 0 0 M_X12_sums 0 [some (.inr (.inr 66)), none, none] [] y (fun r h' => Wp (d + 7) 0 0 M_X12_fact 77 [some (.inr (.inr 66)), some (.inl c)] (r.toList ++ []) h' q) := by
      intro y ey Sy
      have kt : Keep tkA h1 y := by rw [ey]; exact (Keep.rf _ _).sv rfl _
      have M2 : MAt y T n L (j + 1) := MAt.sign O LX (B.nx j7 (by omega)).1 k4 t2.1 (by rw [ey, sv_eq]) (by rw [ey, sv_nf (by decide)]; omega)
      have R2 := R1.tk kt M2 (Nat.le_succ j)
      rcases D2 with ⟨k, p, er, D2⟩ | ⟨j', c', er, D2⟩
      · exact m_sums Sy O LX D2 R2 (prv_sg k4) no (fun _ _ z => by cases z) (fun k' p' z h' B' S' => by cases z; exact J77b h' c k p er B' S')
      · have ln2 := D2.len1 (by decide)
        refine m_sums Sy O LX D2 R2 (prv_sg k4) no (fun j2 c2 z h' R' S' => ?_) (fun _ _ z => by cases z)
        cases z
        exact J77 h' c (cAt L j) j' (C ++ cc ++ c') (cc ++ c' ++ [cAt L j]) ec er (by rw [List.append_assoc, List.append_assoc, List.append_assoc]) R' (by rw [List.length_append, List.length_append]; omega) S'
    refine p_aload 64 rfl rfl rfl ?_
    refine p_dup 65 rfl rfl nl_r ?_
    refine p_getfi (j := 2) (z := (tk L j).2.1) 68 rfl rfl rfl (tg_66 S1) rfl g2 ?_
    refine p_const 69 rfl rfl ?_
    refine p_iadd (z := ((tk L j).2.1) + 1) 70 rfl rfl (w32_id ⟨(by omega), (by omega)⟩) ?_
    refine p_putfi (j := 2) 73 rfl rfl rfl (fun z => absurd z (by decide)) (tg_66 S1) rfl ?_
    refine p_nmh (fun y1 e1 => ?_)
    have S1 : Shape y1 := by rw [e1]; exact S1.svF ff_66_2 _
    refine p_aload 74 rfl rfl rfl ?_
    refine p_callv (le := [some (.inr (.inr 66)), none, none]) (as := [.inr (.inr 66)]) (rest := []) 77 0 0 0 0 rfl rfl (Nat.le_of_ble_eq_true rfl) rfl (Nat.le_of_ble_eq_true rfl) rfl rfl (Nat.le_of_ble_eq_true rfl) rfl (Nat.le_of_ble_eq_true rfl) rfl (Nat.le_refl _) (Nat.le_refl _) rfl rfl (tg_66 S1) ?_
    exact go _ e1 S1
  have J22 : ∀ (h1 : PH) (j : Nat) (cc : List Int), Dv L 1 [] o i (okR j cc) → ((cAt L j = -1 ∧ r = bdR 1 (tk L j).2.1) ∨ (cAt L j ≠ -1 ∧ ((∃ k p, r = bdR k p ∧ Dv L 1 [] o (j + 1) (bdR k p)) ∨ ∃ j' c', r = okR j' (cc ++ c' ++ [cAt L j]) ∧ Dv L 1 [] o (j + 1) (okR j' c')))) → RdM h0 h1 T n L j o bb W (C ++ cc) → Shape h1 → Wp (d + 7) 0 0 M_X12_fact 22 [some (.inr (.inr 66)), none] [] h1 q := by
    intro h1 j cc Dc D2 R1 S1
    have u5 := R1.2.2.2.1
    have c26 := R1.2.2.2.2.2.2.2.1.1
    have u10 := R1.2.2.2.2.2.2.2.2.1
    have j7 := R1.2.2.1.1
    have ct := cAt_T O (LX.tok O j7)
    refine p_aload 23 rfl rfl rfl ?_
    refine p_getfi (j := 5) (z := gv h1 66 5) 26 rfl rfl rfl (tg_66 S1) rfl rfl ?_
    refine p_if_eq_t 30 rfl rfl (by omega) ?_
    refine p_aload 31 rfl rfl rfl ?_
    refine p_callv (le := [some (.inr (.inr 66))]) (as := [.inr (.inr 66)]) (rest := []) 34 0 0 0 0 rfl rfl (Nat.le_of_ble_eq_true rfl) rfl (Nat.le_of_ble_eq_true rfl) rfl rfl (Nat.le_of_ble_eq_true rfl) rfl (Nat.le_of_ble_eq_true rfl) rfl (Nat.le_refl _) (Nat.le_refl _) rfl rfl (tg_66 S1) ?_
    refine m_lookT S1 O R1.2.1.1 LX R1.2.2.1 (fun r1 y1 p1 S1 => ?_)
    show Wp (d + 7) 0 0 M_X12_fact 34 [some (.inr (.inr 66)), none] [.inl r1] y1 _
    obtain ⟨kl, re, M2, g2⟩ := p1
    have R2 := R1.tk (kl.wide lukA_tkA) M2 (Nat.le_refl j)
    refine p_istore (ls' := [some (.inr (.inr 66)), some (.inl r1)]) 35 rfl rfl (Nat.le_of_ble_eq_true rfl) rfl ?_
    refine p_iload 36 rfl rfl rfl ?_
    refine p_const 38 rfl rfl ?_
    refine p_ic_eq 41 63 rfl rfl rfl (fun c2 => ?_) (fun c2 => ?_)
    · skip
      -- leaf 1: loop 63 [some (.inr (.inr 66)), some (.inl r1)] st=[] h=y1 
      have jn : cAt L j = 11 := by rcases ct with ⟨_, z⟩ | ⟨z, _⟩ | ⟨z, _⟩ | ⟨z, _⟩ <;> omega
      rcases D2 with ⟨z, _⟩ | ⟨cn, D2⟩
      · omega
      · exact J63 _ r1 j cc (by rw [if_pos c2]; exact jn) cn Dc D2 R2 g2 S1
    · skip
      refine p_iload 42 rfl rfl rfl ?_
      refine p_const 44 rfl rfl ?_
      refine p_ic_eq 47 63 rfl rfl rfl (fun c3 => ?_) (fun c3 => ?_)
      · skip
        -- leaf 2: loop 63 [some (.inr (.inr 66)), some (.inl r1)] st=[] h=y1 
        have jn : cAt L j = 12 := by rcases ct with ⟨z, _⟩ | ⟨_, z⟩ | ⟨z, _⟩ | ⟨_, z, _⟩ <;> omega
        rcases D2 with ⟨z, _⟩ | ⟨cn, D2⟩
        · omega
        · exact J63 _ r1 j cc (by rw [if_neg c2, if_pos c3]; exact jn) cn Dc D2 R2 g2 S1
      · skip
        refine p_iload 48 rfl rfl rfl ?_
        refine p_const 50 rfl rfl ?_
        refine p_ic_eq 53 63 rfl rfl rfl (fun c4 => ?_) (fun c4 => ?_)
        · skip
          -- leaf 3: loop 63 [some (.inr (.inr 66)), some (.inl r1)] st=[] h=y1 
          have jn : cAt L j = 13 := by rcases ct with ⟨z, _⟩ | ⟨z, _⟩ | ⟨_, z⟩ | ⟨_, _, z, _⟩ <;> omega
          rcases D2 with ⟨z, _⟩ | ⟨cn, D2⟩
          · omega
          · exact J63 _ r1 j cc (by rw [if_neg c2, if_neg c3]; exact jn) cn Dc D2 R2 g2 S1
        · skip
          refine p_aload 54 rfl rfl rfl ?_
          refine p_const 55 rfl rfl ?_
          refine p_aload 56 rfl rfl rfl ?_
          refine p_getfi (j := 2) (z := gv y1 66 2) 59 rfl rfl rfl (tg_66 S1) rfl rfl ?_
          refine p_callv (le := [some (.inr (.inr 66)), some (.inl 1), some (.inl (gv y1 66 2))]) (as := [.inr (.inr 66), .inl 1, .inl (gv y1 66 2)]) (rest := []) 62 0 0 0 0 rfl rfl (Nat.le_of_ble_eq_true rfl) rfl (Nat.le_of_ble_eq_true rfl) rfl rfl (Nat.le_of_ble_eq_true rfl) rfl (Nat.le_of_ble_eq_true rfl) rfl (Nat.le_refl _) (Nat.le_refl _) rfl rfl (tg_66 S1) ?_
          refine p_aload 1 rfl rfl rfl ?_
          refine p_getfi (j := 5) (z := gv y1 66 5) 4 rfl rfl rfl (tg_66 S1) rfl rfl ?_
          refine p_if_eq 7 8 rfl rfl rfl (fun c5 => ?_) (fun c5 => ?_)
          · skip
            refine p_aload 9 rfl rfl rfl ?_
            refine p_iload 10 rfl rfl rfl ?_
            refine p_putfi (j := 5) 13 rfl rfl rfl (fun z => absurd z (by decide)) (tg_66 S1) rfl ?_
            refine p_nmh (fun y6 e6 => ?_)
            have S6 : Shape y6 := by rw [e6]; exact S1.svF ff_66_5 _
            refine p_aload 14 rfl rfl rfl ?_
            refine p_iload 15 rfl rfl rfl ?_
            refine p_putfi (j := 6) 18 rfl rfl rfl (fun z => absurd z (by decide)) (tg_66 S6) rfl ?_
            refine p_nmh (fun y7 e7 => ?_)
            have S7 : Shape y7 := by rw [e7]; exact S6.svF ff_66_6 _
            refine p_ret rfl rfl ?_
            show Wp (d + 7) 0 0 M_X12_fact 62 [some (.inr (.inr 66)), some (.inl r1)] [] y7 _
            refine p_ret rfl rfl ?_
            -- leaf 4: answer [] h=y7 e7,e6
            have jn : cAt L j = -1 := by rcases ct with ⟨z, _⟩ | ⟨z, _⟩ | ⟨z, _⟩ | ⟨_, _, _, z⟩ <;> omega
            have d26 : gv y1 66 26 = ((C ++ cc).length : Int) := (kl.1 66 26 rfl).trans c26
            rcases D2 with ⟨_, er⟩ | ⟨cn, _⟩
            · refine K2 _ _ er _ ⟨by rw [e7, e6]; exact (R2.1.sv rfl _).sv rfl _, by rw [e7, sv_nf (by decide), e6, sv_eq], by decide, by rw [e7, sv_eq]; exact g2, ?_, ?_⟩ S7
              · rw [e7, sv_nf (by decide), e6, sv_nf (by decide), d26]; omega
              · rw [e7, sv_nf (by decide), e6, sv_nf (by decide), d26]; omega
            · exact absurd jn cn
          · skip
            refine p_ret rfl rfl ?_
            show Wp (d + 7) 0 0 M_X12_fact 62 [some (.inr (.inr 66)), some (.inl r1)] [] y1 _
            refine p_ret rfl rfl ?_
            -- leaf 5: answer [] h=y1 
            have := R2.2.2.2.1; omega
  have J22b : ∀ (h1 : PH) (k p : Int), r = bdR k p → BdM h0 h1 k p → Shape h1 → Wp (d + 7) 0 0 M_X12_fact 22 [some (.inr (.inr 66)), none] [] h1 q := by
    intro h1 k p er B1 S1
    have b2 := B1.2.1
    have b3 := B1.2.2.1
    refine p_aload 23 rfl rfl rfl ?_
    refine p_getfi (j := 5) (z := gv h1 66 5) 26 rfl rfl rfl (tg_66 S1) rfl rfl ?_
    refine p_if_eq_f 29 rfl rfl (by omega) ?_
    refine p_ret rfl rfl ?_
    -- leaf 1: answer [] h=h1 
    exact K2 k p er _ B1.t S1
  have go : ∀ y : PH, Keep tkA h y → ¬ isWd L i (wf (chr [97, 108, 108]) 3) → MAt y T n L i → Shape y → Wp (d + 6) 0 0 M_X12_sums 0 [some (.inr (.inr 66)), none, none] [] y (fun r h' => Wp (d + 7) 0 0 M_X12_fact 22 [some (.inr (.inr 66)), none] (r.toList ++ []) h' q) := by
    intro y kt nw M2 Sy
    rw [w_all] at nw
    have R2 := R0.tk kt M2 (Nat.le_refl i)
    rcases D with ⟨z, _⟩ | ⟨_, ⟨k, p, er, D1⟩ | ⟨j, c, D1, D2⟩⟩
    · exact absurd z nw
    · exact m_sums Sy O LX D1 R2 p3 no (fun _ _ z => by cases z) (fun k' p' z h' B' S' => by cases z; exact J22b h' k p er B' S')
    · refine m_sums Sy O LX D1 R2 p3 no (fun j2 c2 z h' R' S' => ?_) (fun _ _ z => by cases z)
      cases z
      exact J22 h' j c D1 D2 R' S'
  refine p_aload 1 rfl rfl rfl ?_
  refine p_aload 2 rfl rfl rfl ?_
  refine p_getfr (j := 15) (z := 74) 5 rfl rfl rfl (tg_66 S) rfl (fi_66_15 S) ?_
  refine p_callv (le := [some (.inr (.inr 66)), some (.inr (.inr 74))]) (as := [.inr (.inr 66), .inr (.inr 74)]) (rest := []) 8 0 0 0 0 rfl rfl (Nat.le_of_ble_eq_true rfl) rfl (Nat.le_of_ble_eq_true rfl) rfl rfl (Nat.le_of_ble_eq_true rfl) rfl (Nat.le_of_ble_eq_true rfl) rfl (Nat.le_refl _) (Nat.le_refl _) rfl rfl (tg_66 S) ?_
  refine m_takesW S 74 r3.2.2.2.2.2.2.1 (by decide) O r2 LX r4 r5 (fun y1 p1 S1 => ?_) (fun y1 p1 S1 => ?_)
  · show Wp (d + 7) 0 0 M_X12_fact 8 [some (.inr (.inr 66)), none] [.inl 1] y1 _
    refine p_if_eq_f 11 rfl rfl (by decide) ?_
    have RC := R0.tk p1.1 p1.2.2 (Nat.le_succ i)
    have CC := RC.2.2.2.2.2.2.2.1
    refine p_aload 12 rfl rfl rfl ?_
    refine p_const 14 rfl rfl ?_
    refine p_callv (le := [some (.inr (.inr 66)), some (.inl 17)]) (as := [.inr (.inr 66), .inl 17]) (rest := []) 17 0 0 0 0 rfl rfl (Nat.le_of_ble_eq_true rfl) rfl (Nat.le_of_ble_eq_true rfl) rfl rfl (Nat.le_of_ble_eq_true rfl) rfl (Nat.le_of_ble_eq_true rfl) rfl (Nat.le_refl _) (Nat.le_refl _) rfl rfl (tg_66 S1) ?_
    refine m_code S1 17 CC (by omega) (fun y2 p2 S2 => ?_)
    show Wp (d + 7) 0 0 M_X12_fact 17 [some (.inr (.inr 66)), none] [] y2 _
    refine p_ret rfl rfl ?_
    -- leaf 1: answer [] h=y2 
    rcases D with ⟨_, er⟩ | ⟨z, _⟩
    · exact K1 _ _ er _ (RC.cd p2.1 p2.2 (by omega)) S2
    · exact absurd (by have := p1.2.1; rw [w_all] at this; exact this) z
  · show Wp (d + 7) 0 0 M_X12_fact 8 [some (.inr (.inr 66)), none] [.inl 0] y1 _
    refine p_if_eq_t 18 rfl rfl (by decide) ?_
    refine p_aload 19 rfl rfl rfl ?_
    refine p_callv (le := [some (.inr (.inr 66)), none, none]) (as := [.inr (.inr 66)]) (rest := []) 22 0 0 0 0 rfl rfl (Nat.le_of_ble_eq_true rfl) rfl (Nat.le_of_ble_eq_true rfl) rfl rfl (Nat.le_of_ble_eq_true rfl) rfl (Nat.le_of_ble_eq_true rfl) rfl (Nat.le_refl _) (Nat.le_refl _) rfl rfl (tg_66 S1) ?_
    exact go _ p1.1 p1.2.1 p1.2.2.1 S1

