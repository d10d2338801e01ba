/-! SENDS: the model's planning, all parts in their order -/
abbrev CXM (h : PH) (k s t z n : Int) : Nat → Int → Int → Int → List (Int × Int × Int) := cx (fun j => tv h k s t z j) (fun j => fi h k j) (fun j => cd h k j) (fun i => gv h 109 i) (gv h 79 k).toNat n
abbrev CXL (h : PH) (k s t z n : Int) (fu : Nat) (i row : Int) (c : Nat) (j : Int) : List (Int × Int × Int) := cxl (fun j => tv h k s t z j) (fun j => fi h k j) (fun j => cd h k j) (fun i => gv h 109 i) (fun a b c => CXM h k s t z n fu a b c) i row (rl row) c j
theorem CXM_lt {h : PH} {k s t z n i row : Int} {fu : Nat} (hi : i < n) : CXM h k s t z n (fu + 1) i row (rl row) = CXL h k s t z n fu i row (gv h 79 k).toNat 0 := if_pos hi
theorem CXL_no {h : PH} {k s t z n i row j : Int} {fu c : Nat} (e : ¬ (tv h k s t z j = 1 ∧ fi h k j = gv h 109 i ∧ rl row + rl (cd h k j) ≤ 4)) : CXL h k s t z n fu i row (c + 1) j = CXL h k s t z n fu i row c (j + 1) := by
  show (if _ then _ else []) ++ _ = _
  rw [if_neg e]; rfl
theorem CXL_yes {h : PH} {k s t z n i row j : Int} {fu c : Nat} (gr : row = 0 ∨ letters row) (gc : letters (cd h k j)) (e : tv h k s t z j = 1 ∧ fi h k j = gv h 109 i ∧ rl row + rl (cd h k j) ≤ 4) : CXL h k s t z n fu i row (c + 1) j = (i + 1, app row (cd h k j), rl (app row (cd h k j))) :: (CXM h k s t z n fu (i + 1) (app row (cd h k j)) (rl (app row (cd h k j))) ++ CXL h k s t z n fu i row c (j + 1)) := by
  show (if _ then _ else []) ++ _ = _
  rw [if_pos e, (app_letters gr gc e.2.2).2]; rfl
theorem m_codes {d : Nat} {h : PH} {q : PQ} (S : Shape h) (j i : Int) {k s t z : Int} (O : Open h k s t z) (T : tvs h k s t z) (j0 : 0 ≤ j) (j1 : j < gv h 79 k) (n40 : gv h 79 k ≤ 40) (i0 : 0 ≤ i) (i1 : i < 12) (K1 : tv h k s t z j = 1 ∧ fi h k j = gv h 109 i → q (some (.inl 1)) h) (K2 : ¬ (tv h k s t z j = 1 ∧ fi h k j = gv h 109 i) → q (some (.inl 0)) h) :
    Wp (d + 1) 0 0 M_X12_codes 0 [some (.inr (.inr 66)), some (.inl j), some (.inl i)] [] h q := by
  obtain ⟨O1, O2⟩ := O.2 j j0 j1
  have t01 := T j j0 j1
  refine p_aload 1 rfl rfl rfl ?_
  refine p_getfr (j := 50) (z := 100) 4 rfl rfl rfl (tg_66 S) rfl (fi_66_50 S) ?_
  refine p_iload 5 rfl rfl rfl ?_
  refine p_bald (w := 40) (z := gv h 100 j) 6 rfl rfl (Or.inr (tg_100 S)) (ln_100 S) (by omega) (by omega) rfl ?_
  refine p_if_eq 9 28 rfl rfl rfl (fun c1 => ?_) (fun c1 => ?_)
  · skip
    refine p_const 29 rfl rfl ?_
    refine p_zret rfl rfl (by decide) ?_
    -- leaf 1: answer [.inl 0] h=h 
    first | exact K1 ⟨by omega, by omega⟩ | exact K2 (fun y => by omega)
  · skip
    refine p_aload 10 rfl rfl rfl ?_
    refine p_getfr (j := 51) (z := 101) 13 rfl rfl rfl (tg_66 S) rfl (fi_66_51 S) ?_
    refine p_iload 14 rfl rfl rfl ?_
    refine p_iald (w := 40) (z := gv h 101 j) 15 rfl rfl (tg_101 S) (ln_101 S) (by omega) (by omega) rfl ?_
    refine p_aload 16 rfl rfl rfl ?_
    refine p_getfr (j := 63) (z := 109) 19 rfl rfl rfl (tg_66 S) rfl (fi_66_63 S) ?_
    refine p_iload 20 rfl rfl rfl ?_
    refine p_iald (w := 12) (z := gv h 109 i) 21 rfl rfl (tg_109 S) (ln_109 S) (by omega) (by omega) rfl ?_
    refine p_ic_ne 24 28 rfl rfl rfl (fun c2 => ?_) (fun c2 => ?_)
    · skip
      refine p_const 29 rfl rfl ?_
      refine p_zret rfl rfl (by decide) ?_
      -- leaf 2: answer [.inl 0] h=h 
      first | exact K1 ⟨by omega, by omega⟩ | exact K2 (fun y => by omega)
    · skip
      refine p_const 25 rfl rfl ?_
      refine p_goto 29 rfl rfl ?_
      refine p_zret rfl rfl (by decide) ?_
      -- leaf 3: answer [.inl 1] h=h 
      first | exact K1 ⟨by omega, by omega⟩ | exact K2 (fun y => by omega)
section SO
variable {d : Nat} {h : PH} {q : PQ} {k s t z n f : Int}
theorem so4 (B : PD h k s t z n f) (two ci three : Int) (g : letters three) (h3 : f + 3 < n) : ∀ (c : Nat) (e : Int) (u : Q4t) (w7 : Option PV) (h1 : PH), e + c = gv h 79 k → 0 ≤ e → Shape h1 → Keep (mtA f) h h1 → PMc h1 f u →
    (∀ (x6 x7 : Option PV) (h' : PH), Shape h' → Keep (mtA f) h h' → PMc h' f (List.foldl (SM1 h k s t z) u (CXL h k s t z n 0 (f + 3) three c e)) → Wp (d + 6) 0 0 M_X12_sendsOn 148 [some (.inr (.inr 66)), some (.inl s), some (.inl f), some (.inl two), some (.inl ci), some (.inl three), x6, x7] [] h' q) →
    Wp (d + 6) 0 0 M_X12_sendsOn 75 [some (.inr (.inr 66)), some (.inl s), some (.inl f), some (.inl two), some (.inl ci), some (.inl three), some (.inl e), w7] [] h1 q := by
  have B0 := B
  obtain ⟨⟨k0, k2⟩, ⟨m0, m40⟩, tv01, cds, O, F, hs, ⟨b1, b2⟩, ⟨f0, f1⟩, b6⟩ := B
  have gp := rl_pos g.1
  intro c
  induction c with
  | zero =>
    intro e u w7 h1 he e0 S1 k1 P K
    have c49 := (O.kp k1 (mtA_open f)).1
    have c79 : gv h1 79 k = gv h 79 k := (k1.wide (mtA_bkB f)).1 79 k rfl
    refine p_iload 77 rfl rfl rfl ?_
    refine p_aload 78 rfl rfl rfl ?_
    refine p_getfr (j := 20) (z := 79) 81 rfl rfl rfl (tg_66 S1) rfl (fi_66_20 S1) ?_
    refine p_aload 82 rfl rfl rfl ?_
    refine p_getfi (j := 49) (z := k) 85 rfl rfl rfl (tg_66 S1) rfl c49 ?_
    refine p_iald (w := 201) (z := (gv h 79 k)) 86 rfl rfl (tg_79 S1) (ln_79 S1) (by omega) (by omega) c79 ?_
    refine p_ic_ge_t 148 rfl rfl (by omega) ?_
    -- leaf 1: loop 148 [some (.inr (.inr 66)), some (.inl s), some (.inl f), some (.inl two), some (.inl ci), some (.inl three), some (.inl e), w7] st=[] h=h1 
    exact K _ _ h1 S1 k1 P
  | succ c ih =>
    intro e u w7 h1 he e0 S1 k1 P K
    have kB := k1.wide (mtA_bkB f)
    have O1 := O.kp k1 (mtA_open f)
    have c49 := O1.1
    have c79 : gv h1 79 k = gv h 79 k := kB.1 79 k rfl
    have c62 : gv h1 66 62 = n := (k1.1 66 62 rfl).trans b1
    have T1 := tv01.kp kB
    have ec : cd h1 k e = cd h k e := by rw [(bk_congr kB k).2.1]
    have gc := cds e e0 (by omega)
    have et : tv h1 k s t z e = tv h k s t z e := tv_congr kB _ _ _ _ _
    have ef : fi h1 k e = fi h k e := fi_congr kB _ _
    have e9 : gv h1 109 (f + 3) = gv h 109 (f + 3) := k1.1 109 _ (mtA_no (by omega))
    have skip : ∀ x, ¬ (tv h k s t z e = 1 ∧ fi h k e = gv h 109 (f + 3) ∧ rl three + rl (cd h k e) ≤ 4) → Wp (d + 6) 0 0 M_X12_sendsOn 75 [some (.inr (.inr 66)), some (.inl s), some (.inl f), some (.inl two), some (.inl ci), some (.inl three), some (.inl (e + 1)), x] [] h1 q := fun x nn =>
      ih (e + 1) u x h1 (by omega) (by omega) S1 k1 P (fun x6 x7 h' S' k' P' => K x6 x7 h' S' k' (by rw [CXL_no nn]; exact P'))
    refine p_iload 77 rfl rfl rfl ?_
    refine p_aload 78 rfl rfl rfl ?_
    refine p_getfr (j := 20) (z := 79) 81 rfl rfl rfl (tg_66 S1) rfl (fi_66_20 S1) ?_
    refine p_aload 82 rfl rfl rfl ?_
    refine p_getfi (j := 49) (z := k) 85 rfl rfl rfl (tg_66 S1) rfl c49 ?_
    refine p_iald (w := 201) (z := (gv h 79 k)) 86 rfl rfl (tg_79 S1) (ln_79 S1) (by omega) (by omega) c79 ?_
    refine p_ic_ge_f 89 rfl rfl (by omega) ?_
    refine p_iload 90 rfl rfl rfl ?_
    refine p_const 91 rfl rfl ?_
    refine p_iadd (z := f + 3) 92 rfl rfl (w32_id ⟨(by omega), (by omega)⟩) ?_
    refine p_aload 93 rfl rfl rfl ?_
    refine p_getfi (j := 62) (z := n) 96 rfl rfl rfl (tg_66 S1) rfl c62 ?_
    refine p_ic_ge_f 99 rfl rfl (by omega) ?_
    refine p_aload 100 rfl rfl rfl ?_
    refine p_iload 102 rfl rfl rfl ?_
    refine p_iload 103 rfl rfl rfl ?_
    refine p_const 104 rfl rfl ?_
    refine p_iadd (z := f + 3) 105 rfl rfl (w32_id ⟨(by omega), (by omega)⟩) ?_
    refine p_callv (le := [some (.inr (.inr 66)), some (.inl e), some (.inl (f + 3))]) (as := [.inr (.inr 66), .inl e, .inl (f + 3)]) (rest := []) 108 0 0 0 0 rfl rfl (Nat.le_of_ble_eq_true rfl) rfl (Nat.le_of_ble_eq_true rfl) rfl rfl (Nat.le_of_ble_eq_true rfl) rfl (Nat.le_of_ble_eq_true rfl) rfl (Nat.le_refl _) (Nat.le_refl _) rfl rfl (tg_66 S1) ?_
    refine m_codes S1 e (f + 3) O1 T1 e0 (by omega) (by omega) (by omega) (by omega) (fun c1 => ?_) (fun c1 => ?_)
    · show Wp (d + 6) 0 0 M_X12_sendsOn 108 [some (.inr (.inr 66)), some (.inl s), some (.inl f), some (.inl two), some (.inl ci), some (.inl three), some (.inl e), w7] [.inl 1] h1 _
      refine p_if_eq_f 111 rfl rfl (by decide) ?_
      refine p_aload 112 rfl rfl rfl ?_
      refine p_iload 114 rfl rfl rfl ?_
      refine p_iload 116 rfl rfl rfl ?_
      refine p_callv (le := [some (.inr (.inr 66)), some (.inl three), some (.inl e), none, none, none, none, none]) (as := [.inr (.inr 66), .inl three, .inl e]) (rest := []) 119 0 0 0 0 rfl rfl (Nat.le_of_ble_eq_true rfl) rfl (Nat.le_of_ble_eq_true rfl) rfl rfl (Nat.le_of_ble_eq_true rfl) rfl (Nat.le_of_ble_eq_true rfl) rfl (Nat.le_refl _) (Nat.le_refl _) rfl rfl (tg_66 S1) ?_
      refine m_behind S1 three e c49 k0 k2 e0 (by omega) (by omega) (by omega) ec gc ?_
      show Wp (d + 6) 0 0 M_X12_sendsOn 119 [some (.inr (.inr 66)), some (.inl s), some (.inl f), some (.inl two), some (.inl ci), some (.inl three), some (.inl e), w7] [.inl (bhF three (cd h k e))] h1 _
      refine p_goto 123 rfl rfl ?_
      refine p_istore (ls' := [some (.inr (.inr 66)), some (.inl s), some (.inl f), some (.inl two), some (.inl ci), some (.inl three), some (.inl e), some (.inl (bhF three (cd h k e)))]) 125 rfl rfl (Nat.le_of_ble_eq_true rfl) rfl ?_
      refine p_iload 127 rfl rfl rfl ?_
      refine p_const 128 rfl rfl ?_
      refine p_ic_eq 131 142 rfl rfl rfl (fun c3 => ?_) (fun c3 => ?_)
      · skip
        refine p_iinc (y := e + 1) (ls' := [some (.inr (.inr 66)), some (.inl s), some (.inl f), some (.inl two), some (.inl ci), some (.inl three), some (.inl (e + 1)), some (.inl (bhF three (cd h k e)))]) 145 rfl rfl rfl (w32_id ⟨(by omega), (by omega)⟩) rfl ?_
        refine p_goto 75 rfl rfl ?_
        -- leaf 1: loop 75 [some (.inr (.inr 66)), some (.inl s), some (.inl f), some (.inl two), some (.inl ci), some (.inl three), some (.inl (e + 1)), some (.inl (bhF three (cd h k e)))] st=[] h=h1 
        refine skip _ (fun y => ?_)
        have y1 := bhF_le (Or.inr g) gc y.2.2
        have y2 := rl_pos (app_letters (Or.inr g) gc y.2.2).1.1
        omega
      · skip
        have hl : rl three + rl (cd h k e) ≤ 4 := by
          apply Decidable.byContradiction
          intro y
          exact c3 (bhF_big g gc (by omega))
        have eb := bhF_le (Or.inr g) gc hl
        have gl : letters (bhF three (cd h k e)) := by rw [eb]; exact (app_letters (Or.inr g) gc hl).1
        refine p_aload 132 rfl rfl rfl ?_
        refine p_iload 133 rfl rfl rfl ?_
        refine p_iload 134 rfl rfl rfl ?_
        refine p_iload 135 rfl rfl rfl ?_
        refine p_const 136 rfl rfl ?_
        refine p_iadd (z := f + 4) 137 rfl rfl (w32_id ⟨(by omega), (by omega)⟩) ?_
        refine p_iload 139 rfl rfl rfl ?_
        refine p_callv (le := [some (.inr (.inr 66)), some (.inl s), some (.inl f), some (.inl (f + 4)), some (.inl (bhF three (cd h k e))), none, none, none, none]) (as := [.inr (.inr 66), .inl s, .inl f, .inl (f + 4), .inl (bhF three (cd h k e))]) (rest := []) 142 0 0 0 0 rfl rfl (Nat.le_of_ble_eq_true rfl) rfl (Nat.le_of_ble_eq_true rfl) rfl rfl (Nat.le_of_ble_eq_true rfl) rfl (Nat.le_of_ble_eq_true rfl) rfl (Nat.le_refl _) (Nat.le_refl _) rfl rfl (tg_66 S1) ?_
        refine m_tries B0 (f + 4) (bhF three (cd h k e)) S1 k1 P (by omega) (by omega) gl (fun y4 p4 S4 => ?_)
        show Wp (d + 6) 0 0 M_X12_sendsOn 142 [some (.inr (.inr 66)), some (.inl s), some (.inl f), some (.inl two), some (.inl ci), some (.inl three), some (.inl e), some (.inl (bhF three (cd h k e)))] [] y4 _
        refine p_iinc (y := e + 1) (ls' := [some (.inr (.inr 66)), some (.inl s), some (.inl f), some (.inl two), some (.inl ci), some (.inl three), some (.inl (e + 1)), some (.inl (bhF three (cd h k e)))]) 145 rfl rfl rfl (w32_id ⟨(by omega), (by omega)⟩) rfl ?_
        refine p_goto 75 rfl rfl ?_
        -- leaf 2: loop 75 [some (.inr (.inr 66)), some (.inl s), some (.inl f), some (.inl two), some (.inl ci), some (.inl three), some (.inl (e + 1)), some (.inl (bhF three (cd h k e)))] st=[] h=y4 
        rw [eb, show f + 4 = f + 3 + 1 by omega] at p4
        refine ih (e + 1) _ _ _ (by omega) (by omega) S4 p4.1 p4.2 (fun x6 x7 h' S' k' P' => K x6 x7 h' S' k' ?_)
        rw [CXL_yes (Or.inr g) gc ⟨by rw [← et]; exact c1.1, by rw [← ef, ← e9]; exact c1.2, hl⟩]
        exact P'
    · show Wp (d + 6) 0 0 M_X12_sendsOn 108 [some (.inr (.inr 66)), some (.inl s), some (.inl f), some (.inl two), some (.inl ci), some (.inl three), some (.inl e), w7] [.inl 0] h1 _
      refine p_if_eq_t 122 rfl rfl (by decide) ?_
      refine p_const 123 rfl rfl ?_
      refine p_istore (ls' := [some (.inr (.inr 66)), some (.inl s), some (.inl f), some (.inl two), some (.inl ci), some (.inl three), some (.inl e), some (.inl (-1))]) 125 rfl rfl (Nat.le_of_ble_eq_true rfl) rfl ?_
      refine p_iload 127 rfl rfl rfl ?_
      refine p_const 128 rfl rfl ?_
      refine p_ic_eq_t 142 rfl rfl (by decide) ?_
      refine p_iinc (y := e + 1) (ls' := [some (.inr (.inr 66)), some (.inl s), some (.inl f), some (.inl two), some (.inl ci), some (.inl three), some (.inl (e + 1)), some (.inl (-1))]) 145 rfl rfl rfl (w32_id ⟨(by omega), (by omega)⟩) rfl ?_
      refine p_goto 75 rfl rfl ?_
      -- leaf 3: loop 75 [some (.inr (.inr 66)), some (.inl s), some (.inl f), some (.inl two), some (.inl ci), some (.inl three), some (.inl (e + 1)), some (.inl (-1))] st=[] h=h1 
      exact skip _ (fun y => c1 ⟨by rw [et]; exact y.1, by rw [ef, e9]; exact y.2.1⟩)
theorem so4' (B : PD h k s t z n f) (two ci three : Int) (g : letters three) (u : Q4t) (w7 : Option PV) (h1 : PH) (S1 : Shape h1) (k1 : Keep (mtA f) h h1) (P : PMc h1 f u)
    (K : ∀ (x6 x7 : Option PV) (h' : PH), Shape h' → Keep (mtA f) h h' → PMc h' f (List.foldl (SM1 h k s t z) u (CXM h k s t z n 1 (f + 3) three (rl three))) → Wp (d + 6) 0 0 M_X12_sendsOn 148 [some (.inr (.inr 66)), some (.inl s), some (.inl f), some (.inl two), some (.inl ci), some (.inl three), x6, x7] [] h' q) :
    Wp (d + 6) 0 0 M_X12_sendsOn 75 [some (.inr (.inr 66)), some (.inl s), some (.inl f), some (.inl two), some (.inl ci), some (.inl three), some (.inl 0), w7] [] h1 q := by
  by_cases h3 : f + 3 < n
  · refine so4 B two ci three g h3 (gv h 79 k).toNat 0 u w7 h1 (by have := B.2.1; omega) (by omega) S1 k1 P (fun x6 x7 h' S' k' P' => K x6 x7 h' S' k' ?_)
    rw [CXM_lt h3]; exact P'
  · obtain ⟨⟨k0, k2⟩, ⟨m0, m40⟩, tv01, cds, O, F, hs, ⟨b1, b2⟩, ⟨f0, f1⟩, b6⟩ := B
    have c49 := (O.kp k1 (mtA_open f)).1
    have c79 : gv h1 79 k = gv h 79 k := (k1.wide (mtA_bkB f)).1 79 k rfl
    have c62 : gv h1 66 62 = n := (k1.1 66 62 rfl).trans b1
    have fin : PMc h1 f (List.foldl (SM1 h k s t z) u (CXM h k s t z n 1 (f + 3) three (rl three))) := by rw [show CXM h k s t z n 1 (f + 3) three (rl three) = [] from cx_end (by omega) 1]; exact P
    refine p_iload 77 rfl rfl rfl ?_
    refine p_aload 78 rfl rfl rfl ?_
    refine p_getfr (j := 20) (z := 79) 81 rfl rfl rfl (tg_66 S1) rfl (fi_66_20 S1) ?_
    refine p_aload 82 rfl rfl rfl ?_
    refine p_getfi (j := 49) (z := k) 85 rfl rfl rfl (tg_66 S1) rfl c49 ?_
    refine p_iald (w := 201) (z := (gv h 79 k)) 86 rfl rfl (tg_79 S1) (ln_79 S1) (by omega) (by omega) c79 ?_
    refine p_ic_ge 89 148 rfl rfl rfl (fun c1 => ?_) (fun c1 => ?_)
    · skip
      -- leaf 1: loop 148 [some (.inr (.inr 66)), some (.inl s), some (.inl f), some (.inl two), some (.inl ci), some (.inl three), some (.inl 0), w7] st=[] h=h1 
      exact K _ _ h1 S1 k1 fin
    · skip
      refine p_iload 90 rfl rfl rfl ?_
      refine p_const 91 rfl rfl ?_
      refine p_iadd (z := f + 3) 92 rfl rfl (w32_id ⟨(by omega), (by omega)⟩) ?_
      refine p_aload 93 rfl rfl rfl ?_
      refine p_getfi (j := 62) (z := n) 96 rfl rfl rfl (tg_66 S1) rfl c62 ?_
      refine p_ic_ge_t 148 rfl rfl (by omega) ?_
      -- leaf 2: loop 148 [some (.inr (.inr 66)), some (.inl s), some (.inl f), some (.inl two), some (.inl ci), some (.inl three), some (.inl 0), w7] st=[] h=h1 
      exact K _ _ h1 S1 k1 fin
theorem so3 (B : PD h k s t z n f) (two : Int) (g : letters two) (h3 : f + 2 < n) : ∀ (c : Nat) (e : Int) (u : Q4t) (w5 w6 w7 : Option PV) (h1 : PH), e + c = gv h 79 k → 0 ≤ e → Shape h1 → Keep (mtA f) h h1 → PMc h1 f u →
    (∀ (h' : PH), Shape h' → Keep (mtA f) h h' → PMc h' f (List.foldl (SM1 h k s t z) u (CXL h k s t z n 1 (f + 2) two c e)) → q none h') →
    Wp (d + 6) 0 0 M_X12_sendsOn 3 [some (.inr (.inr 66)), some (.inl s), some (.inl f), some (.inl two), some (.inl e), w5, w6, w7] [] h1 q := by
  have B0 := B
  obtain ⟨⟨k0, k2⟩, ⟨m0, m40⟩, tv01, cds, O, F, hs, ⟨b1, b2⟩, ⟨f0, f1⟩, b6⟩ := B
  have gp := rl_pos g.1
  intro c
  induction c with
  | zero =>
    intro e u w5 w6 w7 h1 he e0 S1 k1 P K
    have c49 := (O.kp k1 (mtA_open f)).1
    have c79 : gv h1 79 k = gv h 79 k := (k1.wide (mtA_bkB f)).1 79 k rfl
    refine p_iload 5 rfl rfl rfl ?_
    refine p_aload 6 rfl rfl rfl ?_
    refine p_getfr (j := 20) (z := 79) 9 rfl rfl rfl (tg_66 S1) rfl (fi_66_20 S1) ?_
    refine p_aload 10 rfl rfl rfl ?_
    refine p_getfi (j := 49) (z := k) 13 rfl rfl rfl (tg_66 S1) rfl c49 ?_
    refine p_iald (w := 201) (z := (gv h 79 k)) 14 rfl rfl (tg_79 S1) (ln_79 S1) (by omega) (by omega) c79 ?_
    refine p_ic_ge_t 154 rfl rfl (by omega) ?_
    refine p_ret rfl rfl ?_
    -- leaf 1: answer [] h=h1 
    exact K h1 S1 k1 P
  | succ c ih =>
    intro e u w5 w6 w7 h1 he e0 S1 k1 P K
    have kB := k1.wide (mtA_bkB f)
    have O1 := O.kp k1 (mtA_open f)
    have c49 := O1.1
    have c79 : gv h1 79 k = gv h 79 k := kB.1 79 k rfl
    have c62 : gv h1 66 62 = n := (k1.1 66 62 rfl).trans b1
    have T1 := tv01.kp kB
    have ec : cd h1 k e = cd h k e := by rw [(bk_congr kB k).2.1]
    have gc := cds e e0 (by omega)
    have et : tv h1 k s t z e = tv h k s t z e := tv_congr kB _ _ _ _ _
    have ef : fi h1 k e = fi h k e := fi_congr kB _ _
    have e9 : gv h1 109 (f + 2) = gv h 109 (f + 2) := k1.1 109 _ (mtA_no (by omega))
    have skip : ∀ x5 x6 x7, ¬ (tv h k s t z e = 1 ∧ fi h k e = gv h 109 (f + 2) ∧ rl two + rl (cd h k e) ≤ 4) → Wp (d + 6) 0 0 M_X12_sendsOn 3 [some (.inr (.inr 66)), some (.inl s), some (.inl f), some (.inl two), some (.inl (e + 1)), x5, x6, x7] [] h1 q := fun x5 x6 x7 nn =>
      ih (e + 1) u x5 x6 x7 h1 (by omega) (by omega) S1 k1 P (fun h' S' k' P' => K h' S' k' (by rw [CXL_no nn]; exact P'))
    have J148 : ∀ (x5 x6 x7 : Option PV) (h' : PH) (u' : Q4t), Shape h' → Keep (mtA f) h h' → PMc h' f u' → List.foldl (SM1 h k s t z) u (CXL h k s t z n 1 (f + 2) two (c + 1) e) = List.foldl (SM1 h k s t z) u' (CXL h k s t z n 1 (f + 2) two c (e + 1)) → Wp (d + 6) 0 0 M_X12_sendsOn 148 [some (.inr (.inr 66)), some (.inl s), some (.inl f), some (.inl two), some (.inl e), x5, x6, x7] [] h' q := by
      intro x5 x6 x7 h' u' S' k' P' hu
      refine p_iinc (y := e + 1) (ls' := [some (.inr (.inr 66)), some (.inl s), some (.inl f), some (.inl two), some (.inl (e + 1)), x5, x6, x7]) 151 rfl rfl rfl (w32_id ⟨(by omega), (by omega)⟩) rfl ?_
      refine p_goto 3 rfl rfl ?_
      -- leaf 1: loop 3 [some (.inr (.inr 66)), some (.inl s), some (.inl f), some (.inl two), some (.inl (e + 1)), x5, x6, x7] st=[] h=h' 
      exact ih (e + 1) u' _ _ _ h' (by omega) (by omega) S' k' P' (fun h' S' k' P' => K h' S' k' (by rw [hu]; exact P'))
    refine p_iload 5 rfl rfl rfl ?_
    refine p_aload 6 rfl rfl rfl ?_
    refine p_getfr (j := 20) (z := 79) 9 rfl rfl rfl (tg_66 S1) rfl (fi_66_20 S1) ?_
    refine p_aload 10 rfl rfl rfl ?_
    refine p_getfi (j := 49) (z := k) 13 rfl rfl rfl (tg_66 S1) rfl c49 ?_
    refine p_iald (w := 201) (z := (gv h 79 k)) 14 rfl rfl (tg_79 S1) (ln_79 S1) (by omega) (by omega) c79 ?_
    refine p_ic_ge_f 17 rfl rfl (by omega) ?_
    refine p_iload 18 rfl rfl rfl ?_
    refine p_const 19 rfl rfl ?_
    refine p_iadd (z := f + 2) 20 rfl rfl (w32_id ⟨(by omega), (by omega)⟩) ?_
    refine p_aload 21 rfl rfl rfl ?_
    refine p_getfi (j := 62) (z := n) 24 rfl rfl rfl (tg_66 S1) rfl c62 ?_
    refine p_ic_ge_f 27 rfl rfl (by omega) ?_
    refine p_aload 28 rfl rfl rfl ?_
    refine p_iload 30 rfl rfl rfl ?_
    refine p_iload 31 rfl rfl rfl ?_
    refine p_const 32 rfl rfl ?_
    refine p_iadd (z := f + 2) 33 rfl rfl (w32_id ⟨(by omega), (by omega)⟩) ?_
    refine p_callv (le := [some (.inr (.inr 66)), some (.inl e), some (.inl (f + 2))]) (as := [.inr (.inr 66), .inl e, .inl (f + 2)]) (rest := []) 36 0 0 0 0 rfl rfl (Nat.le_of_ble_eq_true rfl) rfl (Nat.le_of_ble_eq_true rfl) rfl rfl (Nat.le_of_ble_eq_true rfl) rfl (Nat.le_of_ble_eq_true rfl) rfl (Nat.le_refl _) (Nat.le_refl _) rfl rfl (tg_66 S1) ?_
    refine m_codes S1 e (f + 2) O1 T1 e0 (by omega) (by omega) (by omega) (by omega) (fun c1 => ?_) (fun c1 => ?_)
    · show Wp (d + 6) 0 0 M_X12_sendsOn 36 [some (.inr (.inr 66)), some (.inl s), some (.inl f), some (.inl two), some (.inl e), w5, w6, w7] [.inl 1] h1 _
      refine p_if_eq_f 39 rfl rfl (by decide) ?_
      refine p_aload 40 rfl rfl rfl ?_
      refine p_iload 41 rfl rfl rfl ?_
      refine p_iload 43 rfl rfl rfl ?_
      refine p_callv (le := [some (.inr (.inr 66)), some (.inl two), some (.inl e), none, none, none, none, none]) (as := [.inr (.inr 66), .inl two, .inl e]) (rest := []) 46 0 0 0 0 rfl rfl (Nat.le_of_ble_eq_true rfl) rfl (Nat.le_of_ble_eq_true rfl) rfl rfl (Nat.le_of_ble_eq_true rfl) rfl (Nat.le_of_ble_eq_true rfl) rfl (Nat.le_refl _) (Nat.le_refl _) rfl rfl (tg_66 S1) ?_
      refine m_behind S1 two e c49 k0 k2 e0 (by omega) (by omega) (by omega) ec gc ?_
      show Wp (d + 6) 0 0 M_X12_sendsOn 46 [some (.inr (.inr 66)), some (.inl s), some (.inl f), some (.inl two), some (.inl e), w5, w6, w7] [.inl (bhF two (cd h k e))] h1 _
      refine p_goto 50 rfl rfl ?_
      refine p_istore (ls' := [some (.inr (.inr 66)), some (.inl s), some (.inl f), some (.inl two), some (.inl e), some (.inl (bhF two (cd h k e))), w6, w7]) 52 rfl rfl (Nat.le_of_ble_eq_true rfl) rfl ?_
      refine p_iload 54 rfl rfl rfl ?_
      refine p_const 55 rfl rfl ?_
      refine p_ic_ne 58 61 rfl rfl rfl (fun c3 => ?_) (fun c3 => ?_)
      · skip
        have hl : rl two + rl (cd h k e) ≤ 4 := by
          apply Decidable.byContradiction
          intro y
          exact c3 (bhF_big g gc (by omega))
        have eb := bhF_le (Or.inr g) gc hl
        have gl : letters (bhF two (cd h k e)) := by rw [eb]; exact (app_letters (Or.inr g) gc hl).1
        refine p_aload 62 rfl rfl rfl ?_
        refine p_iload 63 rfl rfl rfl ?_
        refine p_iload 64 rfl rfl rfl ?_
        refine p_iload 65 rfl rfl rfl ?_
        refine p_const 66 rfl rfl ?_
        refine p_iadd (z := f + 3) 67 rfl rfl (w32_id ⟨(by omega), (by omega)⟩) ?_
        refine p_iload 69 rfl rfl rfl ?_
        refine p_callv (le := [some (.inr (.inr 66)), some (.inl s), some (.inl f), some (.inl (f + 3)), some (.inl (bhF two (cd h k e))), none, none, none, none]) (as := [.inr (.inr 66), .inl s, .inl f, .inl (f + 3), .inl (bhF two (cd h k e))]) (rest := []) 72 0 0 0 0 rfl rfl (Nat.le_of_ble_eq_true rfl) rfl (Nat.le_of_ble_eq_true rfl) rfl rfl (Nat.le_of_ble_eq_true rfl) rfl (Nat.le_of_ble_eq_true rfl) rfl (Nat.le_refl _) (Nat.le_refl _) rfl rfl (tg_66 S1) ?_
        refine m_tries B0 (f + 3) (bhF two (cd h k e)) S1 k1 P (by omega) (by omega) gl (fun y4 p4 S4 => ?_)
        show Wp (d + 6) 0 0 M_X12_sendsOn 72 [some (.inr (.inr 66)), some (.inl s), some (.inl f), some (.inl two), some (.inl e), some (.inl (bhF two (cd h k e))), w6, w7] [] y4 _
        refine p_const 73 rfl rfl ?_
        refine p_istore (ls' := [some (.inr (.inr 66)), some (.inl s), some (.inl f), some (.inl two), some (.inl e), some (.inl (bhF two (cd h k e))), some (.inl 0), w7]) 75 rfl rfl (Nat.le_of_ble_eq_true rfl) rfl ?_
        -- leaf 1: loop 75 [some (.inr (.inr 66)), some (.inl s), some (.inl f), some (.inl two), some (.inl e), some (.inl (bhF two (cd h k e))), some (.inl 0), w7] st=[] h=y4 
        rw [eb, show f + 3 = f + 2 + 1 by omega] at p4
        refine so4' B0 two e _ gl _ _ _ S4 p4.1 p4.2 (fun x6 x7 h' S' k' P' => ?_)
        rw [eb, show f + 3 = f + 2 + 1 by omega] at P'
        refine J148 _ _ _ _ _ S' k' P' ?_
        rw [CXL_yes (Or.inr g) gc ⟨by rw [← et]; exact c1.1, by rw [← ef, ← e9]; exact c1.2, hl⟩, List.foldl_cons, List.foldl_append]
      · skip
        refine p_goto 148 rfl rfl ?_
        refine p_iinc (y := e + 1) (ls' := [some (.inr (.inr 66)), some (.inl s), some (.inl f), some (.inl two), some (.inl (e + 1)), some (.inl (bhF two (cd h k e))), w6, w7]) 151 rfl rfl rfl (w32_id ⟨(by omega), (by omega)⟩) rfl ?_
        refine p_goto 3 rfl rfl ?_
        -- leaf 2: loop 3 [some (.inr (.inr 66)), some (.inl s), some (.inl f), some (.inl two), some (.inl (e + 1)), some (.inl (bhF two (cd h k e))), w6, w7] st=[] h=h1 
        refine skip _ _ _ (fun y => ?_)
        have y1 := bhF_le (Or.inr g) gc y.2.2
        have y2 := rl_pos (app_letters (Or.inr g) gc y.2.2).1.1
        omega
    · show Wp (d + 6) 0 0 M_X12_sendsOn 36 [some (.inr (.inr 66)), some (.inl s), some (.inl f), some (.inl two), some (.inl e), w5, w6, w7] [.inl 0] h1 _
      refine p_if_eq_t 49 rfl rfl (by decide) ?_
      refine p_const 50 rfl rfl ?_
      refine p_istore (ls' := [some (.inr (.inr 66)), some (.inl s), some (.inl f), some (.inl two), some (.inl e), some (.inl (-1)), w6, w7]) 52 rfl rfl (Nat.le_of_ble_eq_true rfl) rfl ?_
      refine p_iload 54 rfl rfl rfl ?_
      refine p_const 55 rfl rfl ?_
      refine p_ic_ne_f 58 rfl rfl (by decide) ?_
      refine p_goto 148 rfl rfl ?_
      refine p_iinc (y := e + 1) (ls' := [some (.inr (.inr 66)), some (.inl s), some (.inl f), some (.inl two), some (.inl (e + 1)), some (.inl (-1)), w6, w7]) 151 rfl rfl rfl (w32_id ⟨(by omega), (by omega)⟩) rfl ?_
      refine p_goto 3 rfl rfl ?_
      -- leaf 3: loop 3 [some (.inr (.inr 66)), some (.inl s), some (.inl f), some (.inl two), some (.inl (e + 1)), some (.inl (-1)), w6, w7] st=[] h=h1 
      exact skip _ _ _ (fun y => c1 ⟨by rw [et]; exact y.1, by rw [ef, e9]; exact y.2.1⟩)
theorem m_sendsOn (B : PD h k s t z n f) (two : Int) (g : letters two) (u : Q4t) (h1 : PH) (S1 : Shape h1) (k1 : Keep (mtA f) h h1) (P : PMc h1 f u)
    (K : ∀ (h' : PH), (Keep (mtA f) h h' ∧ PMc h' f (List.foldl (SM1 h k s t z) u (CXM h k s t z n 2 (f + 2) two (rl two)))) → Shape h' → q none h') :
    Wp (d + 6) 0 0 M_X12_sendsOn 0 [some (.inr (.inr 66)), some (.inl s), some (.inl f), some (.inl two), none, none, none, none] [] h1 q := by
  have J0 : n ≤ f + 2 → Wp (d + 6) 0 0 M_X12_sendsOn 3 [some (.inr (.inr 66)), some (.inl s), some (.inl f), some (.inl two), some (.inl 0), none, none, none] [] h1 q := by
    intro h3
    obtain ⟨⟨k0, k2⟩, ⟨m0, m40⟩, tv01, cds, O, F, hs, ⟨b1, b2⟩, ⟨f0, f1⟩, b6⟩ := B
    have c49 := (O.kp k1 (mtA_open f)).1
    have c79 : gv h1 79 k = gv h 79 k := (k1.wide (mtA_bkB f)).1 79 k rfl
    have c62 : gv h1 66 62 = n := (k1.1 66 62 rfl).trans b1
    have fin : PMc h1 f (List.foldl (SM1 h k s t z) u (CXM h k s t z n 2 (f + 2) two (rl two))) := by rw [show CXM h k s t z n 2 (f + 2) two (rl two) = [] from cx_end h3 2]; exact P
    refine p_iload 5 rfl rfl rfl ?_
    refine p_aload 6 rfl rfl rfl ?_
    refine p_getfr (j := 20) (z := 79) 9 rfl rfl rfl (tg_66 S1) rfl (fi_66_20 S1) ?_
    refine p_aload 10 rfl rfl rfl ?_
    refine p_getfi (j := 49) (z := k) 13 rfl rfl rfl (tg_66 S1) rfl c49 ?_
    refine p_iald (w := 201) (z := (gv h 79 k)) 14 rfl rfl (tg_79 S1) (ln_79 S1) (by omega) (by omega) c79 ?_
    refine p_ic_ge 17 154 rfl rfl rfl (fun c1 => ?_) (fun c1 => ?_)
    · skip
      refine p_ret rfl rfl ?_
      -- leaf 1: answer [] h=h1 
      exact K h1 ⟨k1, fin⟩ S1
    · skip
      refine p_iload 18 rfl rfl rfl ?_
      refine p_const 19 rfl rfl ?_
      refine p_iadd (z := f + 2) 20 rfl rfl (w32_id ⟨(by omega), (by omega)⟩) ?_
      refine p_aload 21 rfl rfl rfl ?_
      refine p_getfi (j := 62) (z := n) 24 rfl rfl rfl (tg_66 S1) rfl c62 ?_
      refine p_ic_ge_t 154 rfl rfl (by omega) ?_
      refine p_ret rfl rfl ?_
      -- leaf 2: answer [] h=h1 
      exact K h1 ⟨k1, fin⟩ S1
  refine p_const 1 rfl rfl ?_
  refine p_istore (ls' := [some (.inr (.inr 66)), some (.inl s), some (.inl f), some (.inl two), some (.inl 0), none, none, none]) 3 rfl rfl (Nat.le_of_ble_eq_true rfl) rfl ?_
  -- leaf 1: loop 3 [some (.inr (.inr 66)), some (.inl s), some (.inl f), some (.inl two), some (.inl 0), none, none, none] st=[] h=h1 
  by_cases h3 : f + 2 < n
  · refine so3 B two g h3 (gv h 79 k).toNat 0 u none none none h1 (by have := B.2.1; omega) (by omega) S1 k1 P (fun h' S' k' P' => K h' ⟨k', ?_⟩ S')
    rw [CXM_lt h3]; exact P'
  · exact J0 (by omega)
/-- the second names of a part that begins with name f -/
theorem so2 (B : PD h k s t z n f) (a one : Int) (g : letters one) (h3 : f + 1 < n) : ∀ (c : Nat) (e : Int) (u : Q4t) (w6 : Option PV) (h1 : PH), e + c = gv h 79 k → 0 ≤ e → Shape h1 → Keep (mtA f) h h1 → PMc h1 f u →
    (∀ (x5 x6 : Option PV) (h' : PH), Shape h' → Keep (mtA f) h h' → PMc h' f (List.foldl (SM1 h k s t z) u (CXL h k s t z n 2 (f + 1) one c e)) → Wp (d + 7) 0 0 M_X12_sends 171 [some (.inr (.inr 66)), some (.inl s), some (.inl f), some (.inl a), some (.inl one), x5, x6] [] h' q) →
    Wp (d + 7) 0 0 M_X12_sends 87 [some (.inr (.inr 66)), some (.inl s), some (.inl f), some (.inl a), some (.inl one), some (.inl e), w6] [] h1 q := by
  have B0 := B
  obtain ⟨⟨k0, k2⟩, ⟨m0, m40⟩, tv01, cds, O, F, hs, ⟨b1, b2⟩, ⟨f0, f1⟩, b6⟩ := B
  have gp := rl_pos g.1
  intro c
  induction c with
  | zero =>
    intro e u w6 h1 he e0 S1 k1 P K
    have c49 := (O.kp k1 (mtA_open f)).1
    have c79 : gv h1 79 k = gv h 79 k := (k1.wide (mtA_bkB f)).1 79 k rfl
    refine p_iload 89 rfl rfl rfl ?_
    refine p_aload 90 rfl rfl rfl ?_
    refine p_getfr (j := 20) (z := 79) 93 rfl rfl rfl (tg_66 S1) rfl (fi_66_20 S1) ?_
    refine p_aload 94 rfl rfl rfl ?_
    refine p_getfi (j := 49) (z := k) 97 rfl rfl rfl (tg_66 S1) rfl c49 ?_
    refine p_iald (w := 201) (z := (gv h 79 k)) 98 rfl rfl (tg_79 S1) (ln_79 S1) (by omega) (by omega) c79 ?_
    refine p_ic_ge_t 171 rfl rfl (by omega) ?_
    -- leaf 1: loop 171 [some (.inr (.inr 66)), some (.inl s), some (.inl f), some (.inl a), some (.inl one), some (.inl e), w6] st=[] h=h1 
    exact K _ _ h1 S1 k1 P
  | succ c ih =>
    intro e u w6 h1 he e0 S1 k1 P K
    have kB := k1.wide (mtA_bkB f)
    have O1 := O.kp k1 (mtA_open f)
    have c49 := O1.1
    have c79 : gv h1 79 k = gv h 79 k := kB.1 79 k rfl
    have c62 : gv h1 66 62 = n := (k1.1 66 62 rfl).trans b1
    have T1 := tv01.kp kB
    have ec : cd h1 k e = cd h k e := by rw [(bk_congr kB k).2.1]
    have gc := cds e e0 (by omega)
    have et : tv h1 k s t z e = tv h k s t z e := tv_congr kB _ _ _ _ _
    have ef : fi h1 k e = fi h k e := fi_congr kB _ _
    have e9 : gv h1 109 (f + 1) = gv h 109 (f + 1) := k1.1 109 _ (mtA_no (by omega))
    have skip : ∀ x6, ¬ (tv h k s t z e = 1 ∧ fi h k e = gv h 109 (f + 1) ∧ rl one + rl (cd h k e) ≤ 4) → Wp (d + 7) 0 0 M_X12_sends 87 [some (.inr (.inr 66)), some (.inl s), some (.inl f), some (.inl a), some (.inl one), some (.inl (e + 1)), x6] [] h1 q := fun x6 nn =>
      ih (e + 1) u x6 h1 (by omega) (by omega) S1 k1 P (fun x5 x6 h' S' k' P' => K x5 x6 h' S' k' (by rw [CXL_no nn]; exact P'))
    refine p_iload 89 rfl rfl rfl ?_
    refine p_aload 90 rfl rfl rfl ?_
    refine p_getfr (j := 20) (z := 79) 93 rfl rfl rfl (tg_66 S1) rfl (fi_66_20 S1) ?_
    refine p_aload 94 rfl rfl rfl ?_
    refine p_getfi (j := 49) (z := k) 97 rfl rfl rfl (tg_66 S1) rfl c49 ?_
    refine p_iald (w := 201) (z := (gv h 79 k)) 98 rfl rfl (tg_79 S1) (ln_79 S1) (by omega) (by omega) c79 ?_
    refine p_ic_ge_f 101 rfl rfl (by omega) ?_
    refine p_iload 102 rfl rfl rfl ?_
    refine p_const 103 rfl rfl ?_
    refine p_iadd (z := f + 1) 104 rfl rfl (w32_id ⟨(by omega), (by omega)⟩) ?_
    refine p_aload 105 rfl rfl rfl ?_
    refine p_getfi (j := 62) (z := n) 108 rfl rfl rfl (tg_66 S1) rfl c62 ?_
    refine p_ic_ge_f 111 rfl rfl (by omega) ?_
    refine p_aload 112 rfl rfl rfl ?_
    refine p_iload 114 rfl rfl rfl ?_
    refine p_iload 115 rfl rfl rfl ?_
    refine p_const 116 rfl rfl ?_
    refine p_iadd (z := f + 1) 117 rfl rfl (w32_id ⟨(by omega), (by omega)⟩) ?_
    refine p_callv (le := [some (.inr (.inr 66)), some (.inl e), some (.inl (f + 1))]) (as := [.inr (.inr 66), .inl e, .inl (f + 1)]) (rest := []) 120 0 0 0 0 rfl rfl (Nat.le_of_ble_eq_true rfl) rfl (Nat.le_of_ble_eq_true rfl) rfl rfl (Nat.le_of_ble_eq_true rfl) rfl (Nat.le_of_ble_eq_true rfl) rfl (Nat.le_refl _) (Nat.le_refl _) rfl rfl (tg_66 S1) ?_
    refine m_codes S1 e (f + 1) O1 T1 e0 (by omega) (by omega) (by omega) (by omega) (fun c1 => ?_) (fun c1 => ?_)
    · show Wp (d + 7) 0 0 M_X12_sends 120 [some (.inr (.inr 66)), some (.inl s), some (.inl f), some (.inl a), some (.inl one), some (.inl e), w6] [.inl 1] h1 _
      refine p_if_eq_f 123 rfl rfl (by decide) ?_
      refine p_aload 124 rfl rfl rfl ?_
      refine p_iload 126 rfl rfl rfl ?_
      refine p_iload 128 rfl rfl rfl ?_
      refine p_callv (le := [some (.inr (.inr 66)), some (.inl one), some (.inl e), none, none, none, none, none]) (as := [.inr (.inr 66), .inl one, .inl e]) (rest := []) 131 0 0 0 0 rfl rfl (Nat.le_of_ble_eq_true rfl) rfl (Nat.le_of_ble_eq_true rfl) rfl rfl (Nat.le_of_ble_eq_true rfl) rfl (Nat.le_of_ble_eq_true rfl) rfl (Nat.le_refl _) (Nat.le_refl _) rfl rfl (tg_66 S1) ?_
      refine m_behind S1 one e c49 k0 k2 e0 (by omega) (by omega) (by omega) ec gc ?_
      show Wp (d + 7) 0 0 M_X12_sends 131 [some (.inr (.inr 66)), some (.inl s), some (.inl f), some (.inl a), some (.inl one), some (.inl e), w6] [.inl (bhF one (cd h k e))] h1 _
      refine p_goto 135 rfl rfl ?_
      refine p_istore (ls' := [some (.inr (.inr 66)), some (.inl s), some (.inl f), some (.inl a), some (.inl one), some (.inl e), some (.inl (bhF one (cd h k e)))]) 137 rfl rfl (Nat.le_of_ble_eq_true rfl) rfl ?_
      refine p_iload 139 rfl rfl rfl ?_
      refine p_const 140 rfl rfl ?_
      refine p_ic_ne 143 146 rfl rfl rfl (fun c3 => ?_) (fun c3 => ?_)
      · skip
        have hl : rl one + rl (cd h k e) ≤ 4 := by
          apply Decidable.byContradiction
          intro y
          exact c3 (bhF_big g gc (by omega))
        have eb := bhF_le (Or.inr g) gc hl
        have gl : letters (bhF one (cd h k e)) := by rw [eb]; exact (app_letters (Or.inr g) gc hl).1
        refine p_aload 147 rfl rfl rfl ?_
        refine p_iload 148 rfl rfl rfl ?_
        refine p_iload 149 rfl rfl rfl ?_
        refine p_iload 150 rfl rfl rfl ?_
        refine p_const 151 rfl rfl ?_
        refine p_iadd (z := f + 2) 152 rfl rfl (w32_id ⟨(by omega), (by omega)⟩) ?_
        refine p_iload 154 rfl rfl rfl ?_
        refine p_callv (le := [some (.inr (.inr 66)), some (.inl s), some (.inl f), some (.inl (f + 2)), some (.inl (bhF one (cd h k e))), none, none, none, none]) (as := [.inr (.inr 66), .inl s, .inl f, .inl (f + 2), .inl (bhF one (cd h k e))]) (rest := []) 157 0 0 0 0 rfl rfl (Nat.le_of_ble_eq_true rfl) rfl (Nat.le_of_ble_eq_true rfl) rfl rfl (Nat.le_of_ble_eq_true rfl) rfl (Nat.le_of_ble_eq_true rfl) rfl (Nat.le_refl _) (Nat.le_refl _) rfl rfl (tg_66 S1) ?_
        refine m_tries B0 (f + 2) (bhF one (cd h k e)) S1 k1 P (by omega) (by omega) gl (fun y4 p4 S4 => ?_)
        show Wp (d + 7) 0 0 M_X12_sends 157 [some (.inr (.inr 66)), some (.inl s), some (.inl f), some (.inl a), some (.inl one), some (.inl e), some (.inl (bhF one (cd h k e)))] [] y4 _
        refine p_aload 158 rfl rfl rfl ?_
        refine p_iload 159 rfl rfl rfl ?_
        refine p_iload 160 rfl rfl rfl ?_
        refine p_iload 162 rfl rfl rfl ?_
        refine p_callv (le := [some (.inr (.inr 66)), some (.inl s), some (.inl f), some (.inl (bhF one (cd h k e))), none, none, none, none]) (as := [.inr (.inr 66), .inl s, .inl f, .inl (bhF one (cd h k e))]) (rest := []) 165 0 0 0 0 rfl rfl (Nat.le_of_ble_eq_true rfl) rfl (Nat.le_of_ble_eq_true rfl) rfl rfl (Nat.le_of_ble_eq_true rfl) rfl (Nat.le_of_ble_eq_true rfl) rfl (Nat.le_refl _) (Nat.le_refl _) rfl rfl (tg_66 S4) ?_
        refine m_sendsOn B0 (bhF one (cd h k e)) gl _ _ S4 p4.1 p4.2 (fun y5 p5 S5 => ?_)
        show Wp (d + 7) 0 0 M_X12_sends 165 [some (.inr (.inr 66)), some (.inl s), some (.inl f), some (.inl a), some (.inl one), some (.inl e), some (.inl (bhF one (cd h k e)))] [] y5 _
        refine p_iinc (y := e + 1) (ls' := [some (.inr (.inr 66)), some (.inl s), some (.inl f), some (.inl a), some (.inl one), some (.inl (e + 1)), some (.inl (bhF one (cd h k e)))]) 168 rfl rfl rfl (w32_id ⟨(by omega), (by omega)⟩) rfl ?_
        refine p_goto 87 rfl rfl ?_
        -- leaf 1: loop 87 [some (.inr (.inr 66)), some (.inl s), some (.inl f), some (.inl a), some (.inl one), some (.inl (e + 1)), some (.inl (bhF one (cd h k e)))] st=[] h=y5 
        rw [eb, show f + 2 = f + 1 + 1 by omega] at p5
        refine ih (e + 1) _ _ _ (by omega) (by omega) S5 p5.1 p5.2 (fun x5 x6 h' S' k' P' => K x5 x6 h' S' k' ?_)
        rw [CXL_yes (Or.inr g) gc ⟨by rw [← et]; exact c1.1, by rw [← ef, ← e9]; exact c1.2, hl⟩, List.foldl_cons, List.foldl_append]
        exact P'
      · skip
        refine p_goto 165 rfl rfl ?_
        refine p_iinc (y := e + 1) (ls' := [some (.inr (.inr 66)), some (.inl s), some (.inl f), some (.inl a), some (.inl one), some (.inl (e + 1)), some (.inl (bhF one (cd h k e)))]) 168 rfl rfl rfl (w32_id ⟨(by omega), (by omega)⟩) rfl ?_
        refine p_goto 87 rfl rfl ?_
        -- leaf 2: loop 87 [some (.inr (.inr 66)), some (.inl s), some (.inl f), some (.inl a), some (.inl one), some (.inl (e + 1)), some (.inl (bhF one (cd h k e)))] st=[] h=h1 
        refine skip _ (fun y => ?_)
        have y1 := bhF_le (Or.inr g) gc y.2.2
        have y2 := rl_pos (app_letters (Or.inr g) gc y.2.2).1.1
        omega
    · show Wp (d + 7) 0 0 M_X12_sends 120 [some (.inr (.inr 66)), some (.inl s), some (.inl f), some (.inl a), some (.inl one), some (.inl e), w6] [.inl 0] h1 _
      refine p_if_eq_t 134 rfl rfl (by decide) ?_
      refine p_const 135 rfl rfl ?_
      refine p_istore (ls' := [some (.inr (.inr 66)), some (.inl s), some (.inl f), some (.inl a), some (.inl one), some (.inl e), some (.inl (-1))]) 137 rfl rfl (Nat.le_of_ble_eq_true rfl) rfl ?_
      refine p_iload 139 rfl rfl rfl ?_
      refine p_const 140 rfl rfl ?_
      refine p_ic_ne_f 143 rfl rfl (by decide) ?_
      refine p_goto 165 rfl rfl ?_
      refine p_iinc (y := e + 1) (ls' := [some (.inr (.inr 66)), some (.inl s), some (.inl f), some (.inl a), some (.inl one), some (.inl (e + 1)), some (.inl (-1))]) 168 rfl rfl rfl (w32_id ⟨(by omega), (by omega)⟩) rfl ?_
      refine p_goto 87 rfl rfl ?_
      -- leaf 3: loop 87 [some (.inr (.inr 66)), some (.inl s), some (.inl f), some (.inl a), some (.inl one), some (.inl (e + 1)), some (.inl (-1))] st=[] h=h1 
      exact skip _ (fun y => c1 ⟨by rw [et]; exact y.1, by rw [ef, e9]; exact y.2.1⟩)
theorem so2' (B : PD h k s t z n f) (a one : Int) (g : letters one) (u : Q4t) (w6 : Option PV) (h1 : PH) (S1 : Shape h1) (k1 : Keep (mtA f) h h1) (P : PMc h1 f u)
    (K : ∀ (x5 x6 : Option PV) (h' : PH), Shape h' → Keep (mtA f) h h' → PMc h' f (List.foldl (SM1 h k s t z) u (CXM h k s t z n 3 (f + 1) one (rl one))) → Wp (d + 7) 0 0 M_X12_sends 171 [some (.inr (.inr 66)), some (.inl s), some (.inl f), some (.inl a), some (.inl one), x5, x6] [] h' q) :
    Wp (d + 7) 0 0 M_X12_sends 87 [some (.inr (.inr 66)), some (.inl s), some (.inl f), some (.inl a), some (.inl one), some (.inl 0), w6] [] h1 q := by
  by_cases h3 : f + 1 < n
  · refine so2 B a one g h3 (gv h 79 k).toNat 0 u w6 h1 (by have := B.2.1; omega) (by omega) S1 k1 P (fun x5 x6 h' S' k' P' => K x5 x6 h' S' k' ?_)
    rw [CXM_lt h3]; exact P'
  · obtain ⟨⟨k0, k2⟩, ⟨m0, m40⟩, tv01, cds, O, F, hs, ⟨b1, b2⟩, ⟨f0, f1⟩, b6⟩ := B
    have c49 := (O.kp k1 (mtA_open f)).1
    have c79 : gv h1 79 k = gv h 79 k := (k1.wide (mtA_bkB f)).1 79 k rfl
    have c62 : gv h1 66 62 = n := (k1.1 66 62 rfl).trans b1
    have fin : PMc h1 f (List.foldl (SM1 h k s t z) u (CXM h k s t z n 3 (f + 1) one (rl one))) := by rw [show CXM h k s t z n 3 (f + 1) one (rl one) = [] from cx_end (by omega) 3]; exact P
    refine p_iload 89 rfl rfl rfl ?_
    refine p_aload 90 rfl rfl rfl ?_
    refine p_getfr (j := 20) (z := 79) 93 rfl rfl rfl (tg_66 S1) rfl (fi_66_20 S1) ?_
    refine p_aload 94 rfl rfl rfl ?_
    refine p_getfi (j := 49) (z := k) 97 rfl rfl rfl (tg_66 S1) rfl c49 ?_
    refine p_iald (w := 201) (z := (gv h 79 k)) 98 rfl rfl (tg_79 S1) (ln_79 S1) (by omega) (by omega) c79 ?_
    refine p_ic_ge 101 171 rfl rfl rfl (fun c1 => ?_) (fun c1 => ?_)
    · skip
      -- leaf 1: loop 171 [some (.inr (.inr 66)), some (.inl s), some (.inl f), some (.inl a), some (.inl one), some (.inl 0), w6] st=[] h=h1 
      exact K _ _ h1 S1 k1 fin
    · skip
      refine p_iload 102 rfl rfl rfl ?_
      refine p_const 103 rfl rfl ?_
      refine p_iadd (z := f + 1) 104 rfl rfl (w32_id ⟨(by omega), (by omega)⟩) ?_
      refine p_aload 105 rfl rfl rfl ?_
      refine p_getfi (j := 62) (z := n) 108 rfl rfl rfl (tg_66 S1) rfl c62 ?_
      refine p_ic_ge_t 171 rfl rfl (by omega) ?_
      -- leaf 2: loop 171 [some (.inr (.inr 66)), some (.inl s), some (.inl f), some (.inl a), some (.inl one), some (.inl 0), w6] st=[] h=h1 
      exact K _ _ h1 S1 k1 fin
theorem so1 (B : PD h k s t z n f) : ∀ (c : Nat) (e : Int) (u : Q4t) (w4 w5 w6 : Option PV) (h1 : PH), e + c = gv h 79 k → 0 ≤ e → Shape h1 → Keep (mtA f) h h1 → PMc h1 f u →
    (∀ (x3 x4 x5 x6 : Option PV) (h' : PH), Shape h' → Keep (mtA f) h h' → PMc h' f (List.foldl (SM1 h k s t z) u (CXL h k s t z n 3 f 0 c e)) → Wp (d + 7) 0 0 M_X12_sends 177 [some (.inr (.inr 66)), some (.inl s), some (.inl f), x3, x4, x5, x6] [] h' q) →
    Wp (d + 7) 0 0 M_X12_sends 40 [some (.inr (.inr 66)), some (.inl s), some (.inl f), some (.inl e), w4, w5, w6] [] h1 q := by
  have B0 := B
  obtain ⟨⟨k0, k2⟩, ⟨m0, m40⟩, tv01, cds, O, F, hs, ⟨b1, b2⟩, ⟨f0, f1⟩, b6⟩ := B
  intro c
  induction c with
  | zero =>
    intro e u w4 w5 w6 h1 he e0 S1 k1 P K
    have c49 := (O.kp k1 (mtA_open f)).1
    have c79 : gv h1 79 k = gv h 79 k := (k1.wide (mtA_bkB f)).1 79 k rfl
    refine p_iload 41 rfl rfl rfl ?_
    refine p_aload 42 rfl rfl rfl ?_
    refine p_getfr (j := 20) (z := 79) 45 rfl rfl rfl (tg_66 S1) rfl (fi_66_20 S1) ?_
    refine p_aload 46 rfl rfl rfl ?_
    refine p_getfi (j := 49) (z := k) 49 rfl rfl rfl (tg_66 S1) rfl c49 ?_
    refine p_iald (w := 201) (z := (gv h 79 k)) 50 rfl rfl (tg_79 S1) (ln_79 S1) (by omega) (by omega) c79 ?_
    refine p_ic_ge_t 177 rfl rfl (by omega) ?_
    -- leaf 1: loop 177 [some (.inr (.inr 66)), some (.inl s), some (.inl f), some (.inl e), w4, w5, w6] st=[] h=h1 
    exact K _ _ _ _ h1 S1 k1 P
  | succ c ih =>
    intro e u w4 w5 w6 h1 he e0 S1 k1 P K
    have kB := k1.wide (mtA_bkB f)
    have O1 := O.kp k1 (mtA_open f)
    have c49 := O1.1
    have c79 : gv h1 79 k = gv h 79 k := kB.1 79 k rfl
    have T1 := tv01.kp kB
    have ec : cd h1 k e = cd h k e := by rw [(bk_congr kB k).2.1]
    have gc := cds e e0 (by omega)
    have et : tv h1 k s t z e = tv h k s t z e := tv_congr kB _ _ _ _ _
    have ef : fi h1 k e = fi h k e := fi_congr kB _ _
    have e9 : gv h1 109 f = gv h 109 f := k1.1 109 _ (mtA_no (by omega))
    have rc := rl_in (cd h k e)
    have r0 : rl 0 = 0 := rfl
    have hl : rl 0 + rl (cd h k e) ≤ 4 := by omega
    have eb := bhF_le (Or.inl rfl) gc hl
    have gl : letters (bhF 0 (cd h k e)) := by rw [eb]; exact (app_letters (Or.inl rfl) gc hl).1
    have skip : ∀ x4 x5 x6, ¬ (tv h k s t z e = 1 ∧ fi h k e = gv h 109 f) → Wp (d + 7) 0 0 M_X12_sends 40 [some (.inr (.inr 66)), some (.inl s), some (.inl f), some (.inl (e + 1)), x4, x5, x6] [] h1 q := fun x4 x5 x6 nn =>
      ih (e + 1) u x4 x5 x6 h1 (by omega) (by omega) S1 k1 P (fun x3 x4 x5 x6 h' S' k' P' => K x3 x4 x5 x6 h' S' k' (by rw [CXL_no (fun y => nn ⟨y.1, y.2.1⟩)]; exact P'))
    have J171 : ∀ (x4 x5 x6 : Option PV) (h' : PH) (u' : Q4t), Shape h' → Keep (mtA f) h h' → PMc h' f u' → List.foldl (SM1 h k s t z) u (CXL h k s t z n 3 f 0 (c + 1) e) = List.foldl (SM1 h k s t z) u' (CXL h k s t z n 3 f 0 c (e + 1)) → Wp (d + 7) 0 0 M_X12_sends 171 [some (.inr (.inr 66)), some (.inl s), some (.inl f), some (.inl e), x4, x5, x6] [] h' q := by
      intro x4 x5 x6 h' u' S' k' P' hu
      refine p_iinc (y := e + 1) (ls' := [some (.inr (.inr 66)), some (.inl s), some (.inl f), some (.inl (e + 1)), x4, x5, x6]) 174 rfl rfl rfl (w32_id ⟨(by omega), (by omega)⟩) rfl ?_
      refine p_goto 40 rfl rfl ?_
      -- leaf 1: loop 40 [some (.inr (.inr 66)), some (.inl s), some (.inl f), some (.inl (e + 1)), x4, x5, x6] st=[] h=h' 
      exact ih (e + 1) u' _ _ _ h' (by omega) (by omega) S' k' P' (fun x3 x4 x5 x6 h' S' k' P' => K x3 x4 x5 x6 h' S' k' (by rw [hu]; exact P'))
    refine p_iload 41 rfl rfl rfl ?_
    refine p_aload 42 rfl rfl rfl ?_
    refine p_getfr (j := 20) (z := 79) 45 rfl rfl rfl (tg_66 S1) rfl (fi_66_20 S1) ?_
    refine p_aload 46 rfl rfl rfl ?_
    refine p_getfi (j := 49) (z := k) 49 rfl rfl rfl (tg_66 S1) rfl c49 ?_
    refine p_iald (w := 201) (z := (gv h 79 k)) 50 rfl rfl (tg_79 S1) (ln_79 S1) (by omega) (by omega) c79 ?_
    refine p_ic_ge_f 53 rfl rfl (by omega) ?_
    refine p_aload 54 rfl rfl rfl ?_
    refine p_iload 55 rfl rfl rfl ?_
    refine p_iload 56 rfl rfl rfl ?_
    refine p_callv (le := [some (.inr (.inr 66)), some (.inl e), some (.inl f)]) (as := [.inr (.inr 66), .inl e, .inl f]) (rest := []) 59 0 0 0 0 rfl rfl (Nat.le_of_ble_eq_true rfl) rfl (Nat.le_of_ble_eq_true rfl) rfl rfl (Nat.le_of_ble_eq_true rfl) rfl (Nat.le_of_ble_eq_true rfl) rfl (Nat.le_refl _) (Nat.le_refl _) rfl rfl (tg_66 S1) ?_
    refine m_codes S1 e f O1 T1 e0 (by omega) (by omega) (by omega) (by omega) (fun c1 => ?_) (fun c1 => ?_)
    · show Wp (d + 7) 0 0 M_X12_sends 59 [some (.inr (.inr 66)), some (.inl s), some (.inl f), some (.inl e), w4, w5, w6] [.inl 1] h1 _
      refine p_if_ne_t 65 rfl rfl (by decide) ?_
      refine p_aload 66 rfl rfl rfl ?_
      refine p_const 67 rfl rfl ?_
      refine p_iload 68 rfl rfl rfl ?_
      refine p_callv (le := [some (.inr (.inr 66)), some (.inl 0), some (.inl e), none, none, none, none, none]) (as := [.inr (.inr 66), .inl 0, .inl e]) (rest := []) 71 0 0 0 0 rfl rfl (Nat.le_of_ble_eq_true rfl) rfl (Nat.le_of_ble_eq_true rfl) rfl rfl (Nat.le_of_ble_eq_true rfl) rfl (Nat.le_of_ble_eq_true rfl) rfl (Nat.le_refl _) (Nat.le_refl _) rfl rfl (tg_66 S1) ?_
      refine m_behind S1 0 e c49 k0 k2 e0 (by omega) (by omega) (by omega) ec gc ?_
      show Wp (d + 7) 0 0 M_X12_sends 71 [some (.inr (.inr 66)), some (.inl s), some (.inl f), some (.inl e), w4, w5, w6] [.inl (bhF 0 (cd h k e))] h1 _
      refine p_istore (ls' := [some (.inr (.inr 66)), some (.inl s), some (.inl f), some (.inl e), some (.inl (bhF 0 (cd h k e))), w5, w6]) 73 rfl rfl (Nat.le_of_ble_eq_true rfl) rfl ?_
      refine p_aload 74 rfl rfl rfl ?_
      refine p_iload 75 rfl rfl rfl ?_
      refine p_iload 76 rfl rfl rfl ?_
      refine p_iload 77 rfl rfl rfl ?_
      refine p_const 78 rfl rfl ?_
      refine p_iadd (z := f + 1) 79 rfl rfl (w32_id ⟨(by omega), (by omega)⟩) ?_
      refine p_iload 81 rfl rfl rfl ?_
      refine p_callv (le := [some (.inr (.inr 66)), some (.inl s), some (.inl f), some (.inl (f + 1)), some (.inl (bhF 0 (cd h k e))), none, none, none, none]) (as := [.inr (.inr 66), .inl s, .inl f, .inl (f + 1), .inl (bhF 0 (cd h k e))]) (rest := []) 84 0 0 0 0 rfl rfl (Nat.le_of_ble_eq_true rfl) rfl (Nat.le_of_ble_eq_true rfl) rfl rfl (Nat.le_of_ble_eq_true rfl) rfl (Nat.le_of_ble_eq_true rfl) rfl (Nat.le_refl _) (Nat.le_refl _) rfl rfl (tg_66 S1) ?_
      refine m_tries B0 (f + 1) (bhF 0 (cd h k e)) S1 k1 P (by omega) (by omega) gl (fun y3 p3 S3 => ?_)
      show Wp (d + 7) 0 0 M_X12_sends 84 [some (.inr (.inr 66)), some (.inl s), some (.inl f), some (.inl e), some (.inl (bhF 0 (cd h k e))), w5, w6] [] y3 _
      refine p_const 85 rfl rfl ?_
      refine p_istore (ls' := [some (.inr (.inr 66)), some (.inl s), some (.inl f), some (.inl e), some (.inl (bhF 0 (cd h k e))), some (.inl 0), w6]) 87 rfl rfl (Nat.le_of_ble_eq_true rfl) rfl ?_
      -- leaf 1: loop 87 [some (.inr (.inr 66)), some (.inl s), some (.inl f), some (.inl e), some (.inl (bhF 0 (cd h k e))), some (.inl 0), w6] st=[] h=y3 
      rw [eb] at p3
      refine so2' B0 e _ gl _ _ _ S3 p3.1 p3.2 (fun x5 x6 h' S' k' P' => ?_)
      rw [eb] at P'
      refine J171 _ _ _ _ _ S' k' P' ?_
      rw [CXL_yes (Or.inl rfl) gc ⟨by rw [← et]; exact c1.1, by rw [← ef, ← e9]; exact c1.2, hl⟩, List.foldl_cons, List.foldl_append]
    · show Wp (d + 7) 0 0 M_X12_sends 59 [some (.inr (.inr 66)), some (.inl s), some (.inl f), some (.inl e), w4, w5, w6] [.inl 0] h1 _
      refine p_if_ne_f 62 rfl rfl (by decide) ?_
      refine p_goto 171 rfl rfl ?_
      refine p_iinc (y := e + 1) (ls' := [some (.inr (.inr 66)), some (.inl s), some (.inl f), some (.inl (e + 1)), w4, w5, w6]) 174 rfl rfl rfl (w32_id ⟨(by omega), (by omega)⟩) rfl ?_
      refine p_goto 40 rfl rfl ?_
      -- leaf 2: loop 40 [some (.inr (.inr 66)), some (.inl s), some (.inl f), some (.inl (e + 1)), w4, w5, w6] st=[] h=h1 
      exact skip _ _ _ (fun y => c1 ⟨by rw [et]; exact y.1, by rw [ef, e9]; exact y.2⟩)
end SO
/-- the model's cells for name i -/
def PMn (h : PH) (n i : Int) (u : Q4t) : Prop := (u.1 = 1000 ∧ gv h 110 i = -1) ∨ ((0 ≤ u.1 ∧ u.1 < 1000) ∧ gv h 110 i = u.1 ∧ gv h 111 i = u.2.1 ∧ (i < n → gv h 112 i = u.2.2.1 ∧ gv h 113 i = u.2.2.2))
theorem PMn.kp {h h' : PH} {n i : Int} {u : Q4t} (P : PMn h n i u) (e : ∀ a, 110 ≤ a → a ≤ 113 → gv h' a i = gv h a i) : PMn h' n i u := by
  unfold PMn
  rw [e 110 (by decide) (by decide), e 111 (by decide) (by decide), e 112 (by decide) (by decide), e 113 (by decide) (by decide)]
  exact P
theorem PMc.n {h : PH} {n i : Int} {u : Q4t} (P : PMc h i u) : PMn h n i u := by
  rcases P with P | ⟨a, b, c, d, e⟩
  · exact Or.inl P
  · exact Or.inr ⟨a, b, c, fun _ => ⟨d, e⟩⟩
def msA (a i : Int) : Bool := decide ((a = 66 ∧ (i = 38 ∨ i = 52 ∨ i = 56)) ∨ (92 ≤ a ∧ a ≤ 93) ∨ (102 ≤ a ∧ a ≤ 104) ∨ (110 ≤ a ∧ a ≤ 113))
theorem msA_bkB : ∀ a i, bkB a i = false → msA a i = false := fun a i => dw (by omega)
theorem msA_mA : ∀ a i, mA a i = false → msA a i = false := fun a i => dw (by omega)
theorem mtA_msA (f : Int) : ∀ a i, msA a i = false → mtA f a i = false := fun a i => dw (by omega)
theorem msA_open : ∀ a i, bkB a i = false ∨ (a = 66 ∧ i = 49) ∨ a = 100 ∨ a = 101 → msA a i = false := fun a i z => decide_eq_false (fun y => by
  rcases z with z | z
  · exact of_decide_eq_false z (by omega)
  · omega)
theorem m_sends {d : Nat} {h : PH} {q : PQ} (S : Shape h) (s : Int) {a k t z n : Int} (R : BkR h a k) (k0 : 0 ≤ k) (k1 : k ≤ 200) (O : Open h k s t z) (F : FI h) (hs : 0 ≤ s ∧ s < 10) (ht : 0 ≤ t ∧ t < 1000) (hz : 0 ≤ z ∧ z ≤ 9) (hn : gv h 66 62 = n) (n1 : 1 ≤ n) (n12 : n ≤ 12)
    (K : ∀ r h', (Keep msA h h' ∧ (∀ i, 0 ≤ i → i ≤ n → PMn h' n i (bstF h k s t z (fun i => gv h 109 i) n n.toNat i)) ∧ r = if (bstF h k s t z (fun i => gv h 109 i) n n.toNat 0).1 < 1000 then 1 else 0) → Shape h' → q (some (.inl r)) h') :
    Wp (d + 7) 0 0 M_X12_sends 0 [some (.inr (.inr 66)), some (.inl s), none, none, none, none, none] [] h q := by
  have cds : ∀ j, 0 ≤ j → j < gv h 79 k → letters (cd h k j) := fun j j0 j1 => R.cds j j0 (by omega)
  have tv01 := R.tvs hs ht hz
  have L : ∀ (m : Nat) (f : Int) (w3 w4 w5 w6 : Option PV) (h1 : PH), f = m - 1 → m ≤ n → Shape h1 → Keep msA h h1 → (∀ i, f < i → i ≤ n → PMn h1 n i (bstF h k s t z (fun i => gv h 109 i) n (n - m).toNat i)) →
      Wp (d + 7) 0 0 M_X12_sends 27 [some (.inr (.inr 66)), some (.inl s), some (.inl f), w3, w4, w5, w6] [] h1 q := by
    intro m
    induction m with
    | zero =>
      intro f w3 w4 w5 w6 h1 hf mn S1 kp ce
      have e0 : n - ((0 : Nat) : Int) = n := by omega
      rw [e0] at ce
      have c0 := ce 0 (by omega) (by omega)
      refine p_iload 28 rfl rfl rfl ?_
      refine p_if_lt_t 183 rfl rfl (by omega) ?_
      refine p_aload 184 rfl rfl rfl ?_
      refine p_getfr (j := 64) (z := 110) 187 rfl rfl rfl (tg_66 S1) rfl (fi_66_64 S1) ?_
      refine p_const 188 rfl rfl ?_
      refine p_iald (w := 13) (z := gv h1 110 0) 189 rfl rfl (tg_110 S1) (ln_110 S1) (by decide) (by decide) rfl ?_
      refine p_const 190 rfl rfl ?_
      refine p_ic_eq 193 197 rfl rfl rfl (fun c1 => ?_) (fun c1 => ?_)
      · skip
        refine p_const 198 rfl rfl ?_
        refine p_zret rfl rfl (by decide) ?_
        -- leaf 1: answer [.inl 0] h=h1 
        exact K _ h1 ⟨kp, fun i i0 i1 => ce i (by omega) i1, by rcases c0 with y | y; rw [if_neg (by omega)]; omega⟩ S1
      · skip
        refine p_const 194 rfl rfl ?_
        refine p_goto 198 rfl rfl ?_
        refine p_zret rfl rfl (by decide) ?_
        -- leaf 2: answer [.inl 1] h=h1 
        exact K _ h1 ⟨kp, fun i i0 i1 => ce i (by omega) i1, by rcases c0 with y | y; omega; rw [if_pos (by omega)]⟩ S1
    | succ m ih =>
      intro f w3 w4 w5 w6 h1 hf mn S1 kp ce
      have kB := kp.wide msA_bkB
      have J177 : ∀ (x3 x4 x5 x6 : Option PV) (h' : PH), Shape h' → Keep msA h h' → (∀ i, f - 1 < i → i ≤ n → PMn h' n i (bstF h k s t z (fun i => gv h 109 i) n (n - m).toNat i)) → Wp (d + 7) 0 0 M_X12_sends 177 [some (.inr (.inr 66)), some (.inl s), some (.inl f), x3, x4, x5, x6] [] h' q := by
        intro x3 x4 x5 x6 h' S' k' P'
        refine p_iinc (y := f - 1) (ls' := [some (.inr (.inr 66)), some (.inl s), some (.inl (f - 1)), x3, x4, x5, x6]) 180 rfl rfl rfl (wsub_id ⟨(by omega), (by omega)⟩) rfl ?_
        refine p_goto 27 rfl rfl ?_
        -- leaf 1: loop 27 [some (.inr (.inr 66)), some (.inl s), some (.inl (f - 1)), x3, x4, x5, x6] st=[] h=h' 
        exact ih (f - 1) _ _ _ _ h' (by omega) (by omega) S' k' P'
      refine p_iload 28 rfl rfl rfl ?_
      refine p_if_lt_f 31 rfl rfl (by omega) ?_
      refine p_aload 32 rfl rfl rfl ?_
      refine p_getfr (j := 64) (z := 110) 35 rfl rfl rfl (tg_66 S1) rfl (fi_66_64 S1) ?_
      refine p_iload 36 rfl rfl rfl ?_
      refine p_const 37 rfl rfl ?_
      refine p_iast (w := 13) 38 rfl rfl (by decide) (tg_110 S1) (ln_110 S1) (by omega) (by omega) ?_
      refine p_nmh (fun y1 e1 => ?_)
      have S1 : Shape y1 := by rw [e1]; exact S1.svA fa_110 _ _
      have kp1 : Keep msA h y1 := by rw [e1]; exact kp.sv rfl _
      refine p_const 39 rfl rfl ?_
      refine p_istore (ls' := [some (.inr (.inr 66)), some (.inl s), some (.inl f), some (.inl 0), w4, w5, w6]) 40 rfl rfl (Nat.le_of_ble_eq_true rfl) rfl ?_
      -- leaf 1: loop 40 [some (.inr (.inr 66)), some (.inl s), some (.inl f), some (.inl 0), w4, w5, w6] st=[] h=y1 e1 kp1
      have kB1 := kp1.wide msA_bkB
      have o1 : ∀ a i, i ≠ f → gv y1 a i = gv h1 a i := fun a i hi => by rw [e1, sv_nf hi]
      have hM : (n - ((m : Nat) : Int)).toNat = (n - ((m + 1 : Nat) : Int)).toNat + 1 := by omega
      have cb : ∀ j, f < j → j ≤ n → gv y1 110 j = -1 ∨ ((0 ≤ gv y1 110 j ∧ gv y1 110 j ≤ 12) ∧ 0 ≤ gv y1 111 j ∧ gv y1 111 j ≤ 48) := fun j j0 j1 => by
        have cj := ce j j0 j1
        have bo := R.bok (s := s) (t := t) (z := z) (ids := fun i => gv h 109 i) (n := n) (n - ((m + 1 : Nat) : Int)).toNat j (by omega) j1
        rw [o1 110 j (by omega), o1 111 j (by omega)]
        rcases cj with y | ⟨y1, y2, y3, _⟩
        · exact Or.inl y.2
        · rcases bo with w | ⟨w1, w2, _⟩
          · omega
          · refine Or.inr ⟨⟨by omega, by omega⟩, by omega, by omega⟩
      have n79 : gv y1 79 k = gv h 79 k := kB1.1 79 k rfl
      have m0 := R.1
      have m40 := R.2.1
      have PD1 : PD y1 k s t z n f := ⟨⟨k0, k1⟩, ⟨by omega, by omega⟩, tv01.kp kB1, fun j j0 j1 => by rw [(bk_congr kB1 k).2.1]; exact cds j j0 (by omega), O.kp kp1 msA_open, F.kp kB1, hs, ⟨(kp1.1 66 62 rfl).trans hn, n12⟩, ⟨by omega, by omega⟩, cb⟩
      refine so1 PD1 (gv h 79 k).toNat 0 (1000, 0, 0, 0) _ _ _ y1 (by omega) (by omega) S1 (Keep.rf _ _) (Or.inl ⟨rfl, by rw [e1, sv_eq]⟩) (fun x3 x4 x5 x6 h' S' k' P' => ?_)
      rw [← n79, ← CXM_lt (show f < n by omega)] at P'
      have e109 : (fun i => gv y1 109 i) = (fun i => gv h 109 i) := funext fun i => kp1.1 109 i rfl
      have hcx : CXM y1 k s t z n 4 f 0 (rl 0) = cndF h k s t z (fun i => gv h 109 i) n f := by
        have := congrFun (cndF_congr kB1 k s t z (fun i => gv y1 109 i) n) f
        rw [e109] at this
        rw [← this, ← e109]; rfl
      have hfold : List.foldl (SM1 y1 k s t z) (1000, 0, 0, 0) (CXM y1 k s t z n 4 f 0 (rl 0)) = bstF h k s t z (fun i => gv h 109 i) n (n - ((m : Nat) : Int)).toNat f := by
        rw [hM, bstF_new (by omega), hcx]
        refine fold_congr _ _ (fun x hx u => ?_)
        obtain ⟨⟨x1, x2⟩, x3, x4, x5⟩ := R.cnd f x hx
        have cj := ce x.1 x1 x2
        refine stpF_congr ?_ ?_ ?_ ?_
        · show (if gv y1 110 x.1 = -1 then 1000 else gv y1 110 x.1) = _; rw [o1 110 _ (by omega)]
          rcases cj with y | ⟨y1, y2, _⟩
          · rw [if_pos y.2]; exact y.1.symm
          · rw [if_neg (by omega)]; exact y2
        · show (if gv y1 110 x.1 = -1 then 1000 else gv y1 110 x.1) < 1000 → gv y1 111 x.1 = _; rw [o1 110 _ (by omega), o1 111 _ (by omega)]
          rcases cj with y | ⟨y1, y2, y3, _⟩
          · rw [if_pos y.2]; exact fun y => absurd y (by decide)
          · exact fun _ => y3
        · show hoF x.2.1 (gv y1 86 s) (gv y1 87 s) = hoF x.2.1 (gv h 86 s) (gv h 87 s); rw [kB1.1 86 s rfl, kB1.1 87 s rfl]
        · show (∃ l, only (Rd (Ws y1 k s t z) x.2.1) l) ↔ _; rw [Ws_congr kB1]
      rw [hfold] at P'
      refine J177 x3 x4 x5 x6 h' S' (kp1.trans (k'.wide (mtA_msA f))) (fun i i0 i1 => ?_)
      by_cases y : i = f
      · rw [y]; exact P'.n
      · rw [hM, bstF_old (by omega)]
        exact (ce i (by omega) i1).kp (fun a a0 a1 => (k'.1 a i (mtA_no (by omega))).trans (o1 a i y))
  refine p_aload 1 rfl rfl rfl ?_
  refine p_getfr (j := 64) (z := 110) 4 rfl rfl rfl (tg_66 S) rfl (fi_66_64 S) ?_
  refine p_aload 5 rfl rfl rfl ?_
  refine p_getfi (j := 62) (z := n) 8 rfl rfl rfl (tg_66 S) rfl hn ?_
  refine p_const 9 rfl rfl ?_
  refine p_iast (w := 13) 10 rfl rfl (by decide) (tg_110 S) (ln_110 S) (by omega) (by omega) ?_
  refine p_nmh (fun y1 e1 => ?_)
  have S1 : Shape y1 := by rw [e1]; exact S.svA fa_110 _ _
  have kp1 : Keep msA h y1 := by rw [e1]; exact (Keep.rf msA _).sv rfl _
  refine p_aload 11 rfl rfl rfl ?_
  refine p_getfr (j := 65) (z := 111) 14 rfl rfl rfl (tg_66 S1) rfl (fi_66_65 S1) ?_
  refine p_aload 15 rfl rfl rfl ?_
  refine p_getfi (j := 62) (z := n) 18 rfl rfl rfl (tg_66 S1) rfl (by rw [e1, sv_ne (by decide)]; exact hn) ?_
  refine p_const 19 rfl rfl ?_
  refine p_iast (w := 13) 20 rfl rfl (by decide) (tg_111 S1) (ln_111 S1) (by omega) (by omega) ?_
  refine p_nmh (fun y2 e2 => ?_)
  have S2 : Shape y2 := by rw [e2]; exact S1.svA fa_111 _ _
  have kp2 : Keep msA h y2 := by rw [e2]; exact kp1.sv rfl _
  refine p_aload 21 rfl rfl rfl ?_
  refine p_getfi (j := 62) (z := n) 24 rfl rfl rfl (tg_66 S2) rfl (by rw [e2, sv_ne (by decide)]; rw [e1, sv_ne (by decide)]; exact hn) ?_
  refine p_const 25 rfl rfl ?_
  refine p_isub (z := n - 1) 26 rfl rfl (w32_id ⟨(by omega), (by omega)⟩) ?_
  refine p_istore (ls' := [some (.inr (.inr 66)), some (.inl s), some (.inl (n - 1)), none, none, none, none]) 27 rfl rfl (Nat.le_of_ble_eq_true rfl) rfl ?_
  -- leaf 1: loop 27 [some (.inr (.inr 66)), some (.inl s), some (.inl (n - 1)), none, none, none, none] st=[] h=y2 e2,e1 kp2
  refine L n.toNat (n - 1) _ _ _ _ _ (by omega) (by omega) S2 kp2 (fun i i0 i1 => ?_)
  have : i = n := by omega
  subst this
  rw [show (i - (i.toNat : Int)).toNat = 0 by omega]
  exact Or.inr ⟨⟨Int.le_refl 0, show (0 : Int) < 1000 by decide⟩, by rw [e2, sv_ne (by decide), e1, sv_eq]; rfl, by rw [e2, sv_eq]; rfl, fun y => by omega⟩

