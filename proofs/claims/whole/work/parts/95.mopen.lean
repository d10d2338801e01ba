/-! THE MODEL'S READER: the head of a part -/
theorem StkM.kp66 {h h' : PH} {W : List Int} (X : StkM h W) (e1 : gv h' 66 28 = gv h 66 28) (e2 : ∀ i, gv h' 85 i = gv h 85 i) : StkM h' W := X.of e1 e2
theorem plain40 : plainS 40 := ⟨by decide, by decide, by decide, by decide⟩
theorem m_partHead {d : Nat} {h0 h : PH} {q : PQ} (S : Shape h) {T : Int → Int} {n : Int} {L : List Tok} {i o : Nat} {b : Int} {W C : List Int} (O : TxO T n) (LX : LexA T n L) (R : RdM h0 h T n L i o b W C)
    (K1 : isSg L i 40 → o < 6 → ∀ h', RdM h0 h' T n L (i + 1) (o + 1) b (W ++ [20]) C → Shape h' → Wp (d + 4) 0 0 M_X12_part 0 [some (.inr (.inr 66))] [] h' q)
    (K2 : isSg L i 40 → 6 ≤ o → ∀ h', BdM h0 h' 3 (tk L i).2.1 → Shape h' → q none h')
    (K3 : ¬ isSg L i 40 → ∀ h', RdM h0 h' T n L i o b W C → Shape h' → Wp (d + 4) 0 0 M_X12_part 39 [some (.inr (.inr 66))] [] h' q) :
    Wp (d + 4) 0 0 M_X12_part 0 [some (.inr (.inr 66))] [] h q := by
  have l7 := (LX.tl O).1
  have n7 := O.1
  have B := LX.tl O
  have R0 := R
  obtain ⟨r1, ⟨r2, r3⟩, r4, r5, r6, r7, r8, r9, r10, r11⟩ := R
  have i7 := r4.1
  have TA := LX.tok O i7
  have t2 := TA.2.1
  have sg := TA.sg O plain40.1 plain40.2.1 plain40.2.2.1 plain40.2.2.2
  have J0b : ∀ h2 : PH, gv h2 66 5 ≠ 0 → q none h2 → Shape h2 → Wp (d + 4) 0 0 M_X12_part 0 [some (.inr (.inr 66))] [] h2 q := by
    intro h2 b Q S2
    refine p_aload 1 rfl rfl rfl ?_
    refine p_getfi (j := 5) (z := gv h2 66 5) 4 rfl rfl rfl (tg_66 S2) rfl rfl ?_
    refine p_if_ne_t 39 rfl rfl (by omega) ?_
    refine p_aload 40 rfl rfl rfl ?_
    refine p_getfi (j := 5) (z := gv h2 66 5) 43 rfl rfl rfl (tg_66 S2) rfl rfl ?_
    refine p_if_eq_f 46 rfl rfl (by omega) ?_
    refine p_ret rfl rfl ?_
    -- leaf 1: answer [] h=h2 
    exact Q
  have J16 : ∀ h1 : PH, isSg L i 40 → RdM h0 h1 T n L i o b W C → gv h1 66 2 = (tk L i).2.1 → Shape h1 → Wp (d + 4) 0 0 M_X12_part 16 [some (.inr (.inr 66))] [] h1 q := by
    intro h1 is R1 g2 S1
    have R1' := R1
    obtain ⟨s1, ⟨s2, s3⟩, s4, s5, s6, s7, s8, s9, s10, s11⟩ := R1
    have m4 := s4.2.2.1
    refine p_aload 17 rfl rfl rfl ?_
    refine p_const 19 rfl rfl ?_
    refine p_aload 20 rfl rfl rfl ?_
    refine p_getfi (j := 2) (z := (tk L i).2.1) 23 rfl rfl rfl (tg_66 S1) rfl g2 ?_
    refine p_callv (le := [some (.inr (.inr 66)), some (.inl 20), some (.inl ((tk L i).2.1))]) (as := [.inr (.inr 66), .inl 20, .inl ((tk L i).2.1)]) (rest := []) 26 0 0 0 0 rfl rfl (Nat.le_of_ble_eq_true rfl) rfl (Nat.le_of_ble_eq_true rfl) rfl rfl (Nat.le_of_ble_eq_true rfl) rfl (Nat.le_of_ble_eq_true rfl) rfl (Nat.le_refl _) (Nat.le_refl _) rfl rfl (tg_66 S1) ?_
    refine m_opens S1 20 ((tk L i).2.1) s8 (by omega) s5 (by omega) (fun y1 p1 S1 => ?_)
    show Wp (d + 4) 0 0 M_X12_part 26 [some (.inr (.inr 66))] [] y1 _
    have g2' : gv y1 66 2 = (tk L i).2.1 := (p1.1.1 66 2 rfl).trans g2
    refine p_aload 27 rfl rfl rfl ?_
    refine p_dup 28 rfl rfl nl_r ?_
    refine p_getfi (j := 2) (z := gv y1 66 2) 31 rfl rfl rfl (tg_66 S1) rfl rfl ?_
    refine p_const 32 rfl rfl ?_
    refine p_iadd (z := (gv y1 66 2) + 1) 33 rfl rfl (w32_id ⟨(by omega), (by omega)⟩) ?_
    refine p_putfi (j := 2) 36 rfl rfl rfl (fun z => absurd z (by decide)) (tg_66 S1) rfl ?_
    refine p_nmh (fun y2 e2 => ?_)
    have S2 : Shape y2 := by rw [e2]; exact S1.svF ff_66_2 _
    refine p_goto 0 rfl rfl ?_
    -- leaf 1: loop 0 [some (.inr (.inr 66))] st=[] h=y2 e2
    obtain ⟨ko, oc⟩ := p1
    have kB : Keep rtA h0 y2 := by rw [e2]; exact (s1.trans (ko.wide opA_rtA)).sv rfl _
    have f : ∀ j, j ≠ 2 → gv y2 66 j = gv y1 66 j := fun j hj => by rw [e2, sv_nf (by omega)]
    have f2 : ∀ a j, a ≠ 66 → gv y2 a j = gv y1 a j := fun a j ha => by rw [e2, sv_ne (by omega)]
    rcases oc with ⟨lt, st, oe, b5, b6⟩ | ⟨eq6, b3, pl⟩
    · refine K1 is (by omega) _ ⟨kB, ⟨s2.kp ((f 3 (by decide)).trans (ko.1 66 3 rfl)) (fun i => (f2 67 i (by decide)).trans (ko.1 67 i rfl)), (s3.kp ko (fun a i x y => decide_eq_false (by omega))).kp (A := lukA) (by rw [e2]; exact (Keep.rf _ _).sv rfl _) (fun a i x y => decide_eq_false (by omega))⟩, MAt.sign O LX (B.nx i7 (by rw [is.1]; decide)).1 is.1 t2.1 (by rw [e2, sv_eq, g2']) (by rw [f 4 (by decide), ko.1 66 4 rfl]; omega), (f 5 (by decide)).trans b5, ?_, ?_, st.of (f 28 (by decide)) (fun i => f2 85 i (by decide)), s9.of ((f 26 (by decide)).trans (ko.1 66 26 rfl)) (fun i => (f2 84 i (by decide)).trans (ko.1 84 i rfl)), ?_, by omega, ((f 6 (by decide)).trans b6).trans s11.2⟩ S2
      · rw [f 29 (by decide), oe, s6]; rfl
      · rw [f 30 (by decide), ko.1 66 30 rfl]; exact s7
      · rw [List.length_append]; show W.length + 1 + C.length + 4 ≤ i + 1; omega
    · have c26 : gv y2 66 26 = (C.length : Int) := by rw [f 26 (by decide), ko.1 66 26 rfl]; exact s9.1
      have b3' : gv y2 66 5 = 3 := (f 5 (by decide)).trans b3
      exact J0b _ (by omega) (K2 is (by omega) _ ⟨kB, b3', by decide, (f 6 (by decide)).trans pl, by omega, by omega⟩ S2) S2
  refine p_aload 1 rfl rfl rfl ?_
  refine p_getfi (j := 5) (z := gv h 66 5) 4 rfl rfl rfl (tg_66 S) rfl rfl ?_
  refine p_if_ne_f 7 rfl rfl (by omega) ?_
  refine p_aload 8 rfl rfl rfl ?_
  refine p_callv (le := [some (.inr (.inr 66))]) (as := [.inr (.inr 66)]) (rest := []) 11 0 0 0 0 rfl rfl (Nat.le_of_ble_eq_true rfl) rfl (Nat.le_of_ble_eq_true rfl) rfl rfl (Nat.le_of_ble_eq_true rfl) rfl (Nat.le_of_ble_eq_true rfl) rfl (Nat.le_refl _) (Nat.le_refl _) rfl rfl (tg_66 S) ?_
  refine m_lookT S O r2 LX r4 (fun r1 y1 p1 S1 => ?_)
  show Wp (d + 4) 0 0 M_X12_part 11 [some (.inr (.inr 66))] [.inl r1] y1 _
  obtain ⟨kl, re, M2, g2⟩ := p1
  have R1 := R0.tk (kl.wide lukA_tkA) M2 (Nat.le_refl i)
  refine p_const 13 rfl rfl ?_
  refine p_ic_ne 16 39 rfl rfl rfl (fun c2 => ?_) (fun c2 => ?_)
  · skip
    -- leaf 1: loop 39 [some (.inr (.inr 66))] st=[] h=y1 
    exact K3 (fun y => by have := sg.1 y; omega) _ R1 S1
  · skip
    -- leaf 2: loop 16 [some (.inr (.inr 66))] st=[] h=y1 
    exact J16 _ (sg.2 (by omega)) R1 g2 S1

