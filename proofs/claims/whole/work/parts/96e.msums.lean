/-! THE MODEL'S READER: a whole sum -/
theorem m_sums {d : Nat} {h0 h : PH} {q : PQ} (S : Shape h) {T : Int → Int} {n : Int} {L : List Tok} {i o : Nat} {bb : Int} {W C : List Int} {r : Rs} (O : TxO T n) (LX : LexA T n L) (D : Dv L 1 [] o i r) (R : RdM h0 h T n L i o bb W C) (p3 : (prv L i).1 ≠ 3) (no : noOp W)
    (K1 : ∀ j c, r = okR j c → ∀ h', RdM h0 h' T n L j o bb W (C ++ c) → Shape h' → q none h') (K2 : ∀ k p, r = bdR k p → ∀ h', BdM h0 h' k p → Shape h' → q none h') :
    Wp (d + 6) 0 0 M_X12_sums 0 [some (.inr (.inr 66)), none, none] [] h q := by
  have l7 := (LX.tl O).1
  have i7 := R.2.2.1.1
  have wl := R.2.2.2.2.2.2.2.2.1
  have J53b : ∀ (h1 : PH) (k p m : Int), r = bdR k p → BdM h0 h1 k p → Shape h1 → Wp (d + 6) 0 0 M_X12_sums 53 [some (.inr (.inr 66)), some (.inl bb), some (.inl m)] [] h1 q := by
    intro h1 k p m er B1 S1
    obtain ⟨b1, b2, b3, b4, b5, b6⟩ := B1
    refine p_aload 54 rfl rfl rfl ?_
    refine p_getfi (j := 5) (z := gv h1 66 5) 57 rfl rfl rfl (tg_66 S1) rfl rfl ?_
    refine p_if_ne_t 78 rfl rfl (by omega) ?_
    refine p_aload 79 rfl rfl rfl ?_
    refine p_iload 80 rfl rfl rfl ?_
    refine p_putfi (j := 30) 83 rfl rfl rfl (fun z => absurd z (by decide)) (tg_66 S1) rfl ?_
    refine p_nmh (fun y1 e1 => ?_)
    have S1 : Shape y1 := by rw [e1]; exact S1.svF ff_66_30 _
    refine p_ret rfl rfl ?_
    -- leaf 1: answer [] h=y1 e1
    refine K2 k p er _ ⟨by rw [e1]; exact b1.sv rfl _, by rw [e1, sv_nf (by decide)]; exact b2, b3, by rw [e1, sv_nf (by decide)]; exact b4, by rw [e1, sv_nf (by decide)]; exact b5, by rw [e1, sv_nf (by decide)]; exact b6⟩ S1
  have J15b : ∀ (h1 : PH) (k p : Int), r = bdR k p → BdM h0 h1 k p → Shape h1 → Wp (d + 6) 0 0 M_X12_sums 15 [some (.inr (.inr 66)), some (.inl bb), some (.inl 0)] [] h1 q := by
    intro h1 k p er B1 S1
    refine p_iload 16 rfl rfl rfl ?_
    refine p_if_eq_t 53 rfl rfl (by decide) ?_
    -- leaf 1: loop 53 [some (.inr (.inr 66)), some (.inl bb), some (.inl 0)] st=[] h=h1 
    exact J53b h1 k p 0 er B1 S1
  have J53 : ∀ (h1 : PH) (j : Nat) (c D : List Int) (m : Int), r = okR j c → RdM h0 h1 T n L j o W.length W D → D = C ++ c → Shape h1 → Wp (d + 6) 0 0 M_X12_sums 53 [some (.inr (.inr 66)), some (.inl bb), some (.inl m)] [] h1 q := by
    intro h1 j c D m er R1 eD S1
    obtain ⟨u1, ⟨u2, u3⟩, u4, u5, u6, u7, u8, u9, u10, u11⟩ := R1
    have yw := u8.1
    refine p_aload 54 rfl rfl rfl ?_
    refine p_getfi (j := 5) (z := gv h1 66 5) 57 rfl rfl rfl (tg_66 S1) rfl rfl ?_
    refine p_if_ne_f 60 rfl rfl (by omega) ?_
    refine p_aload 61 rfl rfl rfl ?_
    refine p_getfi (j := 28) (z := (W.length : Int)) 64 rfl rfl rfl (tg_66 S1) rfl yw ?_
    refine p_aload 65 rfl rfl rfl ?_
    refine p_getfi (j := 30) (z := (W.length : Int)) 68 rfl rfl rfl (tg_66 S1) rfl u7 ?_
    refine p_ic_le_t 78 rfl rfl (by omega) ?_
    refine p_aload 79 rfl rfl rfl ?_
    refine p_iload 80 rfl rfl rfl ?_
    refine p_putfi (j := 30) 83 rfl rfl rfl (fun z => absurd z (by decide)) (tg_66 S1) rfl ?_
    refine p_nmh (fun y1 e1 => ?_)
    have S1 : Shape y1 := by rw [e1]; exact S1.svF ff_66_30 _
    refine p_ret rfl rfl ?_
    -- leaf 1: answer [] h=y1 e1
    have k : Keep rtA h1 y1 := by rw [e1]; exact (Keep.rf _ _).sv rfl _
    have f : ∀ j, j ≠ 30 → gv y1 66 j = gv h1 66 j := fun j hj => by rw [e1, sv_nf (by omega)]
    refine K1 j c er _ ⟨u1.trans k, ⟨u2.kp (k.1 66 3 rfl) (fun i => k.1 67 i rfl), u3.kp k rtA_wd⟩, u4.of (f 2 (by decide)) (f 4 (by decide)), (f 5 (by decide)).trans u5, (f 29 (by decide)).trans u6, by rw [e1, sv_eq], u8.of (f 28 (by decide)) (fun i => by rw [e1, sv_ne (by decide)]), ?_, by rw [← eD]; exact u10, u11.1, (f 6 (by decide)).trans u11.2⟩ S1
    rw [← eD]
    exact u9.of (f 26 (by decide)) (fun i => by rw [e1, sv_ne (by decide)])
  have J53p : ∀ (h1 : PH) (j : Nat) (c D pend : List Int) (m : Int), r = okR j c → pendOp pend → RdM h0 h1 T n L j o W.length (W ++ pend) D → D ++ pend = C ++ c → Shape h1 → Wp (d + 6) 0 0 M_X12_sums 53 [some (.inr (.inr 66)), some (.inl bb), some (.inl m)] [] h1 q := by
    intro h1 j c D pend m er pp R1 eD S1
    rcases pp with e | ⟨x, e, _, _⟩
    · subst e
      rw [List.append_nil] at R1 eD
      exact J53 h1 j c D m er R1 eD S1
    · subst e
      have R1' := R1
      obtain ⟨u1, ⟨u2, u3⟩, u4, u5, u6, u7, u8, u9, u10, u11⟩ := R1
      have yw := u8.top.1
      have j7 := u4.1
      rw [List.length_append] at u10
      refine p_aload 54 rfl rfl rfl ?_
      refine p_getfi (j := 5) (z := gv h1 66 5) 57 rfl rfl rfl (tg_66 S1) rfl rfl ?_
      refine p_if_ne_f 60 rfl rfl (by omega) ?_
      refine p_aload 61 rfl rfl rfl ?_
      refine p_getfi (j := 28) (z := (W.length : Int) + 1) 64 rfl rfl rfl (tg_66 S1) rfl yw ?_
      refine p_aload 65 rfl rfl rfl ?_
      refine p_getfi (j := 30) (z := (W.length : Int)) 68 rfl rfl rfl (tg_66 S1) rfl u7 ?_
      refine p_ic_le_f 71 rfl rfl (by omega) ?_
      refine p_aload 72 rfl rfl rfl ?_
      refine p_callv (le := [some (.inr (.inr 66))]) (as := [.inr (.inr 66)]) (rest := []) 75 0 0 0 0 rfl rfl (Nat.le_of_ble_eq_true rfl) rfl (Nat.le_of_ble_eq_true rfl) rfl rfl (Nat.le_of_ble_eq_true rfl) rfl (Nat.le_of_ble_eq_true rfl) rfl (Nat.le_refl _) (Nat.le_refl _) rfl rfl (tg_66 S1) ?_
      refine m_drops S1 u8 u9 (by omega) (by omega) (fun y1 p1 S1 => ?_)
      show Wp (d + 6) 0 0 M_X12_sums 75 [some (.inr (.inr 66)), some (.inl bb), some (.inl m)] [] y1 _
      refine p_goto 53 rfl rfl ?_
      -- leaf 1: loop 53 [some (.inr (.inr 66)), some (.inl bb), some (.inl m)] st=[] h=y1 
      exact J53 _ j c _ m er (R1'.drop p1.1 p1.2.1 p1.2.2) eD S1
  have J15z : ∀ (h1 : PH), Wp (d + 6) 0 0 M_X12_sums 53 [some (.inr (.inr 66)), some (.inl bb), some (.inl 0)] [] h1 q → Shape h1 → Wp (d + 6) 0 0 M_X12_sums 15 [some (.inr (.inr 66)), some (.inl bb), some (.inl 0)] [] h1 q := by
    intro h1 G S1
    refine p_iload 16 rfl rfl rfl ?_
    refine p_if_eq_t 53 rfl rfl (by decide) ?_
    -- leaf 1: loop 53 [some (.inr (.inr 66)), some (.inl bb), some (.inl 0)] st=[] h=h1 
    exact G
  let qa : PQ := fun r h' => Wp (d + 6) 0 0 M_X12_sums 30 [some (.inr (.inr 66)), some (.inl bb), some (.inl 1)] (r.toList ++ []) h' q
  let qb : PQ := fun r h' => Wp (d + 6) 0 0 M_X12_sums 41 [some (.inr (.inr 66)), some (.inl bb), some (.inl 1)] (r.toList ++ []) h' q
  have J15o : ∀ (h1 : PH), gv h1 66 5 = 0 → WPa d qa h1 → Shape h1 → Wp (d + 6) 0 0 M_X12_sums 15 [some (.inr (.inr 66)), some (.inl bb), some (.inl 1)] [] h1 q := by
    intro h1 b5 G S1
    refine p_iload 16 rfl rfl rfl ?_
    refine p_if_eq_f 19 rfl rfl (by decide) ?_
    refine p_aload 20 rfl rfl rfl ?_
    refine p_getfi (j := 5) (z := gv h1 66 5) 23 rfl rfl rfl (tg_66 S1) rfl rfl ?_
    refine p_if_ne_f 26 rfl rfl (by omega) ?_
    refine p_aload 27 rfl rfl rfl ?_
    refine p_callv (le := [some (.inr (.inr 66))]) (as := [.inr (.inr 66)]) (rest := []) 30 0 0 0 0 rfl rfl (Nat.le_of_ble_eq_true rfl) rfl (Nat.le_of_ble_eq_true rfl) rfl rfl (Nat.le_of_ble_eq_true rfl) rfl (Nat.le_of_ble_eq_true rfl) rfl (Nat.le_refl _) (Nat.le_refl _) rfl rfl (tg_66 S1) ?_
    exact G
  have Q41 : ∀ (h1 : PH) (v : Int), (v ≠ 0 → Wp (d + 6) 0 0 M_X12_sums 15 [some (.inr (.inr 66)), some (.inl bb), some (.inl 1)] [] h1 q) → (v = 0 → Wp (d + 6) 0 0 M_X12_sums 15 [some (.inr (.inr 66)), some (.inl bb), some (.inl 0)] [] h1 q) → Shape h1 → qb (some (.inl v)) h1 := by
    intro h1 v G1 G0 S1
    show Wp (d + 6) 0 0 M_X12_sums 41 [some (.inr (.inr 66)), some (.inl bb), some (.inl 1)] [.inl v] h1 q
    refine p_if_eq 44 48 rfl rfl rfl (fun c1 => ?_) (fun c1 => ?_)
    · skip
      refine p_const 49 rfl rfl ?_
      refine p_istore (ls' := [some (.inr (.inr 66)), some (.inl bb), some (.inl 0)]) 50 rfl rfl (Nat.le_of_ble_eq_true rfl) rfl ?_
      refine p_goto 15 rfl rfl ?_
      -- leaf 1: loop 15 [some (.inr (.inr 66)), some (.inl bb), some (.inl 0)] st=[] h=h1 
      first | exact G0 (by omega) | exact G1 (by omega)
    · skip
      refine p_const 45 rfl rfl ?_
      refine p_goto 49 rfl rfl ?_
      refine p_istore (ls' := [some (.inr (.inr 66)), some (.inl bb), some (.inl 1)]) 50 rfl rfl (Nat.le_of_ble_eq_true rfl) rfl ?_
      refine p_goto 15 rfl rfl ?_
      -- leaf 2: loop 15 [some (.inr (.inr 66)), some (.inl bb), some (.inl 1)] st=[] h=h1 
      first | exact G0 (by omega) | exact G1 (by omega)
  have HL1 : ∀ h' i o W' C, RdM h0 h' T n L i o W.length W' C → Shape h' → WGo d qb h' → qa none h' := by
    intro h1 i o W' C R1 S1 G
    have b5 := R1.2.2.2.1
    show Wp (d + 6) 0 0 M_X12_sums 30 [some (.inr (.inr 66)), some (.inl bb), some (.inl 1)] [] h1 q
    refine p_aload 31 rfl rfl rfl ?_
    refine p_getfi (j := 5) (z := gv h1 66 5) 34 rfl rfl rfl (tg_66 S1) rfl rfl ?_
    refine p_if_ne_f 37 rfl rfl (by omega) ?_
    refine p_aload 38 rfl rfl rfl ?_
    refine p_callv (le := [some (.inr (.inr 66)), none]) (as := [.inr (.inr 66)]) (rest := []) 41 0 0 0 0 rfl rfl (Nat.le_of_ble_eq_true rfl) rfl (Nat.le_of_ble_eq_true rfl) rfl rfl (Nat.le_of_ble_eq_true rfl) rfl (Nat.le_of_ble_eq_true rfl) rfl (Nat.le_refl _) (Nat.le_refl _) rfl rfl (tg_66 S1) ?_
    exact G
  have HL3 : ∀ h' i o W' C, RdM h0 h' T n L i o W.length W' C → Shape h' → WPa d qa h' → qb (some (.inl 1)) h' := fun h1 i o W' C R1 S1 G => Q41 h1 1 (fun _ => J15o h1 R1.2.2.2.1 G S1) (fun z => absurd z (by decide)) S1
  have HB : ∀ h' k p, r = bdR k p → BdM h0 h' k p → Shape h' → qa none h' ∧ qb (some (.inl 0)) h' := by
    intro h1 k p er B1 S1
    have b5 := B1.2.1
    have b50 := B1.2.2.1
    refine ⟨?_, Q41 h1 0 (fun z => absurd rfl z) (fun _ => J15b h1 k p er B1 S1) S1⟩
    show Wp (d + 6) 0 0 M_X12_sums 30 [some (.inr (.inr 66)), some (.inl bb), some (.inl 1)] [] h1 q
    refine p_aload 31 rfl rfl rfl ?_
    refine p_getfi (j := 5) (z := gv h1 66 5) 34 rfl rfl rfl (tg_66 S1) rfl rfl ?_
    refine p_if_ne_t 48 rfl rfl (by omega) ?_
    refine p_const 49 rfl rfl ?_
    refine p_istore (ls' := [some (.inr (.inr 66)), some (.inl bb), some (.inl 0)]) 50 rfl rfl (Nat.le_of_ble_eq_true rfl) rfl ?_
    refine p_goto 15 rfl rfl ?_
    -- leaf 1: loop 15 [some (.inr (.inr 66)), some (.inl bb), some (.inl 0)] st=[] h=h1 
    exact J15b h1 k p er B1 S1
  have Z := D _ (msum_clo (d := d) (h0 := h0) (qa := qa) (qb := qb) (b := W.length) O LX (Int.natCast_nonneg _) HL1 HL3)
  have Z : ∀ h W' C, RdM h0 h T n L i o W.length W' C → (prv L i).1 ≠ 3 → (W.length : Int) ≤ W'.length → noOp W' → Shape h → FinS d h0 qa qb T n L W.length o W' C r → WPa d qa h := Z
  have fin : FinS d h0 qa qb T n L W.length o W C r := by
    rcases hr : r with ⟨j, c⟩ | ⟨k, p⟩
    · intro h1 pend C' pp e jn R1 S1
      have nm : ¬ hasMark (W ++ pend) W.length := by
        rintro ⟨k, k0, k1⟩
        rw [List.getElem?_append_right (by omega)] at k1
        rcases pp with z | ⟨x, z, x1, x3⟩
        · rw [z] at k1; cases k1
        · rw [z] at k1
          have lt := get_lt k1
          have lt : k - W.length < 1 := lt
          rw [show k - W.length = 0 by omega] at k1
          have k1 : some x = some 20 := k1
          cases k1
          omega
      refine m_goesHead S1 O LX R1 (Int.natCast_nonneg _) (fun _ z => absurd z nm) (fun _ h3 R3 S3 => ?_)
      refine m_goesSign S3 O LX R3 pp no (Int.natCast_nonneg _) (fun z => absurd jn z) (fun _ z => absurd z nm) (fun _ _ h4 R4 S4 => ?_)
      exact Q41 h4 0 (fun z => absurd rfl z) (fun _ => J15z h4 (J53p h4 j c _ pend 0 hr pp R4 e S4) S4) S4
    · intro h1 B1 S1
      exact HB h1 k p hr B1 S1
  have b5 := R.2.2.2.1
  have y28 := R.2.2.2.2.2.2.1.1
  have ebb := R.2.2.2.2.2.1
  refine p_aload 1 rfl rfl rfl ?_
  refine p_getfi (j := 30) (z := bb) 4 rfl rfl rfl (tg_66 S) rfl ebb ?_
  refine p_istore (ls' := [some (.inr (.inr 66)), some (.inl bb), none]) 5 rfl rfl (Nat.le_of_ble_eq_true rfl) rfl ?_
  refine p_aload 6 rfl rfl rfl ?_
  refine p_aload 7 rfl rfl rfl ?_
  refine p_getfi (j := 28) (z := (W.length : Int)) 10 rfl rfl rfl (tg_66 S) rfl y28 ?_
  refine p_putfi (j := 30) 13 rfl rfl rfl (fun z => absurd z (by decide)) (tg_66 S) rfl ?_
  refine p_nmh (fun y1 e1 => ?_)
  have S1 : Shape y1 := by rw [e1]; exact S.svF ff_66_30 _
  refine p_const 14 rfl rfl ?_
  refine p_istore (ls' := [some (.inr (.inr 66)), some (.inl bb), some (.inl 1)]) 15 rfl rfl (Nat.le_of_ble_eq_true rfl) rfl ?_
  -- leaf 1: loop 15 [some (.inr (.inr 66)), some (.inl bb), some (.inl 1)] st=[] h=y1 e1
  obtain ⟨u1, ⟨u2, u3⟩, u4, u5, u6, u7, u8, u9, u10, u11⟩ := R
  have k : Keep rtA h y1 := by rw [e1]; exact (Keep.rf _ _).sv rfl _
  have f : ∀ j, j ≠ 30 → gv y1 66 j = gv h 66 j := fun j hj => by rw [e1, sv_nf (by omega)]
  have R1 : RdM h0 y1 T n L i o W.length W C := ⟨u1.trans k, ⟨u2.kp (k.1 66 3 rfl) (fun i => k.1 67 i rfl), u3.kp k rtA_wd⟩, u4.of (f 2 (by decide)) (f 4 (by decide)), (f 5 (by decide)).trans u5, (f 29 (by decide)).trans u6, by rw [e1, sv_eq], u8.of (f 28 (by decide)) (fun i => by rw [e1, sv_ne (by decide)]), u9.of (f 26 (by decide)) (fun i => by rw [e1, sv_ne (by decide)]), u10, u11.1, (f 6 (by decide)).trans u11.2⟩
  exact J15o _ R1.2.2.2.1 (Z _ W C R1 p3 (Int.le_refl _) no S1 fin) S1

