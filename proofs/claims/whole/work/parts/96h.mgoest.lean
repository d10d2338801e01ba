/-! THE MODEL'S READER: how a test goes on -/
theorem w_and : wf (chr [97, 110, 100]) 3 = 1476 := by decide
theorem w_or : wf (chr [111, 114]) 2 = 498 := by decide
theorem w_not : wf (chr [110, 111, 116]) 3 = 14836 := by decide
theorem plain93 : plainS 93 := ⟨by decide, by decide, by decide, by decide⟩
theorem plain91 : plainS 91 := ⟨by decide, by decide, by decide, by decide⟩
theorem RdM.push {h0 h1 y : PH} {T : Int → Int} {n : Int} {L : List Tok} {j o : Nat} {b : Int} {W D : List Int} {op : Int} (R1 : RdM h0 h1 T n L j o b W D) (ll : W.length + D.length + 5 ≤ j) (ey : y = sv (sv h1 85 W.length op) 66 28 (W.length + 1)) : RdM h0 y T n L j o b (W ++ [op]) D := by
  obtain ⟨u1, ⟨u2, u3⟩, u4, u5, u6, u7, u8, u9, u10, u11⟩ := R1
  have k : Keep rtA h1 y := by rw [ey]; exact ((Keep.rf _ _).sv rfl _).sv rfl _
  have f : ∀ j, j ≠ 28 → gv y 66 j = gv h1 66 j := fun j hj => by rw [ey, sv_nf (by omega), sv_ne (by decide)]
  refine ⟨u1.trans k, ⟨u2.kp (k.1 66 3 rfl) (fun i => k.1 67 i rfl), u3.kp k rtA_wd⟩, u4.of (f 2 (by decide)) (f 4 (by decide)), (f 5 (by decide)).trans u5, (f 29 (by decide)).trans u6, (f 30 (by decide)).trans u7, ⟨?_, fun j x hj => ?_⟩, u9.of (f 26 (by decide)) (fun i => by rw [ey, sv_ne (by decide), sv_ne (by decide)]), ?_, u11.1, (f 6 (by decide)).trans u11.2⟩
  · rw [ey, sv_eq, List.length_append]; rfl
  · rw [ey, sv_ne (by decide)]
    rcases snoc_get hj with ⟨j1, j2⟩ | ⟨j1, j2⟩
    · rw [sv_nf (by omega)]; exact u8.2 j x j2
    · rw [j2, j1]; exact sv_eq _ _ _ _
  · rw [List.length_append]; show W.length + 1 + _ + 4 ≤ j; omega
theorem RdM.pop {h0 h y : PH} {T : Int → Int} {n : Int} {L : List Tok} {j o : Nat} {b : Int} {W C : List Int} {x v w : Int} (R : RdM h0 h T n L j (o + 1) b (W ++ [x]) C) (ey : y = sv (sv h 66 28 v) 66 29 w) (ev : v = W.length) (ew : w = o) : RdM h0 y T n L j o b W C := by
  obtain ⟨u1, ⟨u2, u3⟩, u4, u5, u6, u7, u8, u9, u10, u11⟩ := R
  have k : Keep rtA h y := by rw [ey]; exact ((Keep.rf _ _).sv rfl _).sv rfl _
  have f : ∀ j, j ≠ 28 → j ≠ 29 → gv y 66 j = gv h 66 j := fun j hj hk => by rw [ey, sv_nf (by omega), sv_nf (by omega)]
  rw [List.length_append] at u10
  have u10 : W.length + 1 + C.length + 4 ≤ j := u10
  exact ⟨u1.trans k, ⟨u2.kp (k.1 66 3 rfl) (fun i => k.1 67 i rfl), u3.kp k rtA_wd⟩, u4.of (f 2 (by decide) (by decide)) (f 4 (by decide) (by decide)), (f 5 (by decide) (by decide)).trans u5, by rw [ey, sv_eq, ew], (f 30 (by decide) (by decide)).trans u7, u8.pop (by rw [ey, sv_nf (by decide), sv_eq, ev]) (fun i => by rw [ey, sv_ne (by decide), sv_ne (by decide)]), u9.of (f 26 (by decide) (by decide)) (fun i => by rw [ey, sv_ne (by decide), sv_ne (by decide)]), by omega, by omega, (f 6 (by decide) (by decide)).trans u11.2⟩
theorem m_gtHead {d : Nat} {h0 h : PH} {q : PQ} (S : Shape h) {T : Int → Int} {n : Int} {L : List Tok} {i o : Nat} {b : Int} {V C : List Int} (O : TxO T n) (LX : LexA T n L) (R : RdM h0 h T n L i o b V C)
    (K1 : isSg L i 93 → 25 ∈ V → ∀ h', RdM h0 h' T n L i o b V C → gv h' 66 2 = (tk L i).2.1 → Shape h' → Wp (d + 7) 0 0 M_X12_goesOnTest 23 [some (.inr (.inr 66))] [] h' q)
    (K2 : ¬ (isSg L i 93 ∧ 25 ∈ V) → ∀ h', RdM h0 h' T n L i o b V C → Shape h' → Wp (d + 7) 0 0 M_X12_goesOnTest 76 [some (.inr (.inr 66))] [] h' q) :
    Wp (d + 7) 0 0 M_X12_goesOnTest 0 [some (.inr (.inr 66))] [] h q := by
  have l7 := (LX.tl O).1
  have R0 := R
  obtain ⟨r1, ⟨r2, r3⟩, r4, r5, r6, r7, r8, r9, r10, r11⟩ := R
  have i7 := r4.1
  have TA := LX.tok O i7
  have sg := TA.sg O plain93.1 plain93.2.1 plain93.2.2.1 plain93.2.2.2
  refine p_aload 1 rfl rfl rfl ?_
  refine p_getfi (j := 5) (z := gv h 66 5) 4 rfl rfl rfl (tg_66 S) rfl rfl ?_
  refine p_if_ne_f 7 rfl rfl (by omega) ?_
  refine p_aload 8 rfl rfl rfl ?_
  refine p_callv (le := [some (.inr (.inr 66))]) (as := [.inr (.inr 66)]) (rest := []) 11 0 0 0 0 rfl rfl (Nat.le_of_ble_eq_true rfl) rfl (Nat.le_of_ble_eq_true rfl) rfl rfl (Nat.le_of_ble_eq_true rfl) rfl (Nat.le_of_ble_eq_true rfl) rfl (Nat.le_refl _) (Nat.le_refl _) rfl rfl (tg_66 S) ?_
  refine m_lookT S O r2 LX r4 (fun r1 y1 p1 S1 => ?_)
  show Wp (d + 7) 0 0 M_X12_goesOnTest 11 [some (.inr (.inr 66))] [.inl r1] y1 _
  obtain ⟨kl, re, M2, g2⟩ := p1
  have R1 := R0.tk (kl.wide lukA_tkA) M2 (Nat.le_refl i)
  refine p_const 13 rfl rfl ?_
  refine p_ic_ne 16 76 rfl rfl rfl (fun c2 => ?_) (fun c2 => ?_)
  · skip
    -- leaf 1: loop 76 [some (.inr (.inr 66))] st=[] h=y1 
    exact K2 (fun z => by have := sg.1 z.1; omega) _ R1 S1
  · skip
    refine p_aload 17 rfl rfl rfl ?_
    refine p_callv (le := [some (.inr (.inr 66)), none]) (as := [.inr (.inr 66)]) (rest := []) 20 0 0 0 0 rfl rfl (Nat.le_of_ble_eq_true rfl) rfl (Nat.le_of_ble_eq_true rfl) rfl rfl (Nat.le_of_ble_eq_true rfl) rfl (Nat.le_of_ble_eq_true rfl) rfl (Nat.le_refl _) (Nat.le_refl _) rfl rfl (tg_66 S1) ?_
    refine m_hasSqP S1 R1.2.2.2.2.2.2.1 (by omega) (fun r3 p3 => ?_)
    show Wp (d + 7) 0 0 M_X12_goesOnTest 20 [some (.inr (.inr 66))] [.inl r3] y1 _
    refine p_if_eq 23 76 rfl rfl rfl (fun c4 => ?_) (fun c4 => ?_)
    · skip
      -- leaf 2: loop 76 [some (.inr (.inr 66))] st=[] h=y1 
      rcases p3 with ⟨_, z⟩ | ⟨z, _⟩
      · omega
      · exact K2 (fun y => z y.2) _ R1 S1
    · skip
      -- leaf 3: loop 23 [some (.inr (.inr 66))] st=[] h=y1 
      rcases p3 with ⟨z, _⟩ | ⟨_, z⟩
      · exact K1 (sg.2 (by omega)) z _ R1 g2 S1
      · omega
theorem m_gtClose {d : Nat} {h0 h : PH} {q : PQ} (S : Shape h) {T : Int → Int} {n : Int} {L : List Tok} {i o k : Nat} {b : Int} {U P C : List Int} (O : TxO T n) (LX : LexA T n L) (R : RdM h0 h T n L i (o + 1) b (U ++ List.replicate k 16 ++ [25] ++ P.reverse) C) (nP : ¬ 25 ∈ P) (nU : ¬ ∃ V, U = V ++ [16]) (ko : k ≤ o) (is : isSg L i 93) (g2 : gv h 66 2 = (tk L i).2.1)
    (K : ∀ h', RdM h0 h' T n L (i + 1) (o - k) b U (C ++ P ++ List.replicate k 16) → Shape h' → Wp (d + 7) 0 0 M_X12_goesOnTest 0 [some (.inr (.inr 66))] [] h' q) :
    Wp (d + 7) 0 0 M_X12_goesOnTest 23 [some (.inr (.inr 66))] [] h q := by
  have l7 := (LX.tl O).1
  have n7 := O.1
  have B := LX.tl O
  have i7 := R.2.2.1.1
  have TA := LX.tok O i7
  have t2 := TA.2.1
  have m4 := R.2.2.1.2.2.1
  have J49 : ∀ (h1 : PH), RdM h0 h1 T n L (i + 1) (o + 1) b (U ++ List.replicate k 16 ++ [25]) (C ++ P) → Shape h1 → Wp (d + 7) 0 0 M_X12_goesOnTest 49 [some (.inr (.inr 66))] [] h1 q := by
    intro h1 R1 S1
    have R0 := R1
    obtain ⟨r1, ⟨r2, r3⟩, r4, r5, r6, r7, r8, r9, r10, r11⟩ := R1
    have w28 := r8.top.1
    have wl : (U ++ List.replicate k (16 : Int)).length = U.length + k := by rw [List.length_append, List.length_replicate]
    have wl2 : (U ++ List.replicate k (16 : Int) ++ [25]).length = U.length + k + 1 := by rw [List.length_append, wl]; rfl
    rw [wl] at w28
    rw [wl2] at r10
    have r6 : gv h1 66 29 = (o : Int) + 1 := r6
    refine p_aload 50 rfl rfl rfl ?_
    refine p_dup 51 rfl rfl nl_r ?_
    refine p_getfi (j := 28) (z := ((U.length + k : Nat) : Int) + 1) 54 rfl rfl rfl (tg_66 S1) rfl w28 ?_
    refine p_const 55 rfl rfl ?_
    refine p_isub (z := (((U.length + k : Nat) : Int) + 1) - 1) 56 rfl rfl (w32_id ⟨(by omega), (by omega)⟩) ?_
    refine p_putfi (j := 28) 59 rfl rfl rfl (fun z => absurd z (by decide)) (tg_66 S1) rfl ?_
    refine p_nmh (fun y1 e1 => ?_)
    have S1 : Shape y1 := by rw [e1]; exact S1.svF ff_66_28 _
    refine p_aload 60 rfl rfl rfl ?_
    refine p_dup 61 rfl rfl nl_r ?_
    refine p_getfi (j := 29) (z := (o : Int) + 1) 64 rfl rfl rfl (tg_66 S1) rfl (by rw [e1, sv_nf (by decide)]; exact r6) ?_
    refine p_const 65 rfl rfl ?_
    refine p_isub (z := ((o : Int) + 1) - 1) 66 rfl rfl (w32_id ⟨(by omega), (by omega)⟩) ?_
    refine p_putfi (j := 29) 69 rfl rfl rfl (fun z => absurd z (by decide)) (tg_66 S1) rfl ?_
    refine p_nmh (fun y2 e2 => ?_)
    have S2 : Shape y2 := by rw [e2]; exact S1.svF ff_66_29 _
    refine p_aload 70 rfl rfl rfl ?_
    have R2 : RdM h0 y2 T n L (i + 1) o b (U ++ List.replicate k 16) (C ++ P) := R0.pop (by rw [e2, e1]) (by rw [wl]; omega) (by omega)
    refine p_callv (le := [some (.inr (.inr 66))]) (as := [.inr (.inr 66)]) (rest := []) 73 0 0 0 0 rfl rfl (Nat.le_of_ble_eq_true rfl) rfl (Nat.le_of_ble_eq_true rfl) rfl rfl (Nat.le_of_ble_eq_true rfl) rfl (Nat.le_of_ble_eq_true rfl) rfl (Nat.le_refl _) (Nat.le_refl _) rfl rfl (tg_66 S2) ?_
    refine m_dropsNots S2 R2.2.2.2.2.2.2.1 R2.2.2.2.2.2.2.2.1 nU R2.2.2.2.1 (by omega) (by rw [List.length_append] at r10 ⊢; omega) (by have := R2.2.2.2.2.1; omega) (fun y3 p3 S3 => ?_)
    show Wp (d + 7) 0 0 M_X12_goesOnTest 73 [some (.inr (.inr 66))] [] y3 _
    refine p_goto 0 rfl rfl ?_
    -- leaf 1: loop 0 [some (.inr (.inr 66))] st=[] h=y3 
    exact K _ (R2.nots ko p3) S3
  have J33 : ∀ (Q D : List Int) (h1 : PH), ¬ 25 ∈ Q → D ++ Q = C ++ P → RdM h0 h1 T n L (i + 1) (o + 1) b (U ++ List.replicate k 16 ++ [25] ++ Q.reverse) D → Shape h1 → Wp (d + 7) 0 0 M_X12_goesOnTest 33 [some (.inr (.inr 66))] [] h1 q := by
    intro Q
    induction Q with
    | nil =>
      intro D h1 nQ eD R1 S1
      rw [List.reverse_nil, List.append_nil] at R1
      rw [List.append_nil] at eD
      have r10 := R1.2.2.2.2.2.2.2.2.1
      have wl2 : (U ++ List.replicate k (16 : Int) ++ [25]).length = (U ++ List.replicate k (16 : Int)).length + 1 := by rw [List.length_append]; rfl
      rw [wl2] at r10
      refine p_aload 34 rfl rfl rfl ?_
      refine p_const 36 rfl rfl ?_
      refine p_callv (le := [some (.inr (.inr 66)), some (.inl 25)]) (as := [.inr (.inr 66), .inl 25]) (rest := []) 39 0 0 0 0 rfl rfl (Nat.le_of_ble_eq_true rfl) rfl (Nat.le_of_ble_eq_true rfl) rfl rfl (Nat.le_of_ble_eq_true rfl) rfl (Nat.le_of_ble_eq_true rfl) rfl (Nat.le_refl _) (Nat.le_refl _) rfl rfl (tg_66 S1) ?_
      refine m_isOn1 S1 25 R1.2.2.2.2.2.2.1 (by omega) ?_
      show Wp (d + 7) 0 0 M_X12_goesOnTest 39 [some (.inr (.inr 66))] [.inl 1] h1 _
      refine p_if_ne_t 49 rfl rfl (by decide) ?_
      -- leaf 1: loop 49 [some (.inr (.inr 66))] st=[] h=h1 
      exact J49 h1 (by rw [← eD]; exact R1) S1
    | cons x Q ih =>
      intro D h1 nQ eD R1 S1
      rw [List.reverse_cons, ← List.append_assoc] at R1
      have x25 : x ≠ 25 := fun e => nQ (by rw [e]; exact List.mem_cons_self)
      have r10 := R1.2.2.2.2.2.2.2.2.1
      have wl2 : (U ++ List.replicate k (16 : Int) ++ [25] ++ Q.reverse ++ [x]).length = (U ++ List.replicate k (16 : Int) ++ [25] ++ Q.reverse).length + 1 := by rw [List.length_append]; rfl
      have r10' := r10
      rw [wl2] at r10'
      have no : ¬ ∃ V, U ++ List.replicate k (16 : Int) ++ [25] ++ Q.reverse ++ [x] = V ++ [25] := fun ⟨V, e⟩ => by
        have z := List.append_inj' e rfl
        have z2 := z.2
        cases z2
        exact x25 rfl
      refine p_aload 34 rfl rfl rfl ?_
      refine p_const 36 rfl rfl ?_
      refine p_callv (le := [some (.inr (.inr 66)), some (.inl 25)]) (as := [.inr (.inr 66), .inl 25]) (rest := []) 39 0 0 0 0 rfl rfl (Nat.le_of_ble_eq_true rfl) rfl (Nat.le_of_ble_eq_true rfl) rfl rfl (Nat.le_of_ble_eq_true rfl) rfl (Nat.le_of_ble_eq_true rfl) rfl (Nat.le_refl _) (Nat.le_refl _) rfl rfl (tg_66 S1) ?_
      refine m_isOn0 S1 25 R1.2.2.2.2.2.2.1 (by omega) no ?_
      show Wp (d + 7) 0 0 M_X12_goesOnTest 39 [some (.inr (.inr 66))] [.inl 0] h1 _
      refine p_if_ne_f 42 rfl rfl (by decide) ?_
      refine p_aload 43 rfl rfl rfl ?_
      refine p_callv (le := [some (.inr (.inr 66))]) (as := [.inr (.inr 66)]) (rest := []) 46 0 0 0 0 rfl rfl (Nat.le_of_ble_eq_true rfl) rfl (Nat.le_of_ble_eq_true rfl) rfl rfl (Nat.le_of_ble_eq_true rfl) rfl (Nat.le_of_ble_eq_true rfl) rfl (Nat.le_refl _) (Nat.le_refl _) rfl rfl (tg_66 S1) ?_
      refine m_drops S1 R1.2.2.2.2.2.2.1 R1.2.2.2.2.2.2.2.1 (by omega) (by omega) (fun y2 p2 S2 => ?_)
      show Wp (d + 7) 0 0 M_X12_goesOnTest 46 [some (.inr (.inr 66))] [] y2 _
      refine p_goto 33 rfl rfl ?_
      -- leaf 1: loop 33 [some (.inr (.inr 66))] st=[] h=y2 
      exact ih (D ++ [x]) _ (fun z => nQ (List.mem_cons_of_mem _ z)) (by rw [List.append_assoc]; exact eD) (R1.drop p2.1 p2.2.1 p2.2.2) S2
  refine p_aload 24 rfl rfl rfl ?_
  refine p_dup 25 rfl rfl nl_r ?_
  refine p_getfi (j := 2) (z := (tk L i).2.1) 28 rfl rfl rfl (tg_66 S) rfl g2 ?_
  refine p_const 29 rfl rfl ?_
  refine p_iadd (z := ((tk L i).2.1) + 1) 30 rfl rfl (w32_id ⟨(by omega), (by omega)⟩) ?_
  refine p_putfi (j := 2) 33 rfl rfl rfl (fun z => absurd z (by decide)) (tg_66 S) rfl ?_
  refine p_nmh (fun y1 e1 => ?_)
  have S1 : Shape y1 := by rw [e1]; exact S.svF ff_66_2 _
  -- leaf 1: loop 33 [some (.inr (.inr 66))] st=[] h=y1 e1
  have kt : Keep tkA h y1 := by rw [e1]; exact (Keep.rf _ _).sv rfl _
  have M2 : MAt y1 T n L (i + 1) := MAt.sign O LX (B.nx i7 (by rw [is.1]; decide)).1 is.1 t2.1 (by rw [e1, sv_eq]) (by rw [e1, sv_nf (by decide)]; omega)
  exact J33 P C _ nP rfl (R.tk kt M2 (Nat.le_succ i)) S1
theorem m_gtRest {d : Nat} {h0 h : PH} {q : PQ} (S : Shape h) {T : Int → Int} {n : Int} {L : List Tok} {i o : Nat} {b : Int} {V C : List Int} (O : TxO T n) (LX : LexA T n L) (R : RdM h0 h T n L i o b V C)
    (K1 : isWd L i 1476 → ∀ h', RdM h0 h' T n L (i + 1) o b V C → Shape h' → Wp (d + 7) 0 0 M_X12_goesOnTest 87 [some (.inr (.inr 66))] [] h' q)
    (K2 : ¬ isWd L i 1476 → isWd L i 498 → ∀ h', RdM h0 h' T n L (i + 1) o b V C → Shape h' → Wp (d + 7) 0 0 M_X12_goesOnTest 137 [some (.inr (.inr 66))] [] h' q)
    (K3 : ¬ isWd L i 1476 → ¬ isWd L i 498 → 25 ∈ V → ∀ h', BdM h0 h' 1 (tk L i).2.1 → Shape h' → q (some (.inl 0)) h')
    (K4 : ¬ isWd L i 1476 → ¬ isWd L i 498 → ¬ 25 ∈ V → ∀ h', RdM h0 h' T n L i o b V C → Shape h' → q (some (.inl 0)) h') :
    Wp (d + 7) 0 0 M_X12_goesOnTest 76 [some (.inr (.inr 66))] [] h q := by
  have l7 := (LX.tl O).1
  have R0 := R
  have i7 := R.2.2.1.1
  have r10 := R.2.2.2.2.2.2.2.2.1
  have RC := R0
  have WW := R0.2.1.2.2.2.2.2.1
  have XX := R0.2.1.1
  have MM := R0.2.2.1
  have BB := R0.2.2.2.1
  refine p_aload 77 rfl rfl rfl ?_
  refine p_aload 78 rfl rfl rfl ?_
  refine p_getfr (j := 13) (z := 72) 81 rfl rfl rfl (tg_66 S) rfl (fi_66_13 S) ?_
  refine p_callv (le := [some (.inr (.inr 66)), some (.inr (.inr 72))]) (as := [.inr (.inr 66), .inr (.inr 72)]) (rest := []) 84 0 0 0 0 rfl rfl (Nat.le_of_ble_eq_true rfl) rfl (Nat.le_of_ble_eq_true rfl) rfl rfl (Nat.le_of_ble_eq_true rfl) rfl (Nat.le_of_ble_eq_true rfl) rfl (Nat.le_refl _) (Nat.le_refl _) rfl rfl (tg_66 S) ?_
  refine m_takesW S 72 WW (by decide) O XX LX MM BB (fun y1 p1 S1 => ?_) (fun y1 p1 S1 => ?_)
  · show Wp (d + 7) 0 0 M_X12_goesOnTest 84 [some (.inr (.inr 66))] [.inl 1] y1 _
    refine p_if_eq_f 87 rfl rfl (by decide) ?_
    -- leaf 1: loop 87 [some (.inr (.inr 66))] st=[] h=y1 
    exact K1 (by have z := p1.2.1; rw [w_and] at z; exact z) _ (R0.tk p1.1 p1.2.2 (Nat.le_succ i)) S1
  · show Wp (d + 7) 0 0 M_X12_goesOnTest 84 [some (.inr (.inr 66))] [.inl 0] y1 _
    have nA : ¬ isWd L i 1476 := by have z := p1.2.1; rw [w_and] at z; exact z
    have RC := RC.tk p1.1 p1.2.2.1 (Nat.le_refl i)
    have WW := RC.2.1.2.2.2.2.1
    have XX := RC.2.1.1
    have MM := RC.2.2.1
    have BB := RC.2.2.2.1
    refine p_if_eq_t 126 rfl rfl (by decide) ?_
    refine p_aload 127 rfl rfl rfl ?_
    refine p_aload 128 rfl rfl rfl ?_
    refine p_getfr (j := 12) (z := 71) 131 rfl rfl rfl (tg_66 S1) rfl (fi_66_12 S1) ?_
    refine p_callv (le := [some (.inr (.inr 66)), some (.inr (.inr 71))]) (as := [.inr (.inr 66), .inr (.inr 71)]) (rest := []) 134 0 0 0 0 rfl rfl (Nat.le_of_ble_eq_true rfl) rfl (Nat.le_of_ble_eq_true rfl) rfl rfl (Nat.le_of_ble_eq_true rfl) rfl (Nat.le_of_ble_eq_true rfl) rfl (Nat.le_refl _) (Nat.le_refl _) rfl rfl (tg_66 S1) ?_
    refine m_takesW S1 71 WW (by decide) O XX LX MM BB (fun y2 p2 S2 => ?_) (fun y2 p2 S2 => ?_)
    · show Wp (d + 7) 0 0 M_X12_goesOnTest 134 [some (.inr (.inr 66))] [.inl 1] y2 _
      refine p_if_eq_f 137 rfl rfl (by decide) ?_
      -- leaf 2: loop 137 [some (.inr (.inr 66))] st=[] h=y2 
      exact K2 nA (by have z := p2.2.1; rw [w_or] at z; exact z) _ (RC.tk p2.1 p2.2.2 (Nat.le_succ i)) S2
    · show Wp (d + 7) 0 0 M_X12_goesOnTest 134 [some (.inr (.inr 66))] [.inl 0] y2 _
      have nO : ¬ isWd L i 498 := by have z := p2.2.1; rw [w_or] at z; exact z
      have RC := RC.tk p2.1 p2.2.2.1 (Nat.le_refl i)
      have BB := RC.2.2.2.1
      have c26 := RC.2.2.2.2.2.2.2.1.1
      refine p_if_eq_t 185 rfl rfl (by decide) ?_
      refine p_aload 186 rfl rfl rfl ?_
      refine p_getfi (j := 5) (z := gv y2 66 5) 189 rfl rfl rfl (tg_66 S2) rfl rfl ?_
      refine p_if_ne_f 192 rfl rfl (by omega) ?_
      refine p_aload 193 rfl rfl rfl ?_
      refine p_callv (le := [some (.inr (.inr 66)), none]) (as := [.inr (.inr 66)]) (rest := []) 196 0 0 0 0 rfl rfl (Nat.le_of_ble_eq_true rfl) rfl (Nat.le_of_ble_eq_true rfl) rfl rfl (Nat.le_of_ble_eq_true rfl) rfl (Nat.le_of_ble_eq_true rfl) rfl (Nat.le_refl _) (Nat.le_refl _) rfl rfl (tg_66 S2) ?_
      refine m_hasSqP S2 RC.2.2.2.2.2.2.1 (by omega) (fun r3 p3 => ?_)
      show Wp (d + 7) 0 0 M_X12_goesOnTest 196 [some (.inr (.inr 66))] [.inl r3] y2 _
      refine p_if_eq 199 208 rfl rfl rfl (fun c4 => ?_) (fun c4 => ?_)
      · skip
        refine p_const 209 rfl rfl ?_
        refine p_zret rfl rfl (by decide) ?_
        -- leaf 3: answer [.inl 0] h=y2 
        rcases p3 with ⟨_, z⟩ | ⟨z, _⟩
        · omega
        · exact K4 nA nO z _ RC S2
      · skip
        refine p_aload 200 rfl rfl rfl ?_
        refine p_const 201 rfl rfl ?_
        refine p_aload 202 rfl rfl rfl ?_
        refine p_getfi (j := 2) (z := gv y2 66 2) 205 rfl rfl rfl (tg_66 S2) rfl rfl ?_
        refine p_callv (le := [some (.inr (.inr 66)), some (.inl 1), some (.inl (gv y2 66 2))]) (as := [.inr (.inr 66), .inl 1, .inl (gv y2 66 2)]) (rest := []) 208 0 0 0 0 rfl rfl (Nat.le_of_ble_eq_true rfl) rfl (Nat.le_of_ble_eq_true rfl) rfl rfl (Nat.le_of_ble_eq_true rfl) rfl (Nat.le_of_ble_eq_true rfl) rfl (Nat.le_refl _) (Nat.le_refl _) rfl rfl (tg_66 S2) ?_
        refine p_aload 1 rfl rfl rfl ?_
        refine p_getfi (j := 5) (z := gv y2 66 5) 4 rfl rfl rfl (tg_66 S2) rfl rfl ?_
        refine p_if_eq_t 8 rfl rfl (by omega) ?_
        refine p_aload 9 rfl rfl rfl ?_
        refine p_iload 10 rfl rfl rfl ?_
        refine p_putfi (j := 5) 13 rfl rfl rfl (fun z => absurd z (by decide)) (tg_66 S2) rfl ?_
        refine p_nmh (fun y5 e5 => ?_)
        have S5 : Shape y5 := by rw [e5]; exact S2.svF ff_66_5 _
        refine p_aload 14 rfl rfl rfl ?_
        refine p_iload 15 rfl rfl rfl ?_
        refine p_putfi (j := 6) 18 rfl rfl rfl (fun z => absurd z (by decide)) (tg_66 S5) rfl ?_
        refine p_nmh (fun y6 e6 => ?_)
        have S6 : Shape y6 := by rw [e6]; exact S5.svF ff_66_6 _
        refine p_ret rfl rfl ?_
        show Wp (d + 7) 0 0 M_X12_goesOnTest 208 [some (.inr (.inr 66))] [] y6 _
        refine p_const 209 rfl rfl ?_
        refine p_zret rfl rfl (by decide) ?_
        -- leaf 4: answer [.inl 0] h=y6 e6,e5
        rcases p3 with ⟨z, _⟩ | ⟨_, z⟩
        · refine K3 nA nO z _ ⟨by rw [e6, e5]; exact (RC.1.sv rfl _).sv rfl _, by rw [e6, e5, sv_nf (by decide), sv_eq], by decide, by rw [e6, e5, sv_eq]; exact p2.2.2.2, ?_, ?_⟩ S6
          · rw [e6, e5, sv_nf (by decide), sv_nf (by decide), c26]; omega
          · rw [e6, e5, sv_nf (by decide), sv_nf (by decide), c26]; omega
        · omega
theorem m_gtAnd {d : Nat} {h0 h : PH} {q : PQ} (S : Shape h) {T : Int → Int} {n : Int} {L : List Tok} {j o : Nat} {b : Int} {U P C : List Int} (j7 : j ≤ 701) (R : RdM h0 h T n L j o b (U ++ P.reverse) C) (aP : ∀ x, x ∈ P → x = 14) (nU : ¬ ∃ V, U = V ++ [14]) (ll : U.length + P.length + C.length + 5 ≤ j)
    (K : ∀ h', RdM h0 h' T n L j o b (U ++ [14]) (C ++ P) → Shape h' → q (some (.inl 1)) h') : Wp (d + 7) 0 0 M_X12_goesOnTest 87 [some (.inr (.inr 66))] [] h q := by
  have J103 : ∀ (h1 : PH), RdM h0 h1 T n L j o b U (C ++ P) → Shape h1 → Wp (d + 7) 0 0 M_X12_goesOnTest 103 [some (.inr (.inr 66))] [] h1 q := by
    intro h1 R1 S1
    have w28 := R1.2.2.2.2.2.2.1.1
    refine p_aload 104 rfl rfl rfl ?_
    refine p_getfr (j := 27) (z := 85) 107 rfl rfl rfl (tg_66 S1) rfl (fi_66_27 S1) ?_
    refine p_aload 108 rfl rfl rfl ?_
    refine p_getfi (j := 28) (z := (U.length : Int)) 111 rfl rfl rfl (tg_66 S1) rfl w28 ?_
    refine p_const 113 rfl rfl ?_
    refine p_iast (w := 800) 114 rfl rfl (by decide) (tg_85 S1) (ln_85 S1) (by omega) (by omega) ?_
    refine p_nmh (fun y1 e1 => ?_)
    have S1 : Shape y1 := by rw [e1]; exact S1.svA fa_85 _ _
    refine p_aload 115 rfl rfl rfl ?_
    refine p_dup 116 rfl rfl nl_r ?_
    refine p_getfi (j := 28) (z := (U.length : Int)) 119 rfl rfl rfl (tg_66 S1) rfl (by rw [e1, sv_ne (by decide)]; exact w28) ?_
    refine p_const 120 rfl rfl ?_
    refine p_iadd (z := (U.length : Int) + 1) 121 rfl rfl (w32_id ⟨(by omega), (by omega)⟩) ?_
    refine p_putfi (j := 28) 124 rfl rfl rfl (fun z => absurd z (by decide)) (tg_66 S1) rfl ?_
    refine p_nmh (fun y2 e2 => ?_)
    have S2 : Shape y2 := by rw [e2]; exact S1.svF ff_66_28 _
    refine p_const 125 rfl rfl ?_
    refine p_zret rfl rfl (by decide) ?_
    -- leaf 1: answer [.inl 1] h=y2 e2,e1
    exact K _ (R1.push (by rw [List.length_append]; omega) (by rw [e2, e1])) S2
  have J87 : ∀ (Q D : List Int) (h1 : PH), (∀ x, x ∈ Q → x = 14) → D ++ Q = C ++ P → RdM h0 h1 T n L j o b (U ++ Q.reverse) D → Shape h1 → Wp (d + 7) 0 0 M_X12_goesOnTest 87 [some (.inr (.inr 66))] [] h1 q := by
    intro Q
    induction Q with
    | nil =>
      intro D h1 aQ eD R1 S1
      rw [List.reverse_nil, List.append_nil] at R1
      rw [List.append_nil] at eD
      have r10 := R1.2.2.2.2.2.2.2.2.1
      refine p_aload 88 rfl rfl rfl ?_
      refine p_const 90 rfl rfl ?_
      refine p_callv (le := [some (.inr (.inr 66)), some (.inl 14)]) (as := [.inr (.inr 66), .inl 14]) (rest := []) 93 0 0 0 0 rfl rfl (Nat.le_of_ble_eq_true rfl) rfl (Nat.le_of_ble_eq_true rfl) rfl rfl (Nat.le_of_ble_eq_true rfl) rfl (Nat.le_of_ble_eq_true rfl) rfl (Nat.le_refl _) (Nat.le_refl _) rfl rfl (tg_66 S1) ?_
      refine m_isOn0 S1 14 R1.2.2.2.2.2.2.1 (by omega) nU ?_
      show Wp (d + 7) 0 0 M_X12_goesOnTest 93 [some (.inr (.inr 66))] [.inl 0] h1 _
      refine p_if_eq_t 103 rfl rfl (by decide) ?_
      -- leaf 1: loop 103 [some (.inr (.inr 66))] st=[] h=h1 
      exact J103 h1 (by rw [← eD]; exact R1) S1
    | cons x Q ih =>
      intro D h1 aQ eD R1 S1
      rw [List.reverse_cons, ← List.append_assoc] at R1
      have x14 := aQ x List.mem_cons_self
      subst x14
      have r10 := R1.2.2.2.2.2.2.2.2.1
      rw [List.length_append] at r10
      have r10 : (U ++ Q.reverse).length + 1 + D.length + 4 ≤ j := r10
      refine p_aload 88 rfl rfl rfl ?_
      refine p_const 90 rfl rfl ?_
      refine p_callv (le := [some (.inr (.inr 66)), some (.inl 14)]) (as := [.inr (.inr 66), .inl 14]) (rest := []) 93 0 0 0 0 rfl rfl (Nat.le_of_ble_eq_true rfl) rfl (Nat.le_of_ble_eq_true rfl) rfl rfl (Nat.le_of_ble_eq_true rfl) rfl (Nat.le_of_ble_eq_true rfl) rfl (Nat.le_refl _) (Nat.le_refl _) rfl rfl (tg_66 S1) ?_
      refine m_isOn1 S1 14 R1.2.2.2.2.2.2.1 (by omega) ?_
      show Wp (d + 7) 0 0 M_X12_goesOnTest 93 [some (.inr (.inr 66))] [.inl 1] h1 _
      refine p_if_eq_f 96 rfl rfl (by decide) ?_
      refine p_aload 97 rfl rfl rfl ?_
      refine p_callv (le := [some (.inr (.inr 66))]) (as := [.inr (.inr 66)]) (rest := []) 100 0 0 0 0 rfl rfl (Nat.le_of_ble_eq_true rfl) rfl (Nat.le_of_ble_eq_true rfl) rfl rfl (Nat.le_of_ble_eq_true rfl) rfl (Nat.le_of_ble_eq_true rfl) rfl (Nat.le_refl _) (Nat.le_refl _) rfl rfl (tg_66 S1) ?_
      refine m_drops S1 R1.2.2.2.2.2.2.1 R1.2.2.2.2.2.2.2.1 (by omega) (by omega) (fun y2 p2 S2 => ?_)
      show Wp (d + 7) 0 0 M_X12_goesOnTest 100 [some (.inr (.inr 66))] [] y2 _
      refine p_goto 87 rfl rfl ?_
      -- leaf 1: loop 87 [some (.inr (.inr 66))] st=[] h=y2 
      exact ih (D ++ [14]) _ (fun y hy => aQ y (List.mem_cons_of_mem _ hy)) (by rw [List.append_assoc]; exact eD) (R1.drop p2.1 p2.2.1 p2.2.2) S2
  exact J87 P C h aP rfl R S
theorem m_gtOr {d : Nat} {h0 h : PH} {q : PQ} (S : Shape h) {T : Int → Int} {n : Int} {L : List Tok} {j o : Nat} {b : Int} {U P C : List Int} (j7 : j ≤ 701) (R : RdM h0 h T n L j o b (U ++ P.reverse) C) (aP : ∀ x, x ∈ P → x = 14 ∨ x = 15) (nU : ∀ x, x = 14 ∨ x = 15 → ¬ ∃ V, U = V ++ [x]) (ll : U.length + P.length + C.length + 5 ≤ j)
    (K : ∀ h', RdM h0 h' T n L j o b (U ++ [15]) (C ++ P) → Shape h' → q (some (.inl 1)) h') : Wp (d + 7) 0 0 M_X12_goesOnTest 137 [some (.inr (.inr 66))] [] h q := by
  have J162 : ∀ (h1 : PH), RdM h0 h1 T n L j o b U (C ++ P) → Shape h1 → Wp (d + 7) 0 0 M_X12_goesOnTest 162 [some (.inr (.inr 66))] [] h1 q := by
    intro h1 R1 S1
    have w28 := R1.2.2.2.2.2.2.1.1
    refine p_aload 163 rfl rfl rfl ?_
    refine p_getfr (j := 27) (z := 85) 166 rfl rfl rfl (tg_66 S1) rfl (fi_66_27 S1) ?_
    refine p_aload 167 rfl rfl rfl ?_
    refine p_getfi (j := 28) (z := (U.length : Int)) 170 rfl rfl rfl (tg_66 S1) rfl w28 ?_
    refine p_const 172 rfl rfl ?_
    refine p_iast (w := 800) 173 rfl rfl (by decide) (tg_85 S1) (ln_85 S1) (by omega) (by omega) ?_
    refine p_nmh (fun y1 e1 => ?_)
    have S1 : Shape y1 := by rw [e1]; exact S1.svA fa_85 _ _
    refine p_aload 174 rfl rfl rfl ?_
    refine p_dup 175 rfl rfl nl_r ?_
    refine p_getfi (j := 28) (z := (U.length : Int)) 178 rfl rfl rfl (tg_66 S1) rfl (by rw [e1, sv_ne (by decide)]; exact w28) ?_
    refine p_const 179 rfl rfl ?_
    refine p_iadd (z := (U.length : Int) + 1) 180 rfl rfl (w32_id ⟨(by omega), (by omega)⟩) ?_
    refine p_putfi (j := 28) 183 rfl rfl rfl (fun z => absurd z (by decide)) (tg_66 S1) rfl ?_
    refine p_nmh (fun y2 e2 => ?_)
    have S2 : Shape y2 := by rw [e2]; exact S1.svF ff_66_28 _
    refine p_const 184 rfl rfl ?_
    refine p_zret rfl rfl (by decide) ?_
    -- leaf 1: answer [.inl 1] h=y2 e2,e1
    exact K _ (R1.push (by rw [List.length_append]; omega) (by rw [e2, e1])) S2
  have J137 : ∀ (Q D : List Int) (h1 : PH), (∀ x, x ∈ Q → x = 14 ∨ x = 15) → D ++ Q = C ++ P → RdM h0 h1 T n L j o b (U ++ Q.reverse) D → Shape h1 → Wp (d + 7) 0 0 M_X12_goesOnTest 137 [some (.inr (.inr 66))] [] h1 q := by
    intro Q
    induction Q with
    | nil =>
      intro D h1 aQ eD R1 S1
      rw [List.reverse_nil, List.append_nil] at R1
      rw [List.append_nil] at eD
      have r10 := R1.2.2.2.2.2.2.2.2.1
      refine p_aload 138 rfl rfl rfl ?_
      refine p_const 140 rfl rfl ?_
      refine p_callv (le := [some (.inr (.inr 66)), some (.inl 14)]) (as := [.inr (.inr 66), .inl 14]) (rest := []) 143 0 0 0 0 rfl rfl (Nat.le_of_ble_eq_true rfl) rfl (Nat.le_of_ble_eq_true rfl) rfl rfl (Nat.le_of_ble_eq_true rfl) rfl (Nat.le_of_ble_eq_true rfl) rfl (Nat.le_refl _) (Nat.le_refl _) rfl rfl (tg_66 S1) ?_
      refine m_isOn0 S1 14 R1.2.2.2.2.2.2.1 (by omega) (nU 14 (by decide)) ?_
      show Wp (d + 7) 0 0 M_X12_goesOnTest 143 [some (.inr (.inr 66))] [.inl 0] h1 _
      refine p_if_ne_f 146 rfl rfl (by decide) ?_
      refine p_aload 147 rfl rfl rfl ?_
      refine p_const 149 rfl rfl ?_
      refine p_callv (le := [some (.inr (.inr 66)), some (.inl 15)]) (as := [.inr (.inr 66), .inl 15]) (rest := []) 152 0 0 0 0 rfl rfl (Nat.le_of_ble_eq_true rfl) rfl (Nat.le_of_ble_eq_true rfl) rfl rfl (Nat.le_of_ble_eq_true rfl) rfl (Nat.le_of_ble_eq_true rfl) rfl (Nat.le_refl _) (Nat.le_refl _) rfl rfl (tg_66 S1) ?_
      refine m_isOn0 S1 15 R1.2.2.2.2.2.2.1 (by omega) (nU 15 (by decide)) ?_
      show Wp (d + 7) 0 0 M_X12_goesOnTest 152 [some (.inr (.inr 66))] [.inl 0] h1 _
      refine p_if_eq_t 162 rfl rfl (by decide) ?_
      -- leaf 1: loop 162 [some (.inr (.inr 66))] st=[] h=h1 
      exact J162 h1 (by rw [← eD]; exact R1) S1
    | cons x Q ih =>
      intro D h1 aQ eD R1 S1
      rw [List.reverse_cons, ← List.append_assoc] at R1
      have x14 := aQ x List.mem_cons_self
      have r10 := R1.2.2.2.2.2.2.2.2.1
      have wl : (U ++ Q.reverse ++ [x]).length = (U ++ Q.reverse).length + 1 := by rw [List.length_append]; rfl
      rw [wl] at r10
      refine p_aload 138 rfl rfl rfl ?_
      refine p_const 140 rfl rfl ?_
      refine p_callv (le := [some (.inr (.inr 66)), some (.inl 14)]) (as := [.inr (.inr 66), .inl 14]) (rest := []) 143 0 0 0 0 rfl rfl (Nat.le_of_ble_eq_true rfl) rfl (Nat.le_of_ble_eq_true rfl) rfl rfl (Nat.le_of_ble_eq_true rfl) rfl (Nat.le_of_ble_eq_true rfl) rfl (Nat.le_refl _) (Nat.le_refl _) rfl rfl (tg_66 S1) ?_
      refine m_isOnE S1 14 R1.2.2.2.2.2.2.1 (by rw [wl]; omega) (fun c1 => ?_) (fun c1 => ?_)
      · show Wp (d + 7) 0 0 M_X12_goesOnTest 143 [some (.inr (.inr 66))] [.inl 1] h1 _
        refine p_if_ne_t 155 rfl rfl (by decide) ?_
        refine p_aload 156 rfl rfl rfl ?_
        refine p_callv (le := [some (.inr (.inr 66))]) (as := [.inr (.inr 66)]) (rest := []) 159 0 0 0 0 rfl rfl (Nat.le_of_ble_eq_true rfl) rfl (Nat.le_of_ble_eq_true rfl) rfl rfl (Nat.le_of_ble_eq_true rfl) rfl (Nat.le_of_ble_eq_true rfl) rfl (Nat.le_refl _) (Nat.le_refl _) rfl rfl (tg_66 S1) ?_
        refine m_drops S1 R1.2.2.2.2.2.2.1 R1.2.2.2.2.2.2.2.1 (by omega) (by omega) (fun y2 p2 S2 => ?_)
        show Wp (d + 7) 0 0 M_X12_goesOnTest 159 [some (.inr (.inr 66))] [] y2 _
        refine p_goto 137 rfl rfl ?_
        -- leaf 1: loop 137 [some (.inr (.inr 66))] st=[] h=y2 
        exact ih (D ++ [x]) _ (fun y hy => aQ y (List.mem_cons_of_mem _ hy)) (by rw [List.append_assoc]; exact eD) (R1.drop p2.1 p2.2.1 p2.2.2) S2
      · show Wp (d + 7) 0 0 M_X12_goesOnTest 143 [some (.inr (.inr 66))] [.inl 0] h1 _
        refine p_if_ne_f 146 rfl rfl (by decide) ?_
        refine p_aload 147 rfl rfl rfl ?_
        refine p_const 149 rfl rfl ?_
        refine p_callv (le := [some (.inr (.inr 66)), some (.inl 15)]) (as := [.inr (.inr 66), .inl 15]) (rest := []) 152 0 0 0 0 rfl rfl (Nat.le_of_ble_eq_true rfl) rfl (Nat.le_of_ble_eq_true rfl) rfl rfl (Nat.le_of_ble_eq_true rfl) rfl (Nat.le_of_ble_eq_true rfl) rfl (Nat.le_refl _) (Nat.le_refl _) rfl rfl (tg_66 S1) ?_
        refine m_isOnE S1 15 R1.2.2.2.2.2.2.1 (by rw [wl]; omega) (fun c3 => ?_) (fun c3 => ?_)
        · show Wp (d + 7) 0 0 M_X12_goesOnTest 152 [some (.inr (.inr 66))] [.inl 1] h1 _
          refine p_if_eq_f 155 rfl rfl (by decide) ?_
          refine p_aload 156 rfl rfl rfl ?_
          refine p_callv (le := [some (.inr (.inr 66))]) (as := [.inr (.inr 66)]) (rest := []) 159 0 0 0 0 rfl rfl (Nat.le_of_ble_eq_true rfl) rfl (Nat.le_of_ble_eq_true rfl) rfl rfl (Nat.le_of_ble_eq_true rfl) rfl (Nat.le_of_ble_eq_true rfl) rfl (Nat.le_refl _) (Nat.le_refl _) rfl rfl (tg_66 S1) ?_
          refine m_drops S1 R1.2.2.2.2.2.2.1 R1.2.2.2.2.2.2.2.1 (by omega) (by omega) (fun y4 p4 S4 => ?_)
          show Wp (d + 7) 0 0 M_X12_goesOnTest 159 [some (.inr (.inr 66))] [] y4 _
          refine p_goto 137 rfl rfl ?_
          -- leaf 2: loop 137 [some (.inr (.inr 66))] st=[] h=y4 
          exact ih (D ++ [x]) _ (fun y hy => aQ y (List.mem_cons_of_mem _ hy)) (by rw [List.append_assoc]; exact eD) (R1.drop p4.1 p4.2.1 p4.2.2) S4
        · show Wp (d + 7) 0 0 M_X12_goesOnTest 152 [some (.inr (.inr 66))] [.inl 0] h1 _
          refine p_if_eq_t 162 rfl rfl (by decide) ?_
          -- leaf 3: loop 162 [some (.inr (.inr 66))] st=[] h=h1 
          rcases x14 with e | e
          · subst e; exact absurd ⟨_, rfl⟩ c1
          · subst e; exact absurd ⟨_, rfl⟩ c3
  exact J137 P C h aP rfl R S

