/-! THE MODEL'S READER: what it asks for -/
theorem tkA_nmA : ∀ a i, nmA a i = false → tkA a i = false := fun a i => dw (by omega)
theorem m_asksB {d : Nat} {h : PH} {q : PQ} (S : Shape h) (a : Int) (b : gv h 66 5 ≠ 0) (K : q none h) : Wp (d + 4) 0 0 M_X12_asks 0 [some (.inr (.inr 66)), some (.inr (.inr a))] [] h q := by
  refine p_aload 1 rfl rfl rfl ?_
  refine p_getfi (j := 5) (z := gv h 66 5) 4 rfl rfl rfl (tg_66 S) rfl rfl ?_
  refine p_if_ne_t 24 rfl rfl (by omega) ?_
  refine p_ret rfl rfl ?_
  -- leaf 1: answer [] h=h 
  exact K
theorem m_asksW {d : Nat} {h : PH} {q : PQ} (S : Shape h) (a : Int) {T : Int → Int} {n : Int} {L : List Tok} {i : Nat} {l : Nat} {f : Nat → Int} (W : WdA h a l f) (a66 : a ≠ 66) (O : TxO T n) (X : TxM h T n) (LX : LexA T n L) (M : MAt h T n L i) (b0 : gv h 66 5 = 0)
    (K1 : ∀ h', (Keep tkA h h' ∧ isWd L i (wf f l) ∧ MAt h' T n L (i + 1)) → Shape h' → q none h') (K2 : ∀ h', (Keep nmA h h' ∧ ¬ isWd L i (wf f l) ∧ gv h' 66 5 = 1 ∧ gv h' 66 6 = (tk L i).2.1) → Shape h' → q none h') :
    Wp (d + 4) 0 0 M_X12_asks 0 [some (.inr (.inr 66)), some (.inr (.inr a))] [] h q := by
  refine p_aload 1 rfl rfl rfl ?_
  refine p_getfi (j := 5) (z := gv h 66 5) 4 rfl rfl rfl (tg_66 S) rfl rfl ?_
  refine p_if_ne_f 7 rfl rfl (by omega) ?_
  refine p_aload 8 rfl rfl rfl ?_
  refine p_aload 9 rfl rfl rfl ?_
  refine p_callv (le := [some (.inr (.inr 66)), some (.inr (.inr a))]) (as := [.inr (.inr 66), .inr (.inr a)]) (rest := []) 12 0 0 0 0 rfl rfl (Nat.le_of_ble_eq_true rfl) rfl (Nat.le_of_ble_eq_true rfl) rfl rfl (Nat.le_of_ble_eq_true rfl) rfl (Nat.le_of_ble_eq_true rfl) rfl (Nat.le_refl _) (Nat.le_refl _) rfl rfl (tg_66 S) ?_
  refine m_takesW S a W a66 O X LX M b0 (fun y1 p1 S1 => ?_) (fun y1 p1 S1 => ?_)
  · show Wp (d + 4) 0 0 M_X12_asks 12 [some (.inr (.inr 66)), some (.inr (.inr a))] [.inl 1] y1 _
    refine p_if_ne_t 24 rfl rfl (by decide) ?_
    refine p_ret rfl rfl ?_
    -- leaf 1: answer [] h=y1 
    exact K1 _ p1 S1
  · show Wp (d + 4) 0 0 M_X12_asks 12 [some (.inr (.inr 66)), some (.inr (.inr a))] [.inl 0] y1 _
    refine p_if_ne_f 15 rfl rfl (by decide) ?_
    refine p_aload 16 rfl rfl rfl ?_
    refine p_const 17 rfl rfl ?_
    refine p_aload 18 rfl rfl rfl ?_
    refine p_getfi (j := 2) (z := gv y1 66 2) 21 rfl rfl rfl (tg_66 S1) rfl rfl ?_
    refine p_callv (le := [some (.inr (.inr 66)), some (.inl 1), some (.inl (gv y1 66 2))]) (as := [.inr (.inr 66), .inl 1, .inl (gv y1 66 2)]) (rest := []) 24 0 0 0 0 rfl rfl (Nat.le_of_ble_eq_true rfl) rfl (Nat.le_of_ble_eq_true rfl) rfl rfl (Nat.le_of_ble_eq_true rfl) rfl (Nat.le_of_ble_eq_true rfl) rfl (Nat.le_refl _) (Nat.le_refl _) rfl rfl (tg_66 S1) ?_
    refine p_aload 1 rfl rfl rfl ?_
    refine p_getfi (j := 5) (z := gv y1 66 5) 4 rfl rfl rfl (tg_66 S1) rfl rfl ?_
    refine p_if_eq_t 8 rfl rfl (by exact (p1.1.1 66 5 rfl).trans b0) ?_
    refine p_aload 9 rfl rfl rfl ?_
    refine p_iload 10 rfl rfl rfl ?_
    refine p_putfi (j := 5) 13 rfl rfl rfl (fun z => absurd z (by decide)) (tg_66 S1) rfl ?_
    refine p_nmh (fun y2 e2 => ?_)
    have S2 : Shape y2 := by rw [e2]; exact S1.svF ff_66_5 _
    refine p_aload 14 rfl rfl rfl ?_
    refine p_iload 15 rfl rfl rfl ?_
    refine p_putfi (j := 6) 18 rfl rfl rfl (fun z => absurd z (by decide)) (tg_66 S2) rfl ?_
    refine p_nmh (fun y3 e3 => ?_)
    have S3 : Shape y3 := by rw [e3]; exact S2.svF ff_66_6 _
    refine p_ret rfl rfl ?_
    show Wp (d + 4) 0 0 M_X12_asks 24 [some (.inr (.inr 66)), some (.inr (.inr a))] [] y3 _
    refine p_ret rfl rfl ?_
    -- leaf 2: answer [] h=y3 e3,e2
    refine K2 _ ⟨by rw [e3, e2]; exact ((p1.1.wide tkA_nmA).sv rfl _).sv rfl _, p1.2.1, by rw [e3, e2, sv_nf (by decide), sv_eq], by rw [e3, e2, sv_eq]; exact p1.2.2.2⟩ S3
theorem m_asksSignB {d : Nat} {h : PH} {q : PQ} (S : Shape h) (c : Int) (b : gv h 66 5 ≠ 0) (K : q none h) : Wp (d + 3) 0 0 M_X12_asksSign 0 [some (.inr (.inr 66)), some (.inl c)] [] h q := by
  refine p_aload 1 rfl rfl rfl ?_
  refine p_getfi (j := 5) (z := gv h 66 5) 4 rfl rfl rfl (tg_66 S) rfl rfl ?_
  refine p_if_ne_t 24 rfl rfl (by omega) ?_
  refine p_ret rfl rfl ?_
  -- leaf 1: answer [] h=h 
  exact K
theorem m_asksSign {d : Nat} {h : PH} {q : PQ} (S : Shape h) (c : Int) {T : Int → Int} {n : Int} {L : List Tok} {i : Nat} (pc : plainS c) (O : TxO T n) (X : TxM h T n) (LX : LexA T n L) (M : MAt h T n L i) (b0 : gv h 66 5 = 0)
    (K1 : ∀ h', (Keep lukA h h' ∧ isSg L i c ∧ MAt h' T n L (i + 1)) → Shape h' → q none h') (K2 : ∀ h', (Keep nmA h h' ∧ ¬ isSg L i c ∧ gv h' 66 5 = 1 ∧ gv h' 66 6 = (tk L i).2.1) → Shape h' → q none h') :
    Wp (d + 3) 0 0 M_X12_asksSign 0 [some (.inr (.inr 66)), some (.inl c)] [] h q := by
  refine p_aload 1 rfl rfl rfl ?_
  refine p_getfi (j := 5) (z := gv h 66 5) 4 rfl rfl rfl (tg_66 S) rfl rfl ?_
  refine p_if_ne_f 7 rfl rfl (by omega) ?_
  refine p_aload 8 rfl rfl rfl ?_
  refine p_iload 9 rfl rfl rfl ?_
  refine p_callv (le := [some (.inr (.inr 66)), some (.inl c)]) (as := [.inr (.inr 66), .inl c]) (rest := []) 12 0 0 0 0 rfl rfl (Nat.le_of_ble_eq_true rfl) rfl (Nat.le_of_ble_eq_true rfl) rfl rfl (Nat.le_of_ble_eq_true rfl) rfl (Nat.le_of_ble_eq_true rfl) rfl (Nat.le_refl _) (Nat.le_refl _) rfl rfl (tg_66 S) ?_
  refine m_takesSign S c pc O X LX M b0 (fun y1 p1 S1 => ?_) (fun y1 p1 S1 => ?_)
  · show Wp (d + 3) 0 0 M_X12_asksSign 12 [some (.inr (.inr 66)), some (.inl c)] [.inl 1] y1 _
    refine p_if_ne_t 24 rfl rfl (by decide) ?_
    refine p_ret rfl rfl ?_
    -- leaf 1: answer [] h=y1 
    exact K1 _ p1 S1
  · show Wp (d + 3) 0 0 M_X12_asksSign 12 [some (.inr (.inr 66)), some (.inl c)] [.inl 0] y1 _
    refine p_if_ne_f 15 rfl rfl (by decide) ?_
    refine p_aload 16 rfl rfl rfl ?_
    refine p_const 17 rfl rfl ?_
    refine p_aload 18 rfl rfl rfl ?_
    refine p_getfi (j := 2) (z := gv y1 66 2) 21 rfl rfl rfl (tg_66 S1) rfl rfl ?_
    refine p_callv (le := [some (.inr (.inr 66)), some (.inl 1), some (.inl (gv y1 66 2))]) (as := [.inr (.inr 66), .inl 1, .inl (gv y1 66 2)]) (rest := []) 24 0 0 0 0 rfl rfl (Nat.le_of_ble_eq_true rfl) rfl (Nat.le_of_ble_eq_true rfl) rfl rfl (Nat.le_of_ble_eq_true rfl) rfl (Nat.le_of_ble_eq_true rfl) rfl (Nat.le_refl _) (Nat.le_refl _) rfl rfl (tg_66 S1) ?_
    refine p_aload 1 rfl rfl rfl ?_
    refine p_getfi (j := 5) (z := gv y1 66 5) 4 rfl rfl rfl (tg_66 S1) rfl rfl ?_
    refine p_if_eq_t 8 rfl rfl (by exact (p1.1.1 66 5 rfl).trans b0) ?_
    refine p_aload 9 rfl rfl rfl ?_
    refine p_iload 10 rfl rfl rfl ?_
    refine p_putfi (j := 5) 13 rfl rfl rfl (fun z => absurd z (by decide)) (tg_66 S1) rfl ?_
    refine p_nmh (fun y2 e2 => ?_)
    have S2 : Shape y2 := by rw [e2]; exact S1.svF ff_66_5 _
    refine p_aload 14 rfl rfl rfl ?_
    refine p_iload 15 rfl rfl rfl ?_
    refine p_putfi (j := 6) 18 rfl rfl rfl (fun z => absurd z (by decide)) (tg_66 S2) rfl ?_
    refine p_nmh (fun y3 e3 => ?_)
    have S3 : Shape y3 := by rw [e3]; exact S2.svF ff_66_6 _
    refine p_ret rfl rfl ?_
    show Wp (d + 3) 0 0 M_X12_asksSign 24 [some (.inr (.inr 66)), some (.inl c)] [] y3 _
    refine p_ret rfl rfl ?_
    -- leaf 2: answer [] h=y3 e3,e2
    refine K2 _ ⟨by rw [e3, e2]; exact ((p1.1.wide lukA_nmA).sv rfl _).sv rfl _, p1.2.1, by rw [e3, e2, sv_nf (by decide), sv_eq], by rw [e3, e2, sv_eq]; exact p1.2.2.2⟩ S3

