/-! THE MODEL'S READER: what waits, what is coded -/
def StkM (h : PH) (W : List Int) : Prop := gv h 66 28 = W.length ∧ ∀ (j : Nat) x, W[j]? = some x → gv h 85 j = x
def CodM (h : PH) (C : List Int) : Prop := gv h 66 26 = C.length ∧ ∀ (j : Nat) x, C[j]? = some x → gv h 84 j = x
def cdA (a i : Int) : Bool := decide ((a = 66 ∧ i = 26) ∨ (a = 84 ∧ i < 700))
def drA (a i : Int) : Bool := decide ((a = 66 ∧ (i = 26 ∨ i = 28)) ∨ (a = 84 ∧ i < 700))
theorem cdA_drA : ∀ a i, drA a i = false → cdA a i = false := fun a i => dw (by omega)
def opA (a i : Int) : Bool := decide ((a = 66 ∧ (i = 5 ∨ i = 6 ∨ i = 28 ∨ i = 29)) ∨ a = 85)
theorem StkM.of {h h' : PH} {W : List Int} (X : StkM h W) (e1 : gv h' 66 28 = gv h 66 28) (e2 : ∀ i, gv h' 85 i = gv h 85 i) : StkM h' W := ⟨e1.trans X.1, fun j x hj => (e2 j).trans (X.2 j x hj)⟩
theorem CodM.of {h h' : PH} {C : List Int} (X : CodM h C) (e1 : gv h' 66 26 = gv h 66 26) (e2 : ∀ i, gv h' 84 i = gv h 84 i) : CodM h' C := ⟨e1.trans X.1, fun j x hj => (e2 j).trans (X.2 j x hj)⟩
theorem StkM.top {h : PH} {W : List Int} {x : Int} (X : StkM h (W ++ [x])) : gv h 66 28 = W.length + 1 ∧ gv h 85 W.length = x := by
  refine ⟨by rw [X.1, List.length_append]; rfl, X.2 W.length x ?_⟩
  rw [List.getElem?_append_right (Nat.le_refl _), Nat.sub_self]; rfl
theorem StkM.pop {h h' : PH} {W : List Int} {x : Int} (X : StkM h (W ++ [x])) (e1 : gv h' 66 28 = W.length) (e2 : ∀ i, gv h' 85 i = gv h 85 i) : StkM h' W := ⟨e1, fun j y hj => by
  have lt := get_lt hj
  rw [e2]
  exact X.2 j y (by rw [List.getElem?_append_left lt]; exact hj)⟩
theorem m_code {d : Nat} {h : PH} {q : PQ} (S : Shape h) (v : Int) {C : List Int} (X : CodM h C) (l : C.length < 700) (K : ∀ h', (Keep cdA h h' ∧ CodM h' (C ++ [v])) → Shape h' → q none h') : Wp (d + 1) 0 0 M_X12_code 0 [some (.inr (.inr 66)), some (.inl v)] [] h q := by
  have x1 := X.1
  refine p_aload 1 rfl rfl rfl ?_
  refine p_getfr (j := 25) (z := 84) 4 rfl rfl rfl (tg_66 S) rfl (fi_66_25 S) ?_
  refine p_const 5 rfl rfl ?_
  refine p_aload 6 rfl rfl rfl ?_
  refine p_getfi (j := 26) (z := (C.length : Int)) 9 rfl rfl rfl (tg_66 S) rfl x1 ?_
  refine p_iadd (z := 0 + (C.length : Int)) 10 rfl rfl (w32_id ⟨(by omega), (by omega)⟩) ?_
  refine p_iload 11 rfl rfl rfl ?_
  refine p_iast (w := 140700) 12 rfl rfl (by decide) (tg_84 S) (ln_84 S) (by omega) (by omega) ?_
  refine p_nmh (fun y1 e1 => ?_)
  have S1 : Shape y1 := by rw [e1]; exact S.svA fa_84 _ _
  refine p_aload 13 rfl rfl rfl ?_
  refine p_dup 14 rfl rfl nl_r ?_
  refine p_getfi (j := 26) (z := (C.length : Int)) 17 rfl rfl rfl (tg_66 S1) rfl (by rw [e1, sv_ne (by decide)]; exact x1) ?_
  refine p_const 18 rfl rfl ?_
  refine p_iadd (z := (C.length : Int) + 1) 19 rfl rfl (w32_id ⟨(by omega), (by omega)⟩) ?_
  refine p_putfi (j := 26) 22 rfl rfl rfl (fun z => absurd z (by decide)) (tg_66 S1) rfl ?_
  refine p_nmh (fun y2 e2 => ?_)
  have S2 : Shape y2 := by rw [e2]; exact S1.svF ff_66_26 _
  refine p_ret rfl rfl ?_
  -- leaf 1: answer [] h=y2 e2,e1
  refine K _ ⟨by rw [e2, e1]; exact ((Keep.rf _ _).sv (decide_eq_true (by omega)) _).sv rfl _, by rw [e2, sv_eq, List.length_append]; rfl, fun j y hj => ?_⟩ S2
  rw [e2, sv_ne (by decide), e1]
  rcases snoc_get hj with ⟨j1, j2⟩ | ⟨j1, j2⟩
  · rw [sv_nf (by omega)]; exact X.2 j y j2
  · rw [j2, j1]
    first | exact sv_eq _ _ _ _ | (rw [Int.zero_add]; exact sv_eq _ _ _ _)
theorem m_drops {d : Nat} {h : PH} {q : PQ} (S : Shape h) {W C : List Int} {x : Int} (Y : StkM h (W ++ [x])) (X : CodM h C) (l : C.length < 700) (lw : W.length ≤ 799) (K : ∀ h', (Keep drA h h' ∧ StkM h' W ∧ CodM h' (C ++ [x])) → Shape h' → q none h') : Wp (d + 2) 0 0 M_X12_drops 0 [some (.inr (.inr 66))] [] h q := by
  obtain ⟨y1, y2⟩ := Y.top
  have e85 : gv h 85 W.length = x := y2
  refine p_aload 1 rfl rfl rfl ?_
  refine p_dup 2 rfl rfl nl_r ?_
  refine p_getfi (j := 28) (z := (W.length : Int) + 1) 5 rfl rfl rfl (tg_66 S) rfl y1 ?_
  refine p_const 6 rfl rfl ?_
  refine p_isub (z := ((W.length : Int) + 1) - 1) 7 rfl rfl (w32_id ⟨(by omega), (by omega)⟩) ?_
  refine p_putfi (j := 28) 10 rfl rfl rfl (fun z => absurd z (by decide)) (tg_66 S) rfl ?_
  refine p_nmh (fun y1 e1 => ?_)
  have S1 : Shape y1 := by rw [e1]; exact S.svF ff_66_28 _
  refine p_aload 11 rfl rfl rfl ?_
  refine p_aload 12 rfl rfl rfl ?_
  refine p_getfr (j := 27) (z := 85) 15 rfl rfl rfl (tg_66 S1) rfl (fi_66_27 S1) ?_
  refine p_aload 16 rfl rfl rfl ?_
  refine p_getfi (j := 28) (z := ((W.length : Int) + 1) - 1) 19 rfl rfl rfl (tg_66 S1) rfl (by rw [e1]; exact sv_eq _ _ _ _) ?_
  refine p_iald (w := 800) (z := gv h 85 (((W.length : Int) + 1) - 1)) 20 rfl rfl (tg_85 S1) (ln_85 S1) (by omega) (by omega) (by rw [e1, sv_ne (by decide)]) ?_
  have CA : CodM y1 C := X.of (by rw [e1, sv_nf (by decide)]) (fun i => by rw [e1, sv_ne (by decide)])
  have ev : gv h 85 (((W.length : Int) + 1) - 1) = x := by rw [show (((W.length : Int) + 1) - 1) = W.length by omega]; exact e85
  refine p_callv (le := [some (.inr (.inr 66)), some (.inl (gv h 85 (((W.length : Int) + 1) - 1)))]) (as := [.inr (.inr 66), .inl (gv h 85 (((W.length : Int) + 1) - 1))]) (rest := []) 23 0 0 0 0 rfl rfl (Nat.le_of_ble_eq_true rfl) rfl (Nat.le_of_ble_eq_true rfl) rfl rfl (Nat.le_of_ble_eq_true rfl) rfl (Nat.le_of_ble_eq_true rfl) rfl (Nat.le_refl _) (Nat.le_refl _) rfl rfl (tg_66 S1) ?_
  refine m_code S1 (gv h 85 (((W.length : Int) + 1) - 1)) CA l (fun y2 p2 S2 => ?_)
  show Wp (d + 2) 0 0 M_X12_drops 23 [some (.inr (.inr 66))] [] y2 _
  refine p_ret rfl rfl ?_
  -- leaf 1: answer [] h=y2 
  obtain ⟨k2, C2⟩ := p2
  rw [ev] at C2
  have k1 : Keep drA h y1 := by rw [e1]; exact (Keep.rf _ _).sv rfl _
  refine K _ ⟨k1.trans (k2.wide cdA_drA), Y.pop ?_ (fun i => ?_), C2⟩ S2
  · rw [k2.1 66 28 rfl, e1, sv_eq]; omega
  · rw [k2.1 85 i rfl, e1, sv_ne (by decide)]
theorem m_isOn {d : Nat} {h : PH} {q : PQ} (S : Shape h) (v : Int) {W : List Int} (Y : StkM h W) (lw : W.length ≤ 799) (K1 : ∀ V, W = V ++ [v] → q (some (.inl 1)) h) (K2 : (∀ V, W ≠ V ++ [v]) → q (some (.inl 0)) h) : Wp (d + 1) 0 0 M_X12_isOn 0 [some (.inr (.inr 66)), some (.inl v)] [] h q := by
  have y1 := Y.1
  have last : ∀ V x, W = V ++ [x] → gv h 85 ((W.length : Int) - 1) = x := fun V x e => by
    have z := (e ▸ Y).top.2
    rw [e, List.length_append]
    rw [show (((V.length + [x].length : Nat) : Int) - 1) = V.length by show (((V.length + 1 : Nat) : Int) - 1) = V.length; omega]
    exact z
  have ex : W ≠ [] → ∃ V x, W = V ++ [x] := fun h => ⟨W.dropLast, W.getLast h, (List.dropLast_concat_getLast h).symm⟩
  refine p_aload 1 rfl rfl rfl ?_
  refine p_getfi (j := 28) (z := (W.length : Int)) 4 rfl rfl rfl (tg_66 S) rfl y1 ?_
  refine p_if_le 7 26 rfl rfl rfl (fun c1 => ?_) (fun c1 => ?_)
  · skip
    refine p_const 27 rfl rfl ?_
    refine p_zret rfl rfl (by decide) ?_
    -- leaf 1: answer [.inl 0] h=h 
    refine K2 (fun V e => ?_)
    rw [e, List.length_append] at c1
    have c1 : ((V.length + 1 : Nat) : Int) ≤ 0 := c1
    omega
  · skip
    refine p_aload 8 rfl rfl rfl ?_
    refine p_getfr (j := 27) (z := 85) 11 rfl rfl rfl (tg_66 S) rfl (fi_66_27 S) ?_
    refine p_aload 12 rfl rfl rfl ?_
    refine p_getfi (j := 28) (z := (W.length : Int)) 15 rfl rfl rfl (tg_66 S) rfl y1 ?_
    refine p_const 16 rfl rfl ?_
    refine p_isub (z := (W.length : Int) - 1) 17 rfl rfl (w32_id ⟨(by omega), (by omega)⟩) ?_
    refine p_iald (w := 800) (z := gv h 85 ((W.length : Int) - 1)) 18 rfl rfl (tg_85 S) (ln_85 S) (by omega) (by omega) rfl ?_
    refine p_iload 19 rfl rfl rfl ?_
    refine p_ic_ne 22 26 rfl rfl rfl (fun c2 => ?_) (fun c2 => ?_)
    · skip
      refine p_const 27 rfl rfl ?_
      refine p_zret rfl rfl (by decide) ?_
      -- leaf 2: answer [.inl 0] h=h 
      refine K2 (fun V e => ?_)
      exact c2 (last V v e)
    · skip
      refine p_const 23 rfl rfl ?_
      refine p_goto 27 rfl rfl ?_
      refine p_zret rfl rfl (by decide) ?_
      -- leaf 3: answer [.inl 1] h=h 
      obtain ⟨V, x, e⟩ := ex (fun z => by rw [z] at c1; exact absurd c1 (by decide))
      have := last V x e
      exact K1 V (by rw [e, show x = v by omega])
theorem m_opens {d : Nat} {h : PH} {q : PQ} (S : Shape h) (v p : Int) {W : List Int} (Y : StkM h W) (lw : W.length ≤ 799) (b0 : gv h 66 5 = 0) (o0 : 0 ≤ gv h 66 29 ∧ gv h 66 29 ≤ 6)
    (K : ∀ h', (Keep opA h h' ∧ ((gv h 66 29 < 6 ∧ StkM h' (W ++ [v]) ∧ gv h' 66 29 = gv h 66 29 + 1 ∧ gv h' 66 5 = 0 ∧ gv h' 66 6 = gv h 66 6) ∨ (gv h 66 29 = 6 ∧ gv h' 66 5 = 3 ∧ gv h' 66 6 = p))) → Shape h' → q none h') : Wp (d + 2) 0 0 M_X12_opens 0 [some (.inr (.inr 66)), some (.inl v), some (.inl p)] [] h q := by
  have y1 := Y.1
  refine p_aload 1 rfl rfl rfl ?_
  refine p_getfi (j := 29) (z := gv h 66 29) 4 rfl rfl rfl (tg_66 S) rfl rfl ?_
  refine p_const 6 rfl rfl ?_
  refine p_ic_ne 9 16 rfl rfl rfl (fun c1 => ?_) (fun c1 => ?_)
  · skip
    refine p_aload 17 rfl rfl rfl ?_
    refine p_dup 18 rfl rfl nl_r ?_
    refine p_getfi (j := 29) (z := gv h 66 29) 21 rfl rfl rfl (tg_66 S) rfl rfl ?_
    refine p_const 22 rfl rfl ?_
    refine p_iadd (z := (gv h 66 29) + 1) 23 rfl rfl (w32_id ⟨(by omega), (by omega)⟩) ?_
    refine p_putfi (j := 29) 26 rfl rfl rfl (fun z => absurd z (by decide)) (tg_66 S) rfl ?_
    refine p_nmh (fun y2 e2 => ?_)
    have S2 : Shape y2 := by rw [e2]; exact S.svF ff_66_29 _
    refine p_aload 27 rfl rfl rfl ?_
    refine p_getfr (j := 27) (z := 85) 30 rfl rfl rfl (tg_66 S2) rfl (fi_66_27 S2) ?_
    refine p_aload 31 rfl rfl rfl ?_
    refine p_getfi (j := 28) (z := (W.length : Int)) 34 rfl rfl rfl (tg_66 S2) rfl (by rw [e2, sv_nf (by decide)]; exact y1) ?_
    refine p_iload 35 rfl rfl rfl ?_
    refine p_iast (w := 800) 36 rfl rfl (by decide) (tg_85 S2) (ln_85 S2) (by omega) (by omega) ?_
    refine p_nmh (fun y3 e3 => ?_)
    have S3 : Shape y3 := by rw [e3]; exact S2.svA fa_85 _ _
    refine p_aload 37 rfl rfl rfl ?_
    refine p_dup 38 rfl rfl nl_r ?_
    refine p_getfi (j := 28) (z := (W.length : Int)) 41 rfl rfl rfl (tg_66 S3) rfl (by rw [e3, sv_ne (by decide)]; rw [e2, sv_nf (by decide)]; exact y1) ?_
    refine p_const 42 rfl rfl ?_
    refine p_iadd (z := (W.length : Int) + 1) 43 rfl rfl (w32_id ⟨(by omega), (by omega)⟩) ?_
    refine p_putfi (j := 28) 46 rfl rfl rfl (fun z => absurd z (by decide)) (tg_66 S3) rfl ?_
    refine p_nmh (fun y4 e4 => ?_)
    have S4 : Shape y4 := by rw [e4]; exact S3.svF ff_66_28 _
    refine p_ret rfl rfl ?_
    -- leaf 1: answer [] h=y4 e4,e3,e2
    refine K _ ⟨by rw [e4, e3, e2]; exact (((Keep.rf _ _).sv rfl _).sv rfl _).sv rfl _, Or.inl ⟨by omega, ⟨?_, fun j x hj => ?_⟩, ?_, ?_, ?_⟩⟩ S4
    · rw [e4, sv_eq, List.length_append]; rfl
    · rw [e4, sv_ne (by decide), e3]
      rcases snoc_get hj with ⟨j1, j2⟩ | ⟨j1, j2⟩
      · rw [sv_nf (by omega), e2, sv_ne (by decide)]; exact Y.2 j x j2
      · rw [j2, j1]; exact sv_eq _ _ _ _
    · rw [e4, sv_nf (by decide), e3, sv_ne (by decide), e2, sv_eq]
    · rw [e4, sv_nf (by decide), e3, sv_ne (by decide), e2, sv_nf (by decide)]; exact b0
    · rw [e4, sv_nf (by decide), e3, sv_ne (by decide), e2, sv_nf (by decide)]
  · skip
    refine p_aload 10 rfl rfl rfl ?_
    refine p_const 11 rfl rfl ?_
    refine p_iload 12 rfl rfl rfl ?_
    refine p_callv (le := [some (.inr (.inr 66)), some (.inl 3), some (.inl p)]) (as := [.inr (.inr 66), .inl 3, .inl p]) (rest := []) 15 0 0 0 0 rfl rfl (Nat.le_of_ble_eq_true rfl) rfl (Nat.le_of_ble_eq_true rfl) rfl rfl (Nat.le_of_ble_eq_true rfl) rfl (Nat.le_of_ble_eq_true rfl) rfl (Nat.le_refl _) (Nat.le_refl _) rfl rfl (tg_66 S) ?_
    refine p_aload 1 rfl rfl rfl ?_
    refine p_getfi (j := 5) (z := gv h 66 5) 4 rfl rfl rfl (tg_66 S) rfl rfl ?_
    refine p_if_eq 7 8 rfl rfl rfl (fun c5 => ?_) (fun c5 => ?_)
    · skip
      refine p_aload 9 rfl rfl rfl ?_
      refine p_iload 10 rfl rfl rfl ?_
      refine p_putfi (j := 5) 13 rfl rfl rfl (fun z => absurd z (by decide)) (tg_66 S) rfl ?_
      refine p_nmh (fun y6 e6 => ?_)
      have S6 : Shape y6 := by rw [e6]; exact S.svF ff_66_5 _
      refine p_aload 14 rfl rfl rfl ?_
      refine p_iload 15 rfl rfl rfl ?_
      refine p_putfi (j := 6) 18 rfl rfl rfl (fun z => absurd z (by decide)) (tg_66 S6) rfl ?_
      refine p_nmh (fun y7 e7 => ?_)
      have S7 : Shape y7 := by rw [e7]; exact S6.svF ff_66_6 _
      refine p_ret rfl rfl ?_
      show Wp (d + 2) 0 0 M_X12_opens 15 [some (.inr (.inr 66)), some (.inl v), some (.inl p)] [] y7 _
      refine p_ret rfl rfl ?_
      -- leaf 2: answer [] h=y7 e7,e6
      refine K _ ⟨by rw [e7, e6]; exact ((Keep.rf _ _).sv rfl _).sv rfl _, Or.inr ⟨by omega, by rw [e7, sv_nf (by decide), e6, sv_eq], by rw [e7, sv_eq]⟩⟩ S7
    · skip
      refine p_ret rfl rfl ?_
      show Wp (d + 2) 0 0 M_X12_opens 15 [some (.inr (.inr 66)), some (.inl v), some (.inl p)] [] h _
      refine p_ret rfl rfl ?_
      -- leaf 3: answer [] h=h 
      exfalso; omega

