/-! THE MODEL'S READER: the sign that goes on a sum, or its end -/
def noOp (W : List Int) : Prop := ∀ V x, W = V ++ [x] → ¬ (1 ≤ x ∧ x ≤ 3)
theorem jAt_T {T : Int → Int} {n : Int} {L : List Tok} {i : Nat} (O : TxO T n) (A : TokA T n L i) : (T (tk L i).2.1 = 43 ∧ jAt L i = 1) ∨ (T (tk L i).2.1 = 45 ∧ jAt L i = 2) ∨ (T (tk L i).2.1 = 42 ∧ jAt L i = 3) ∨ (T (tk L i).2.1 ≠ 43 ∧ T (tk L i).2.1 ≠ 45 ∧ T (tk L i).2.1 ≠ 42 ∧ jAt L i = -1) := by
  have s1 := A.sg O (c := 43) (by decide) (by decide) (by decide) (by decide)
  have s2 := A.sg O (c := 45) (by decide) (by decide) (by decide) (by decide)
  have s3 := A.sg O (c := 42) (by decide) (by decide) (by decide) (by decide)
  by_cases e1 : T (tk L i).2.1 = 43
  · have y := s1.2 e1
    exact Or.inl ⟨e1, by unfold jAt; rw [if_pos y.1, y.2]; rfl⟩
  · by_cases e2 : T (tk L i).2.1 = 45
    · have y := s2.2 e2
      exact Or.inr (Or.inl ⟨e2, by unfold jAt; rw [if_pos y.1, y.2]; rfl⟩)
    · by_cases e3 : T (tk L i).2.1 = 42
      · have y := s3.2 e3
        exact Or.inr (Or.inr (Or.inl ⟨e3, by unfold jAt; rw [if_pos y.1, y.2]; rfl⟩))
      · refine Or.inr (Or.inr (Or.inr ⟨e1, e2, e3, ?_⟩))
        unfold jAt
        by_cases k : (tk L i).1 = 4
        · rw [if_pos k]
          unfold jcd
          rw [if_neg (fun y => e1 (s1.1 ⟨k, y⟩)), if_neg (fun y => e2 (s2.1 ⟨k, y⟩)), if_neg (fun y => e3 (s3.1 ⟨k, y⟩))]
        · rw [if_neg k]
theorem m_isOnE {d : Nat} {h : PH} {q : PQ} (S : Shape h) (v : Int) {W : List Int} (Y : StkM h W) (lw : W.length ≤ 799) (K1 : (∃ V, W = V ++ [v]) → q (some (.inl 1)) h) (K2 : (¬ ∃ V, W = V ++ [v]) → q (some (.inl 0)) h) : Wp (d + 1) 0 0 M_X12_isOn 0 [some (.inr (.inr 66)), some (.inl v)] [] h q :=
  m_isOn S v Y lw (fun V e => K1 ⟨V, e⟩) (fun n => K2 (fun ⟨V, e⟩ => n V e))
theorem RdM.drop {h0 h h' : PH} {T : Int → Int} {n : Int} {L : List Tok} {i o : Nat} {b : Int} {W C : List Int} {x : Int} (R : RdM h0 h T n L i o b (W ++ [x]) C) (k : Keep drA h h') (s : StkM h' W) (c : CodM h' (C ++ [x])) : RdM h0 h' T n L i o b W (C ++ [x]) := by
  obtain ⟨r1, ⟨r2, r3⟩, r4, r5, r6, r7, r8, r9, r10, r11⟩ := R
  exact ⟨r1.trans (k.wide drA_rtA), ⟨r2.kp (k.1 66 3 rfl) (fun i => k.1 67 i rfl), r3.kp k (fun a i x y => decide_eq_false (by omega))⟩, r4.of (k.1 66 2 rfl) (k.1 66 4 rfl), (k.1 66 5 rfl).trans r5, (k.1 66 29 rfl).trans r6, (k.1 66 30 rfl).trans r7, s, c, by rw [List.length_append] at r10 ⊢; show W.length + (C.length + 1) + 4 ≤ i; have r10 : W.length + 1 + C.length + 4 ≤ i := r10; omega, r11.1, (k.1 66 6 rfl).trans r11.2⟩
theorem m_goesSign {d : Nat} {h0 h : PH} {q : PQ} (S : Shape h) {T : Int → Int} {n : Int} {L : List Tok} {i o : Nat} {b : Int} {W pend C : List Int} (O : TxO T n) (LX : LexA T n L) (R : RdM h0 h T n L i o b (W ++ pend) C) (pp : pendOp pend) (no : noOp W) (b0 : 0 ≤ b)
    (K1 : jAt L i ≠ -1 → ∀ h', RdM h0 h' T n L (i + 1) o b (W ++ [jAt L i]) (C ++ pend) → Shape h' → q (some (.inl 1)) h')
    (K2 : jAt L i = -1 → hasMark (W ++ pend) b → ∀ h', BdM h0 h' 1 (tk L i).2.1 → Shape h' → q (some (.inl 0)) h')
    (K3 : jAt L i = -1 → ¬ hasMark (W ++ pend) b → ∀ h', RdM h0 h' T n L i o b (W ++ pend) C → Shape h' → q (some (.inl 0)) h') :
    Wp (d + 5) 0 0 M_X12_goesOn 62 [some (.inr (.inr 66)), none] [] h q := by
  have l7 := (LX.tl O).1
  have n7 := O.1
  have B := LX.tl O
  have R0 := R
  obtain ⟨r1, ⟨r2, r3⟩, r4, r5, r6, r7, r8, r9, r10, r11⟩ := R
  have i7 := r4.1
  have TA := LX.tok O i7
  have t2 := TA.2.1
  have jt := jAt_T O TA
  have lw : (W ++ pend).length = W.length + pend.length := List.length_append
  rw [lw] at r10
  have J137 : ∀ (h1 : PH) (c : Int), jAt L i = (if c = 43 then 1 else if c = 45 then 2 else 3) → jAt L i ≠ -1 → RdM h0 h1 T n L (i + 1) o b W (C ++ pend) → W.length + (C ++ pend).length + 4 ≤ i → Shape h1 → Wp (d + 5) 0 0 M_X12_goesOn 137 [some (.inr (.inr 66)), some (.inl c)] [] h1 q := by
    intro h1 c hc jn R1 ll S1
    have s28 := R1.2.2.2.2.2.2.1.1
    have st := R1.2.2.2.2.2.2.1
    have R1' := R1
    obtain ⟨u1, ⟨u2, u3⟩, u4, u5, u6, u7, u8, u9, u10, u11⟩ := R1
    have go : ∀ (op : Int) (y : PH), op = jAt L i → y = sv (sv h1 85 W.length op) 66 28 (W.length + 1) → Shape y → q (some (.inl 1)) y := by
      intro op y eo ey Sy
      have k : Keep rtA h1 y := by rw [ey]; exact ((Keep.rf _ _).sv rfl _).sv rfl _
      have f : ∀ j, j ≠ 28 → gv y 66 j = gv h1 66 j := fun j hj => by rw [ey, sv_nf (by omega), sv_ne (by decide)]
      refine K1 jn y ⟨u1.trans k, ⟨u2.kp (k.1 66 3 rfl) (fun i => k.1 67 i rfl), u3.kp k rtA_wd⟩, u4.of (f 2 (by decide)) (f 4 (by decide)), (f 5 (by decide)).trans u5, (f 29 (by decide)).trans u6, (f 30 (by decide)).trans u7, ⟨?_, fun j x hj => ?_⟩, u9.of (f 26 (by decide)) (fun i => by rw [ey, sv_ne (by decide), sv_ne (by decide)]), ?_, u11.1, (f 6 (by decide)).trans u11.2⟩ Sy
      · rw [ey, sv_eq, List.length_append]; rfl
      · rw [ey, sv_ne (by decide)]
        rcases snoc_get hj with ⟨j1, j2⟩ | ⟨j1, j2⟩
        · rw [sv_nf (by omega)]; exact u8.2 j x j2
        · rw [j2, j1, ← eo]; exact sv_eq _ _ _ _
      · rw [List.length_append]; show W.length + 1 + _ + 4 ≤ i + 1; omega
    refine p_aload 138 rfl rfl rfl ?_
    refine p_getfr (j := 27) (z := 85) 141 rfl rfl rfl (tg_66 S1) rfl (fi_66_27 S1) ?_
    refine p_aload 142 rfl rfl rfl ?_
    refine p_getfi (j := 28) (z := (W.length : Int)) 145 rfl rfl rfl (tg_66 S1) rfl s28 ?_
    refine p_iload 146 rfl rfl rfl ?_
    refine p_const 148 rfl rfl ?_
    refine p_ic_ne 151 155 rfl rfl rfl (fun c1 => ?_) (fun c1 => ?_)
    · skip
      refine p_iload 156 rfl rfl rfl ?_
      refine p_const 158 rfl rfl ?_
      refine p_ic_ne 161 165 rfl rfl rfl (fun c2 => ?_) (fun c2 => ?_)
      · skip
        refine p_const 166 rfl rfl ?_
        refine p_iast (w := 800) 167 rfl rfl (by decide) (tg_85 S1) (ln_85 S1) (by omega) (by omega) ?_
        refine p_nmh (fun y3 e3 => ?_)
        have S3 : Shape y3 := by rw [e3]; exact S1.svA fa_85 _ _
        refine p_aload 168 rfl rfl rfl ?_
        refine p_dup 169 rfl rfl nl_r ?_
        refine p_getfi (j := 28) (z := (W.length : Int)) 172 rfl rfl rfl (tg_66 S3) rfl (by rw [e3, sv_ne (by decide)]; exact s28) ?_
        refine p_const 173 rfl rfl ?_
        refine p_iadd (z := (W.length : Int) + 1) 174 rfl rfl (w32_id ⟨(by omega), (by omega)⟩) ?_
        refine p_putfi (j := 28) 177 rfl rfl rfl (fun z => absurd z (by decide)) (tg_66 S3) rfl ?_
        refine p_nmh (fun y4 e4 => ?_)
        have S4 : Shape y4 := by rw [e4]; exact S3.svF ff_66_28 _
        refine p_const 178 rfl rfl ?_
        refine p_zret rfl rfl (by decide) ?_
        -- leaf 1: answer [.inl 1] h=y4 e4,e3
        refine go _ _ ?_ (by rw [e4, e3]) S4; rw [hc]; first | rw [if_pos (by omega)] | rw [if_neg (by omega), if_pos (by omega)] | rw [if_neg (by omega), if_neg (by omega)]
      · skip
        refine p_const 162 rfl rfl ?_
        refine p_goto 166 rfl rfl ?_
        refine p_iast (w := 800) 167 rfl rfl (by decide) (tg_85 S1) (ln_85 S1) (by omega) (by omega) ?_
        refine p_nmh (fun y5 e5 => ?_)
        have S5 : Shape y5 := by rw [e5]; exact S1.svA fa_85 _ _
        refine p_aload 168 rfl rfl rfl ?_
        refine p_dup 169 rfl rfl nl_r ?_
        refine p_getfi (j := 28) (z := (W.length : Int)) 172 rfl rfl rfl (tg_66 S5) rfl (by rw [e5, sv_ne (by decide)]; exact s28) ?_
        refine p_const 173 rfl rfl ?_
        refine p_iadd (z := (W.length : Int) + 1) 174 rfl rfl (w32_id ⟨(by omega), (by omega)⟩) ?_
        refine p_putfi (j := 28) 177 rfl rfl rfl (fun z => absurd z (by decide)) (tg_66 S5) rfl ?_
        refine p_nmh (fun y6 e6 => ?_)
        have S6 : Shape y6 := by rw [e6]; exact S5.svF ff_66_28 _
        refine p_const 178 rfl rfl ?_
        refine p_zret rfl rfl (by decide) ?_
        -- leaf 2: answer [.inl 1] h=y6 e6,e5
        refine go _ _ ?_ (by rw [e6, e5]) S6; rw [hc]; first | rw [if_pos (by omega)] | rw [if_neg (by omega), if_pos (by omega)] | rw [if_neg (by omega), if_neg (by omega)]
    · skip
      refine p_const 152 rfl rfl ?_
      refine p_goto 166 rfl rfl ?_
      refine p_iast (w := 800) 167 rfl rfl (by decide) (tg_85 S1) (ln_85 S1) (by omega) (by omega) ?_
      refine p_nmh (fun y7 e7 => ?_)
      have S7 : Shape y7 := by rw [e7]; exact S1.svA fa_85 _ _
      refine p_aload 168 rfl rfl rfl ?_
      refine p_dup 169 rfl rfl nl_r ?_
      refine p_getfi (j := 28) (z := (W.length : Int)) 172 rfl rfl rfl (tg_66 S7) rfl (by rw [e7, sv_ne (by decide)]; exact s28) ?_
      refine p_const 173 rfl rfl ?_
      refine p_iadd (z := (W.length : Int) + 1) 174 rfl rfl (w32_id ⟨(by omega), (by omega)⟩) ?_
      refine p_putfi (j := 28) 177 rfl rfl rfl (fun z => absurd z (by decide)) (tg_66 S7) rfl ?_
      refine p_nmh (fun y8 e8 => ?_)
      have S8 : Shape y8 := by rw [e8]; exact S7.svF ff_66_28 _
      refine p_const 178 rfl rfl ?_
      refine p_zret rfl rfl (by decide) ?_
      -- leaf 3: answer [.inl 1] h=y8 e8,e7
      refine go _ _ ?_ (by rw [e8, e7]) S8; rw [hc]; first | rw [if_pos (by omega)] | rw [if_neg (by omega), if_pos (by omega)] | rw [if_neg (by omega), if_neg (by omega)]
  have J106 : ∀ (h1 : PH) (c : Int) (D : List Int), jAt L i = (if c = 43 then 1 else if c = 45 then 2 else 3) → jAt L i ≠ -1 → RdM h0 h1 T n L (i + 1) o b W D → D = C ++ pend → W.length + D.length + 4 ≤ i → Shape h1 → Wp (d + 5) 0 0 M_X12_goesOn 106 [some (.inr (.inr 66)), some (.inl c)] [] h1 q := by
    intro h1 c D hc jn R1 eD ll S1
    have st := R1.2.2.2.2.2.2.1
    have cd := R1.2.2.2.2.2.2.2.1
    refine p_aload 107 rfl rfl rfl ?_
    refine p_const 108 rfl rfl ?_
    refine p_callv (le := [some (.inr (.inr 66)), some (.inl 3)]) (as := [.inr (.inr 66), .inl 3]) (rest := []) 111 0 0 0 0 rfl rfl (Nat.le_of_ble_eq_true rfl) rfl (Nat.le_of_ble_eq_true rfl) rfl rfl (Nat.le_of_ble_eq_true rfl) rfl (Nat.le_of_ble_eq_true rfl) rfl (Nat.le_refl _) (Nat.le_refl _) rfl rfl (tg_66 S1) ?_
    refine m_isOnE S1 3 st (by omega) (fun c1 => ?_) (fun c1 => ?_)
    · show Wp (d + 5) 0 0 M_X12_goesOn 111 [some (.inr (.inr 66)), some (.inl c)] [.inl 1] h1 _
      refine p_if_ne_t 130 rfl rfl (by decide) ?_
      refine p_aload 131 rfl rfl rfl ?_
      obtain ⟨V, e⟩ := c1
      have st2 : StkM h1 (V ++ [3]) := by rw [← e]; exact st
      have lv := congrArg List.length e
      rw [List.length_append] at lv
      refine p_callv (le := [some (.inr (.inr 66))]) (as := [.inr (.inr 66)]) (rest := []) 134 0 0 0 0 rfl rfl (Nat.le_of_ble_eq_true rfl) rfl (Nat.le_of_ble_eq_true rfl) rfl rfl (Nat.le_of_ble_eq_true rfl) rfl (Nat.le_of_ble_eq_true rfl) rfl (Nat.le_refl _) (Nat.le_refl _) rfl rfl (tg_66 S1) ?_
      refine m_drops S1 st2 cd (by omega) (by omega) (fun y2 p2 S2 => ?_)
      show Wp (d + 5) 0 0 M_X12_goesOn 134 [some (.inr (.inr 66)), some (.inl c)] [] y2 _
      refine p_goto 106 rfl rfl ?_
      -- leaf 1: loop 106 [some (.inr (.inr 66)), some (.inl c)] st=[] h=y2 
      exact absurd ⟨by decide, by decide⟩ (no V 3 e)
    · show Wp (d + 5) 0 0 M_X12_goesOn 111 [some (.inr (.inr 66)), some (.inl c)] [.inl 0] h1 _
      refine p_if_ne_f 114 rfl rfl (by decide) ?_
      refine p_aload 115 rfl rfl rfl ?_
      refine p_const 116 rfl rfl ?_
      refine p_callv (le := [some (.inr (.inr 66)), some (.inl 1)]) (as := [.inr (.inr 66), .inl 1]) (rest := []) 119 0 0 0 0 rfl rfl (Nat.le_of_ble_eq_true rfl) rfl (Nat.le_of_ble_eq_true rfl) rfl rfl (Nat.le_of_ble_eq_true rfl) rfl (Nat.le_of_ble_eq_true rfl) rfl (Nat.le_refl _) (Nat.le_refl _) rfl rfl (tg_66 S1) ?_
      refine m_isOnE S1 1 st (by omega) (fun c3 => ?_) (fun c3 => ?_)
      · show Wp (d + 5) 0 0 M_X12_goesOn 119 [some (.inr (.inr 66)), some (.inl c)] [.inl 1] h1 _
        refine p_if_ne_t 130 rfl rfl (by decide) ?_
        refine p_aload 131 rfl rfl rfl ?_
        obtain ⟨V, e⟩ := c3
        have st2 : StkM h1 (V ++ [1]) := by rw [← e]; exact st
        have lv := congrArg List.length e
        rw [List.length_append] at lv
        refine p_callv (le := [some (.inr (.inr 66))]) (as := [.inr (.inr 66)]) (rest := []) 134 0 0 0 0 rfl rfl (Nat.le_of_ble_eq_true rfl) rfl (Nat.le_of_ble_eq_true rfl) rfl rfl (Nat.le_of_ble_eq_true rfl) rfl (Nat.le_of_ble_eq_true rfl) rfl (Nat.le_refl _) (Nat.le_refl _) rfl rfl (tg_66 S1) ?_
        refine m_drops S1 st2 cd (by omega) (by omega) (fun y4 p4 S4 => ?_)
        show Wp (d + 5) 0 0 M_X12_goesOn 134 [some (.inr (.inr 66)), some (.inl c)] [] y4 _
        refine p_goto 106 rfl rfl ?_
        -- leaf 2: loop 106 [some (.inr (.inr 66)), some (.inl c)] st=[] h=y4 
        exact absurd ⟨by decide, by decide⟩ (no V 1 e)
      · show Wp (d + 5) 0 0 M_X12_goesOn 119 [some (.inr (.inr 66)), some (.inl c)] [.inl 0] h1 _
        refine p_if_ne_f 122 rfl rfl (by decide) ?_
        refine p_aload 123 rfl rfl rfl ?_
        refine p_const 124 rfl rfl ?_
        refine p_callv (le := [some (.inr (.inr 66)), some (.inl 2)]) (as := [.inr (.inr 66), .inl 2]) (rest := []) 127 0 0 0 0 rfl rfl (Nat.le_of_ble_eq_true rfl) rfl (Nat.le_of_ble_eq_true rfl) rfl rfl (Nat.le_of_ble_eq_true rfl) rfl (Nat.le_of_ble_eq_true rfl) rfl (Nat.le_refl _) (Nat.le_refl _) rfl rfl (tg_66 S1) ?_
        refine m_isOnE S1 2 st (by omega) (fun c5 => ?_) (fun c5 => ?_)
        · show Wp (d + 5) 0 0 M_X12_goesOn 127 [some (.inr (.inr 66)), some (.inl c)] [.inl 1] h1 _
          refine p_if_eq_f 130 rfl rfl (by decide) ?_
          refine p_aload 131 rfl rfl rfl ?_
          obtain ⟨V, e⟩ := c5
          have st2 : StkM h1 (V ++ [2]) := by rw [← e]; exact st
          have lv := congrArg List.length e
          rw [List.length_append] at lv
          refine p_callv (le := [some (.inr (.inr 66))]) (as := [.inr (.inr 66)]) (rest := []) 134 0 0 0 0 rfl rfl (Nat.le_of_ble_eq_true rfl) rfl (Nat.le_of_ble_eq_true rfl) rfl rfl (Nat.le_of_ble_eq_true rfl) rfl (Nat.le_of_ble_eq_true rfl) rfl (Nat.le_refl _) (Nat.le_refl _) rfl rfl (tg_66 S1) ?_
          refine m_drops S1 st2 cd (by omega) (by omega) (fun y6 p6 S6 => ?_)
          show Wp (d + 5) 0 0 M_X12_goesOn 134 [some (.inr (.inr 66)), some (.inl c)] [] y6 _
          refine p_goto 106 rfl rfl ?_
          -- leaf 3: loop 106 [some (.inr (.inr 66)), some (.inl c)] st=[] h=y6 
          exact absurd ⟨by decide, by decide⟩ (no V 2 e)
        · show Wp (d + 5) 0 0 M_X12_goesOn 127 [some (.inr (.inr 66)), some (.inl c)] [.inl 0] h1 _
          refine p_if_eq_t 137 rfl rfl (by decide) ?_
          -- leaf 4: loop 137 [some (.inr (.inr 66)), some (.inl c)] st=[] h=h1 
          subst eD
          exact J137 h1 c hc jn R1 ll S1
  have J106b : ∀ (h1 : PH) (c x : Int), jAt L i = (if c = 43 then 1 else if c = 45 then 2 else 3) → jAt L i ≠ -1 → pend = [x] → 1 ≤ x → x ≤ 3 → RdM h0 h1 T n L (i + 1) o b (W ++ [x]) C → W.length + 1 + C.length + 4 ≤ i → Shape h1 → Wp (d + 5) 0 0 M_X12_goesOn 106 [some (.inr (.inr 66)), some (.inl c)] [] h1 q := by
    intro h1 c x hc jn ep x1 x3 R1 ll S1
    have st := R1.2.2.2.2.2.2.1
    have cd := R1.2.2.2.2.2.2.2.1
    have wl : (W ++ [x]).length = W.length + 1 := by rw [List.length_append]; rfl
    have go : ∀ y4 : PH, Keep drA h1 y4 → StkM y4 W → CodM y4 (C ++ [x]) → Shape y4 → Wp (d + 5) 0 0 M_X12_goesOn 106 [some (.inr (.inr 66)), some (.inl c)] [] y4 q := fun y4 k s cc S4 => J106 y4 c (C ++ [x]) hc jn (R1.drop k s cc) (by rw [ep]) (by rw [List.length_append]; show W.length + (C.length + 1) + 4 ≤ i; omega) S4
    refine p_aload 107 rfl rfl rfl ?_
    refine p_const 108 rfl rfl ?_
    refine p_callv (le := [some (.inr (.inr 66)), some (.inl 3)]) (as := [.inr (.inr 66), .inl 3]) (rest := []) 111 0 0 0 0 rfl rfl (Nat.le_of_ble_eq_true rfl) rfl (Nat.le_of_ble_eq_true rfl) rfl rfl (Nat.le_of_ble_eq_true rfl) rfl (Nat.le_of_ble_eq_true rfl) rfl (Nat.le_refl _) (Nat.le_refl _) rfl rfl (tg_66 S1) ?_
    refine m_isOnE S1 3 st (by rw [wl]; omega) (fun c1 => ?_) (fun c1 => ?_)
    · show Wp (d + 5) 0 0 M_X12_goesOn 111 [some (.inr (.inr 66)), some (.inl c)] [.inl 1] h1 _
      refine p_if_ne_t 130 rfl rfl (by decide) ?_
      refine p_aload 131 rfl rfl rfl ?_
      refine p_callv (le := [some (.inr (.inr 66))]) (as := [.inr (.inr 66)]) (rest := []) 134 0 0 0 0 rfl rfl (Nat.le_of_ble_eq_true rfl) rfl (Nat.le_of_ble_eq_true rfl) rfl rfl (Nat.le_of_ble_eq_true rfl) rfl (Nat.le_of_ble_eq_true rfl) rfl (Nat.le_refl _) (Nat.le_refl _) rfl rfl (tg_66 S1) ?_
      refine m_drops S1 st cd (by omega) (by omega) (fun y2 p2 S2 => ?_)
      show Wp (d + 5) 0 0 M_X12_goesOn 134 [some (.inr (.inr 66)), some (.inl c)] [] y2 _
      refine p_goto 106 rfl rfl ?_
      -- leaf 1: loop 106 [some (.inr (.inr 66)), some (.inl c)] st=[] h=y2 
      exact go _ p2.1 p2.2.1 p2.2.2 S2
    · show Wp (d + 5) 0 0 M_X12_goesOn 111 [some (.inr (.inr 66)), some (.inl c)] [.inl 0] h1 _
      refine p_if_ne_f 114 rfl rfl (by decide) ?_
      refine p_aload 115 rfl rfl rfl ?_
      refine p_const 116 rfl rfl ?_
      refine p_callv (le := [some (.inr (.inr 66)), some (.inl 1)]) (as := [.inr (.inr 66), .inl 1]) (rest := []) 119 0 0 0 0 rfl rfl (Nat.le_of_ble_eq_true rfl) rfl (Nat.le_of_ble_eq_true rfl) rfl rfl (Nat.le_of_ble_eq_true rfl) rfl (Nat.le_of_ble_eq_true rfl) rfl (Nat.le_refl _) (Nat.le_refl _) rfl rfl (tg_66 S1) ?_
      refine m_isOnE S1 1 st (by rw [wl]; omega) (fun c3 => ?_) (fun c3 => ?_)
      · show Wp (d + 5) 0 0 M_X12_goesOn 119 [some (.inr (.inr 66)), some (.inl c)] [.inl 1] h1 _
        refine p_if_ne_t 130 rfl rfl (by decide) ?_
        refine p_aload 131 rfl rfl rfl ?_
        refine p_callv (le := [some (.inr (.inr 66))]) (as := [.inr (.inr 66)]) (rest := []) 134 0 0 0 0 rfl rfl (Nat.le_of_ble_eq_true rfl) rfl (Nat.le_of_ble_eq_true rfl) rfl rfl (Nat.le_of_ble_eq_true rfl) rfl (Nat.le_of_ble_eq_true rfl) rfl (Nat.le_refl _) (Nat.le_refl _) rfl rfl (tg_66 S1) ?_
        refine m_drops S1 st cd (by omega) (by omega) (fun y4 p4 S4 => ?_)
        show Wp (d + 5) 0 0 M_X12_goesOn 134 [some (.inr (.inr 66)), some (.inl c)] [] y4 _
        refine p_goto 106 rfl rfl ?_
        -- leaf 2: loop 106 [some (.inr (.inr 66)), some (.inl c)] st=[] h=y4 
        exact go _ p4.1 p4.2.1 p4.2.2 S4
      · show Wp (d + 5) 0 0 M_X12_goesOn 119 [some (.inr (.inr 66)), some (.inl c)] [.inl 0] h1 _
        refine p_if_ne_f 122 rfl rfl (by decide) ?_
        refine p_aload 123 rfl rfl rfl ?_
        refine p_const 124 rfl rfl ?_
        refine p_callv (le := [some (.inr (.inr 66)), some (.inl 2)]) (as := [.inr (.inr 66), .inl 2]) (rest := []) 127 0 0 0 0 rfl rfl (Nat.le_of_ble_eq_true rfl) rfl (Nat.le_of_ble_eq_true rfl) rfl rfl (Nat.le_of_ble_eq_true rfl) rfl (Nat.le_of_ble_eq_true rfl) rfl (Nat.le_refl _) (Nat.le_refl _) rfl rfl (tg_66 S1) ?_
        refine m_isOnE S1 2 st (by rw [wl]; omega) (fun c5 => ?_) (fun c5 => ?_)
        · show Wp (d + 5) 0 0 M_X12_goesOn 127 [some (.inr (.inr 66)), some (.inl c)] [.inl 1] h1 _
          refine p_if_eq_f 130 rfl rfl (by decide) ?_
          refine p_aload 131 rfl rfl rfl ?_
          refine p_callv (le := [some (.inr (.inr 66))]) (as := [.inr (.inr 66)]) (rest := []) 134 0 0 0 0 rfl rfl (Nat.le_of_ble_eq_true rfl) rfl (Nat.le_of_ble_eq_true rfl) rfl rfl (Nat.le_of_ble_eq_true rfl) rfl (Nat.le_of_ble_eq_true rfl) rfl (Nat.le_refl _) (Nat.le_refl _) rfl rfl (tg_66 S1) ?_
          refine m_drops S1 st cd (by omega) (by omega) (fun y6 p6 S6 => ?_)
          show Wp (d + 5) 0 0 M_X12_goesOn 134 [some (.inr (.inr 66)), some (.inl c)] [] y6 _
          refine p_goto 106 rfl rfl ?_
          -- leaf 3: loop 106 [some (.inr (.inr 66)), some (.inl c)] st=[] h=y6 
          exact go _ p6.1 p6.2.1 p6.2.2 S6
        · show Wp (d + 5) 0 0 M_X12_goesOn 127 [some (.inr (.inr 66)), some (.inl c)] [.inl 0] h1 _
          refine p_if_eq_t 137 rfl rfl (by decide) ?_
          -- leaf 4: loop 137 [some (.inr (.inr 66)), some (.inl c)] st=[] h=h1 
          exfalso
          rcases (show x = 3 ∨ x = 1 ∨ x = 2 by omega) with z | z | z
          · exact c1 ⟨W, by rw [z]⟩
          · exact c3 ⟨W, by rw [z]⟩
          · exact c5 ⟨W, by rw [z]⟩
  have J96 : ∀ (h1 : PH) (c : Int), jAt L i = (if c = 43 then 1 else if c = 45 then 2 else 3) → jAt L i ≠ -1 → RdM h0 h1 T n L i o b (W ++ pend) C → gv h1 66 2 = (tk L i).2.1 → Shape h1 → Wp (d + 5) 0 0 M_X12_goesOn 96 [some (.inr (.inr 66)), some (.inl c)] [] h1 q := by
    intro h1 c hc jn R1 g2 S1
    have k4 := jAt_k jn
    have m4 := R1.2.2.1.2.2.1
    refine p_aload 97 rfl rfl rfl ?_
    refine p_dup 98 rfl rfl nl_r ?_
    refine p_getfi (j := 2) (z := (tk L i).2.1) 101 rfl rfl rfl (tg_66 S1) rfl g2 ?_
    refine p_const 102 rfl rfl ?_
    refine p_iadd (z := ((tk L i).2.1) + 1) 103 rfl rfl (w32_id ⟨(by omega), (by omega)⟩) ?_
    refine p_putfi (j := 2) 106 rfl rfl rfl (fun z => absurd z (by decide)) (tg_66 S1) rfl ?_
    refine p_nmh (fun y1 e1 => ?_)
    have S1 : Shape y1 := by rw [e1]; exact S1.svF ff_66_2 _
    -- leaf 1: loop 106 [some (.inr (.inr 66)), some (.inl c)] st=[] h=y1 e1
    have kt : Keep tkA h1 y1 := by rw [e1]; exact (Keep.rf _ _).sv rfl _
    have M2 : MAt y1 T n L (i + 1) := MAt.sign O LX (B.nx i7 (by omega)).1 k4 t2.1 (by rw [e1, sv_eq]) (by rw [e1, sv_nf (by decide)]; omega)
    have R2 := R1.tk kt M2 (Nat.le_succ i)
    rcases pp with e | ⟨x, e, x1, x3⟩
    · rw [e, List.append_nil] at R2
      exact J106 _ c C hc jn R2 (by rw [e, List.append_nil]) (by omega) S1
    · have pl : pend.length = 1 := by rw [e]; rfl
      rw [e] at R2
      exact J106b _ c x hc jn e x1 x3 R2 (by omega) S1
  have J179 : ∀ (h1 : PH) (c : Int), jAt L i = -1 → RdM h0 h1 T n L i o b (W ++ pend) C → gv h1 66 2 = (tk L i).2.1 → Shape h1 → Wp (d + 5) 0 0 M_X12_goesOn 179 [some (.inr (.inr 66)), some (.inl c)] [] h1 q := by
    intro h1 c jn R1 g2 S1
    have u5 := R1.2.2.2.1
    have c26 := R1.2.2.2.2.2.2.2.1.1
    refine p_aload 180 rfl rfl rfl ?_
    refine p_callv (le := [some (.inr (.inr 66)), none]) (as := [.inr (.inr 66)]) (rest := []) 183 0 0 0 0 rfl rfl (Nat.le_of_ble_eq_true rfl) rfl (Nat.le_of_ble_eq_true rfl) rfl rfl (Nat.le_of_ble_eq_true rfl) rfl (Nat.le_of_ble_eq_true rfl) rfl (Nat.le_refl _) (Nat.le_refl _) rfl rfl (tg_66 S1) ?_
    refine m_markP S1 R1.2.2.2.2.2.2.1 R1.2.2.2.2.2.1 b0 (by rw [lw]; omega) (fun r1 p1 => ?_)
    show Wp (d + 5) 0 0 M_X12_goesOn 183 [some (.inr (.inr 66)), some (.inl c)] [.inl r1] h1 _
    refine p_const 184 rfl rfl ?_
    refine p_ic_eq 187 203 rfl rfl rfl (fun c2 => ?_) (fun c2 => ?_)
    · skip
      refine p_const 204 rfl rfl ?_
      refine p_zret rfl rfl (by decide) ?_
      -- leaf 1: answer [.inl 0] h=h1 
      rcases p1 with ⟨_, e⟩ | ⟨z, _⟩
      · omega
      · exact K3 jn z _ R1 S1
    · skip
      refine p_aload 188 rfl rfl rfl ?_
      refine p_getfi (j := 5) (z := gv h1 66 5) 191 rfl rfl rfl (tg_66 S1) rfl rfl ?_
      refine p_if_ne_f 194 rfl rfl (by omega) ?_
      refine p_aload 195 rfl rfl rfl ?_
      refine p_const 196 rfl rfl ?_
      refine p_aload 197 rfl rfl rfl ?_
      refine p_getfi (j := 2) (z := (tk L i).2.1) 200 rfl rfl rfl (tg_66 S1) rfl g2 ?_
      refine p_callv (le := [some (.inr (.inr 66)), some (.inl 1), some (.inl ((tk L i).2.1))]) (as := [.inr (.inr 66), .inl 1, .inl ((tk L i).2.1)]) (rest := []) 203 0 0 0 0 rfl rfl (Nat.le_of_ble_eq_true rfl) rfl (Nat.le_of_ble_eq_true rfl) rfl rfl (Nat.le_of_ble_eq_true rfl) rfl (Nat.le_of_ble_eq_true rfl) rfl (Nat.le_refl _) (Nat.le_refl _) rfl rfl (tg_66 S1) ?_
      refine p_aload 1 rfl rfl rfl ?_
      refine p_getfi (j := 5) (z := gv h1 66 5) 4 rfl rfl rfl (tg_66 S1) rfl rfl ?_
      refine p_if_eq 7 8 rfl rfl rfl (fun c3 => ?_) (fun c3 => ?_)
      · skip
        refine p_aload 9 rfl rfl rfl ?_
        refine p_iload 10 rfl rfl rfl ?_
        refine p_putfi (j := 5) 13 rfl rfl rfl (fun z => absurd z (by decide)) (tg_66 S1) rfl ?_
        refine p_nmh (fun y4 e4 => ?_)
        have S4 : Shape y4 := by rw [e4]; exact S1.svF ff_66_5 _
        refine p_aload 14 rfl rfl rfl ?_
        refine p_iload 15 rfl rfl rfl ?_
        refine p_putfi (j := 6) 18 rfl rfl rfl (fun z => absurd z (by decide)) (tg_66 S4) rfl ?_
        refine p_nmh (fun y5 e5 => ?_)
        have S5 : Shape y5 := by rw [e5]; exact S4.svF ff_66_6 _
        refine p_ret rfl rfl ?_
        show Wp (d + 5) 0 0 M_X12_goesOn 203 [some (.inr (.inr 66)), some (.inl c)] [] y5 _
        refine p_const 204 rfl rfl ?_
        refine p_zret rfl rfl (by decide) ?_
        -- leaf 2: answer [.inl 0] h=y5 e5,e4
        rcases p1 with ⟨z, _⟩ | ⟨_, e⟩
        · refine K2 jn z _ ⟨by rw [e5, e4]; exact (R1.1.sv rfl _).sv rfl _, by rw [e5, sv_nf (by decide), e4, sv_eq], by decide, by rw [e5, sv_eq], ?_, ?_⟩ S5
          · rw [e5, sv_nf (by decide), e4, sv_nf (by decide), c26]; omega
          · rw [e5, sv_nf (by decide), e4, sv_nf (by decide), c26]; omega
        · omega
      · skip
        refine p_ret rfl rfl ?_
        show Wp (d + 5) 0 0 M_X12_goesOn 203 [some (.inr (.inr 66)), some (.inl c)] [] h1 _
        refine p_const 204 rfl rfl ?_
        refine p_zret rfl rfl (by decide) ?_
        -- leaf 3: answer [.inl 0] h=h1 
        exfalso; omega
  refine p_aload 63 rfl rfl rfl ?_
  refine p_getfi (j := 5) (z := gv h 66 5) 66 rfl rfl rfl (tg_66 S) rfl rfl ?_
  refine p_if_ne_f 69 rfl rfl (by omega) ?_
  refine p_aload 70 rfl rfl rfl ?_
  refine p_callv (le := [some (.inr (.inr 66))]) (as := [.inr (.inr 66)]) (rest := []) 73 0 0 0 0 rfl rfl (Nat.le_of_ble_eq_true rfl) rfl (Nat.le_of_ble_eq_true rfl) rfl rfl (Nat.le_of_ble_eq_true rfl) rfl (Nat.le_of_ble_eq_true rfl) rfl (Nat.le_refl _) (Nat.le_refl _) rfl rfl (tg_66 S) ?_
  refine m_lookT S O r2 LX r4 (fun r1 y1 p1 S1 => ?_)
  show Wp (d + 5) 0 0 M_X12_goesOn 73 [some (.inr (.inr 66)), none] [.inl r1] y1 _
  obtain ⟨kl, re, M2, g2⟩ := p1
  have R1 := R0.tk (kl.wide lukA_tkA) M2 (Nat.le_refl i)
  refine p_goto 77 rfl rfl ?_
  refine p_istore (ls' := [some (.inr (.inr 66)), some (.inl r1)]) 78 rfl rfl (Nat.le_of_ble_eq_true rfl) rfl ?_
  refine p_iload 79 rfl rfl rfl ?_
  refine p_const 81 rfl rfl ?_
  refine p_ic_eq 84 96 rfl rfl rfl (fun c2 => ?_) (fun c2 => ?_)
  · skip
    -- leaf 1: loop 96 [some (.inr (.inr 66)), some (.inl r1)] st=[] h=y1 
    have jn : jAt L i = 1 := by rcases jt with ⟨_, z⟩ | ⟨z, _⟩ | ⟨z, _⟩ | ⟨z, _⟩ <;> omega
    exact J96 _ r1 (by rw [if_pos c2]; exact jn) (by omega) R1 g2 S1
  · skip
    refine p_iload 85 rfl rfl rfl ?_
    refine p_const 87 rfl rfl ?_
    refine p_ic_eq 90 96 rfl rfl rfl (fun c3 => ?_) (fun c3 => ?_)
    · skip
      -- leaf 2: loop 96 [some (.inr (.inr 66)), some (.inl r1)] st=[] h=y1 
      have jn : jAt L i = 2 := by rcases jt with ⟨z, _⟩ | ⟨_, z⟩ | ⟨z, _⟩ | ⟨_, z, _⟩ <;> omega
      exact J96 _ r1 (by rw [if_neg c2, if_pos c3]; exact jn) (by omega) R1 g2 S1
    · skip
      refine p_iload 91 rfl rfl rfl ?_
      refine p_const 93 rfl rfl ?_
      refine p_ic_ne 96 179 rfl rfl rfl (fun c4 => ?_) (fun c4 => ?_)
      · skip
        -- leaf 3: loop 179 [some (.inr (.inr 66)), some (.inl r1)] st=[] h=y1 
        have jn : jAt L i = -1 := by rcases jt with ⟨z, _⟩ | ⟨z, _⟩ | ⟨z, _⟩ | ⟨_, _, _, z⟩ <;> omega
        exact J179 _ r1 jn R1 g2 S1
      · skip
        -- leaf 4: loop 96 [some (.inr (.inr 66)), some (.inl r1)] st=[] h=y1 
        have jn : jAt L i = 3 := by rcases jt with ⟨z, _⟩ | ⟨z, _⟩ | ⟨_, z⟩ | ⟨_, _, z, _⟩ <;> omega
        exact J96 _ r1 (by rw [if_neg c2, if_neg c3]; exact jn) (by omega) R1 g2 S1

