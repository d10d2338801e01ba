/-! THE TEST's parts, the class's side -/
def TL (L : List Tok) : Prop := L.length ≤ 701 ∧ (∀ i, i < L.length → tokB (tk L i)) ∧ ∀ i, i < L.length → (tk L i).1 ≠ 0 → i + 1 < L.length
theorem LexA.tl {T : Int → Int} {n : Int} {L : List Tok} (O : TxO T n) (X : LexA T n L) : TL L := by
  have X0 := X
  obtain ⟨D, e, P, l7, _⟩ := X
  have el : L.length = D.length + 1 := by rw [e, List.length_append]; rfl
  refine ⟨by omega, fun i hi => X0.b O hi, fun i hi nz => ?_⟩
  apply Decidable.byContradiction
  intro z
  have hd : i = D.length := by omega
  apply nz
  rw [hd, e]
  show ((D ++ [((0 : Int), n, n, (0 : Int))]).getD D.length (0, 0, 0, 0)).1 = 0
  rw [List.getD_eq_getElem?_getD, List.getElem?_append_right (Nat.le_refl _), Nat.sub_self]; rfl
def PrX (h : PH) (P : List Int) : Prop := gv h 11 13 = P.length ∧ ∀ (i : Nat) x, P[i]? = some x → gv h 15 i = x
def ppA (a i : Int) : Bool := decide ((a = 11 ∧ (1 ≤ i ∧ i ≤ 7 ∨ i = 13)) ∨ a = 15)
theorem avA_ppA : ∀ a i, ppA a i = false → avA a i = false := fun a i => dw (by omega)
theorem TkH.pp {h h' : PH} {L : List Tok} (X : TkH h L) (k : Keep ppA h h') : TkH h' L := ⟨(k.1 16 2 rfl).trans X.1, fun j t hj => (k.1 17 j rfl).trans (X.2 j t hj)⟩
theorem PrX.av {h h' : PH} {P : List Int} (X : PrX h P) (k : Keep avA h h') : PrX h' P := ⟨(k.1 11 13 rfl).trans X.1, fun j t hj => (k.1 15 j rfl).trans (X.2 j t hj)⟩
theorem PrX.emit {h : PH} {P : List Int} (X : PrX h P) {x w : Int} (e : w = P.length) : PrX (sv (sv h 15 w x) 11 13 (w + 1)) (P ++ [x]) := by
  refine ⟨by rw [sv_eq, List.length_append, e]; rfl, fun i y hy => ?_⟩
  rw [sv_ne (by decide)]
  rcases snoc_get hy with ⟨j1, j2⟩ | ⟨j1, j2⟩
  · rw [sv_nf (by omega)]; exact X.2 i y j2
  · rw [j1, ← e, sv_eq, j2]
/-- how a call of the reader ends -/
def EndX (h' : PH) (L : List Tok) (P : List Int) (r : Rs) (x : Int) : Prop := match r with
  | .inl (j, c) => x = 1 ∧ CurX h' L j ∧ PrX h' (P ++ c.map tcf)
  | .inr (k, p) => x = 0 ∧ gv h' 11 6 = k ∧ gv h' 11 7 = p
theorem EndX.no {h' : PH} {L : List Tok} {P : List Int} {r : Rs} {x : Int} (e : EndX h' L P r x) (z : x = 0) : ∃ k p, r = bdR k p ∧ gv h' 11 6 = k ∧ gv h' 11 7 = p := by
  rcases r with ⟨j, c⟩ | ⟨k, p⟩
  · have : x = 1 := e.1
    omega
  · exact ⟨k, p, rfl, e.2⟩
theorem EndX.yes {h' : PH} {L : List Tok} {P : List Int} {r : Rs} {x : Int} (e : EndX h' L P r x) (z : x ≠ 0) : ∃ j c, r = okR j c ∧ CurX h' L j ∧ PrX h' (P ++ c.map tcf) := by
  rcases r with ⟨j, c⟩ | ⟨k, p⟩
  · exact ⟨j, c, rfl, e.2⟩
  · exact absurd e.1 z
theorem EndX.r01 {h' : PH} {L : List Tok} {P : List Int} {r : Rs} {x : Int} (e : EndX h' L P r x) : x = 0 ∨ x = 1 := by
  rcases r with ⟨j, c⟩ | ⟨k, p⟩
  · exact Or.inr e.1
  · exact Or.inl e.1
theorem ppA_ppA : ∀ a i, ppA a i = false → ppA a i = false := fun _ _ z => z
theorem ppA_b : ∀ a i, (128 : Int) ≤ a → ppA a i = false := fun a i h => decide_eq_false (by omega)
abbrev WX := Nat → Int → PH → PQ → Prop
def ClX (L : List Tok) (W : WX) (cst : Nat → Nat) (m i : Nat) : Prop := ∀ (dd u o : Nat) (h : PH) (q : PQ) (P : List Int), o + u = 6 → cst u ≤ dd → Shape h → TkH h L → CurX h L i → PrX h P → P.length ≤ i →
  (∀ x h', (Keep ppA h h' ∧ ∃ r, Dv L m [] o i r ∧ EndX h' L P r x) → Shape h' → q (some (.inl x)) h') → W dd o h q
def Wpart : WX := fun dd o h q => Wp dd 0 0 M_X2_part 0 [some (.inr (.inr 11)), some (.inl o), none] [] h q
def Wsum : WX := fun dd o h q => Wp dd 0 0 M_X2_sum 0 [some (.inr (.inr 11)), some (.inl o), none, none] [] h q
def Wcomp : WX := fun dd o h q => Wp dd 0 0 M_X2_comparison 0 [some (.inr (.inr 11)), some (.inl o), none] [] h q
def Wfact : WX := fun dd o h q => Wp dd 0 0 M_X2_fact 0 [some (.inr (.inr 11)), some (.inl o), none] [] h q
def Wboth : WX := fun dd o h q => Wp dd 0 0 M_X2_both 0 [some (.inr (.inr 11)), some (.inl o), none] [] h q
def Wtest : WX := fun dd o h q => Wp dd 0 0 M_X2_test 0 [some (.inr (.inr 11)), some (.inl o), none] [] h q
theorem fcd_in (v : Int) : fcd v = -1 ∨ fcd v = 4 ∨ fcd v = 5 ∨ fcd v = 6 ∨ fcd v = 7 := by unfold fcd; (repeat' split) <;> omega
def fgW (v : Int) : Int := if fcd v = -1 then -1 else tcf (fcd v)
theorem x_figureNamed {d : Nat} {h : PH} {q : PQ} (_S : Shape h) (v : Int) (K : q (some (.inl (fgW v))) h) : Wp (d + 1) 0 0 M_X2_figureNamed 0 [some (.inl v)] [] h q := by
  refine p_iload 1 rfl rfl rfl ?_
  refine p_swt rfl ?_
  refine ⟨fun c1 => ?_, fun c1 => ?_⟩
  · show Wp (d + 1) 0 0 M_X2_figureNamed 53 [some (.inl v)] [] h _
    refine p_const 55 rfl rfl ?_
    refine p_iret rfl rfl ?_
    -- leaf 1: answer [.inl (-5)] h=h 
    subst_vars; exact K
  · have c1_0 := c1
    refine ⟨fun c1 => ?_, fun c1 => ?_⟩
    · show Wp (d + 1) 0 0 M_X2_figureNamed 47 [some (.inl v)] [] h _
      refine p_const 49 rfl rfl ?_
      refine p_iret rfl rfl ?_
      -- leaf 2: answer [.inl (-3)] h=h 
      subst_vars; exact K
    · have c1_1 := c1
      refine ⟨fun c1 => ?_, fun c1 => ?_⟩
      · show Wp (d + 1) 0 0 M_X2_figureNamed 44 [some (.inl v)] [] h _
        refine p_const 46 rfl rfl ?_
        refine p_iret rfl rfl ?_
        -- leaf 3: answer [.inl (-2)] h=h 
        subst_vars; exact K
      · have c1_2 := c1
        refine ⟨fun c1 => ?_, fun c1 => ?_⟩
        · show Wp (d + 1) 0 0 M_X2_figureNamed 50 [some (.inl v)] [] h _
          refine p_const 52 rfl rfl ?_
          refine p_iret rfl rfl ?_
          -- leaf 4: answer [.inl (-4)] h=h 
          subst_vars; exact K
        · have c1_3 := c1
          show Wp (d + 1) 0 0 M_X2_figureNamed 56 [some (.inl v)] [] h _
          refine p_const 57 rfl rfl ?_
          refine p_iret rfl rfl ?_
          -- leaf 5: answer [.inl (-1)] h=h 
          have e : fcd v = -1 := by unfold fcd; rw [if_neg (by omega), if_neg (by omega), if_neg (by omega), if_neg (by omega)]
          unfold fgW at K
          rw [if_pos e] at K; exact K
def emA (a i : Int) : Bool := decide ((a = 11 ∧ i = 13) ∨ a = 15)
theorem emA_ppA : ∀ a i, ppA a i = false → emA a i = false := fun a i => dw (by omega)
theorem x_emit {d : Nat} {h : PH} {q : PQ} (S : Shape h) (x : Int) {P : List Int} (X : PrX h P) (l7 : P.length < 700) (K : ∀ h', (Keep emA h h' ∧ PrX h' (P ++ [x])) → Shape h' → q none h') : Wp (d + 1) 0 0 M_X2_emit 0 [some (.inr (.inr 11)), some (.inl x)] [] h q := by
  have hp := X.1
  refine p_aload 1 rfl rfl rfl ?_
  refine p_getfi (j := 13) (z := (P.length : Int)) 4 rfl rfl rfl (tg_11 S) rfl hp ?_
  refine p_aload 5 rfl rfl rfl ?_
  refine p_getfr (j := 12) (z := 15) 8 rfl rfl rfl (tg_11 S) rfl (fi_11_12 S) ?_
  refine p_alen (w := 700) 9 rfl rfl (by rw [(tg_15 S)]; decide) (ln_15 S) ?_
  refine p_ic_ge 12 32 rfl rfl rfl (fun c1 => ?_) (fun c1 => ?_)
  · skip
    refine p_ret rfl rfl ?_
    -- leaf 1: answer [] h=h 
    exfalso; omega
  · skip
    refine p_aload 13 rfl rfl rfl ?_
    refine p_getfr (j := 12) (z := 15) 16 rfl rfl rfl (tg_11 S) rfl (fi_11_12 S) ?_
    refine p_aload 17 rfl rfl rfl ?_
    refine p_getfi (j := 13) (z := (P.length : Int)) 20 rfl rfl rfl (tg_11 S) rfl hp ?_
    refine p_iload 21 rfl rfl rfl ?_
    refine p_iast (w := 700) 22 rfl rfl (by decide) (tg_15 S) (ln_15 S) (by omega) (by omega) ?_
    refine p_nmh (fun y2 e2 => ?_)
    have S2 : Shape y2 := by rw [e2]; exact S.svA fa_15 _ _
    refine p_aload 23 rfl rfl rfl ?_
    refine p_dup 24 rfl rfl nl_r ?_
    refine p_getfi (j := 13) (z := (P.length : Int)) 27 rfl rfl rfl (tg_11 S2) rfl (by rw [e2, sv_ne (by decide)]; exact hp) ?_
    refine p_const 28 rfl rfl ?_
    refine p_iadd (z := (P.length : Int) + 1) 29 rfl rfl (w32_id ⟨(by omega), (by omega)⟩) ?_
    refine p_putfi (j := 13) 32 rfl rfl rfl (fun z => absurd z (by decide)) (tg_11 S2) rfl ?_
    refine p_nmh (fun y3 e3 => ?_)
    have S3 : Shape y3 := by rw [e3]; exact S2.svF ff_11_13 _
    refine p_ret rfl rfl ?_
    -- leaf 2: answer [] h=y3 e3,e2
    refine K _ ⟨by rw [e3, e2]; exact ((Keep.rf _ _).sv rfl _).sv rfl _, ?_⟩ S3
    rw [e3, e2]; exact X.emit rfl
def tsA (a i : Int) : Bool := decide (a = 11 ∧ 1 ≤ i ∧ i ≤ 7)
theorem tsA_ppA : ∀ a i, ppA a i = false → tsA a i = false := fun a i => dw (by omega)
theorem avA_tsA : ∀ a i, tsA a i = false → avA a i = false := fun a i => dw (by omega)
theorem tsA_b : ∀ a i, (128 : Int) ≤ a → tsA a i = false := fun a i h => decide_eq_false (by omega)
theorem PrX.ts {h h' : PH} {P : List Int} (X : PrX h P) (k : Keep tsA h h') : PrX h' P := ⟨(k.1 11 13 rfl).trans X.1, fun j t hj => (k.1 15 j rfl).trans (X.2 j t hj)⟩
theorem TkH.ts {h h' : PH} {L : List Tok} (X : TkH h L) (k : Keep tsA h h') : TkH h' L := X.pp (k.wide tsA_ppA)
theorem x_takeSign {d : Nat} {h : PH} {q : PQ} (S : Shape h) (c : Int) {L : List Tok} {i : Nat} (B : TL L) (X : TkH h L) (C : CurX h L i)
    (K : ∀ x h', (Keep tsA h h' ∧ ((x = 1 ∧ isSg L i c ∧ CurX h' L (i + 1)) ∨ (x = 0 ∧ ¬ isSg L i c ∧ gv h' 11 6 = 1 ∧ gv h' 11 7 = (tk L i).2.1))) → Shape h' → q (some (.inl x)) h') :
    Wp (d + 2) 0 0 M_X2_takeSign 0 [some (.inr (.inr 11)), some (.inl c)] [] h q := by
  obtain ⟨c0, g1, g2, g3, g4, g5, g6, g7⟩ := C
  have nx := B.2.2 i c0
  have k0 := Keep.rf tsA h
  have bad : ∀ (h' : PH), ¬ isSg L i c → Keep tsA h h' → gv h' 11 6 = 1 → gv h' 11 7 = (tk L i).2.1 → Shape h' → q (some (.inl 0)) h' := fun h' n kp a b S' => K 0 h' ⟨kp, Or.inr ⟨rfl, n, a, b⟩⟩ S'
  refine p_aload 1 rfl rfl rfl ?_
  refine p_iload 2 rfl rfl rfl ?_
  refine p_callv (le := [some (.inr (.inr 11)), some (.inl c)]) (as := [.inr (.inr 11), .inl c]) (rest := []) 5 0 0 0 0 rfl rfl (Nat.le_of_ble_eq_true rfl) rfl (Nat.le_of_ble_eq_true rfl) rfl rfl (Nat.le_of_ble_eq_true rfl) rfl (Nat.le_of_ble_eq_true rfl) rfl (Nat.le_refl _) (Nat.le_refl _) rfl rfl (tg_11 S) ?_
  refine p_aload 1 rfl rfl rfl ?_
  refine p_getfi (j := 2) (z := (tk L i).1) 4 rfl rfl rfl (tg_11 S) rfl g2 ?_
  refine p_const 5 rfl rfl ?_
  refine p_ic_ne 8 20 rfl rfl rfl (fun c1 => ?_) (fun c1 => ?_)
  · skip
    refine p_const 21 rfl rfl ?_
    refine p_zret rfl rfl (by decide) ?_
    show Wp (d + 2) 0 0 M_X2_takeSign 5 [some (.inr (.inr 11)), some (.inl c)] [.inl 0] h _
    refine p_if_ne_f 8 rfl rfl (by decide) ?_
    refine p_aload 9 rfl rfl rfl ?_
    refine p_const 10 rfl rfl ?_
    refine p_aload 11 rfl rfl rfl ?_
    refine p_getfi (j := 3) (z := (tk L i).2.1) 14 rfl rfl rfl (tg_11 S) rfl g3 ?_
    refine p_callv (le := [some (.inr (.inr 11)), some (.inl 1), some (.inl ((tk L i).2.1))]) (as := [.inr (.inr 11), .inl 1, .inl ((tk L i).2.1)]) (rest := []) 17 0 0 0 0 rfl rfl (Nat.le_of_ble_eq_true rfl) rfl (Nat.le_of_ble_eq_true rfl) rfl rfl (Nat.le_of_ble_eq_true rfl) rfl (Nat.le_of_ble_eq_true rfl) rfl (Nat.le_refl _) (Nat.le_refl _) rfl rfl (tg_11 S) ?_
    refine p_aload 1 rfl rfl rfl ?_
    refine p_iload 2 rfl rfl rfl ?_
    refine p_putfi (j := 6) 5 rfl rfl rfl (fun z => absurd z (by decide)) (tg_11 S) rfl ?_
    refine p_nmh (fun y2 e2 => ?_)
    have S2 : Shape y2 := by rw [e2]; exact S.svF ff_11_6 _
    have kp2 : Keep tsA h y2 := by rw [e2]; exact k0.sv rfl _
    refine p_aload 6 rfl rfl rfl ?_
    refine p_iload 7 rfl rfl rfl ?_
    refine p_putfi (j := 7) 10 rfl rfl rfl (fun z => absurd z (by decide)) (tg_11 S2) rfl ?_
    refine p_nmh (fun y3 e3 => ?_)
    have S3 : Shape y3 := by rw [e3]; exact S2.svF ff_11_7 _
    have kp3 : Keep tsA h y3 := by rw [e3]; exact kp2.sv rfl _
    refine p_const 11 rfl rfl ?_
    refine p_zret rfl rfl (by decide) ?_
    show Wp (d + 2) 0 0 M_X2_takeSign 17 [some (.inr (.inr 11)), some (.inl c)] [.inl 0] y3 _
    refine p_zret rfl rfl (by decide) ?_
    -- leaf 1: answer [.inl 0] h=y3 e3,e2 kp3
    exact bad _ (fun z => c1 z.1) kp3 (by rw [e3, sv_nf (by decide), e2, sv_eq]) (by rw [e3, sv_eq]) S3
  · skip
    refine p_aload 9 rfl rfl rfl ?_
    refine p_getfi (j := 5) (z := (tk L i).2.2.2) 12 rfl rfl rfl (tg_11 S) rfl g5 ?_
    refine p_iload 13 rfl rfl rfl ?_
    refine p_ic_ne 16 20 rfl rfl rfl (fun c4 => ?_) (fun c4 => ?_)
    · skip
      refine p_const 21 rfl rfl ?_
      refine p_zret rfl rfl (by decide) ?_
      show Wp (d + 2) 0 0 M_X2_takeSign 5 [some (.inr (.inr 11)), some (.inl c)] [.inl 0] h _
      refine p_if_ne_f 8 rfl rfl (by decide) ?_
      refine p_aload 9 rfl rfl rfl ?_
      refine p_const 10 rfl rfl ?_
      refine p_aload 11 rfl rfl rfl ?_
      refine p_getfi (j := 3) (z := (tk L i).2.1) 14 rfl rfl rfl (tg_11 S) rfl g3 ?_
      refine p_callv (le := [some (.inr (.inr 11)), some (.inl 1), some (.inl ((tk L i).2.1))]) (as := [.inr (.inr 11), .inl 1, .inl ((tk L i).2.1)]) (rest := []) 17 0 0 0 0 rfl rfl (Nat.le_of_ble_eq_true rfl) rfl (Nat.le_of_ble_eq_true rfl) rfl rfl (Nat.le_of_ble_eq_true rfl) rfl (Nat.le_of_ble_eq_true rfl) rfl (Nat.le_refl _) (Nat.le_refl _) rfl rfl (tg_11 S) ?_
      refine p_aload 1 rfl rfl rfl ?_
      refine p_iload 2 rfl rfl rfl ?_
      refine p_putfi (j := 6) 5 rfl rfl rfl (fun z => absurd z (by decide)) (tg_11 S) rfl ?_
      refine p_nmh (fun y5 e5 => ?_)
      have S5 : Shape y5 := by rw [e5]; exact S.svF ff_11_6 _
      have kp5 : Keep tsA h y5 := by rw [e5]; exact k0.sv rfl _
      refine p_aload 6 rfl rfl rfl ?_
      refine p_iload 7 rfl rfl rfl ?_
      refine p_putfi (j := 7) 10 rfl rfl rfl (fun z => absurd z (by decide)) (tg_11 S5) rfl ?_
      refine p_nmh (fun y6 e6 => ?_)
      have S6 : Shape y6 := by rw [e6]; exact S5.svF ff_11_7 _
      have kp6 : Keep tsA h y6 := by rw [e6]; exact kp5.sv rfl _
      refine p_const 11 rfl rfl ?_
      refine p_zret rfl rfl (by decide) ?_
      show Wp (d + 2) 0 0 M_X2_takeSign 17 [some (.inr (.inr 11)), some (.inl c)] [.inl 0] y6 _
      refine p_zret rfl rfl (by decide) ?_
      -- leaf 2: answer [.inl 0] h=y6 e6,e5 kp6
      exact bad _ (fun z => c4 z.2) kp6 (by rw [e6, sv_nf (by decide), e5, sv_eq]) (by rw [e6, sv_eq]) S6
    · skip
      refine p_const 17 rfl rfl ?_
      refine p_goto 21 rfl rfl ?_
      refine p_zret rfl rfl (by decide) ?_
      show Wp (d + 2) 0 0 M_X2_takeSign 5 [some (.inr (.inr 11)), some (.inl c)] [.inl 1] h _
      refine p_if_ne_t 18 rfl rfl (by decide) ?_
      refine p_aload 19 rfl rfl rfl ?_
      have nx1 : i + 1 < L.length := nx (by omega)
      have g1' : gv h 11 1 = ((i + 1 : Nat) : Int) := by omega
      refine p_callv (le := [some (.inr (.inr 11)), none, none]) (as := [.inr (.inr 11)]) (rest := []) 22 0 0 0 0 rfl rfl (Nat.le_of_ble_eq_true rfl) rfl (Nat.le_of_ble_eq_true rfl) rfl rfl (Nat.le_of_ble_eq_true rfl) rfl (Nat.le_of_ble_eq_true rfl) rfl (Nat.le_refl _) (Nat.le_refl _) rfl rfl (tg_11 S) ?_
      refine x_advance S X (B.2.1 _ nx1) B.1 nx1 g1' g6 g7 (fun y7 p7 S7 => ?_)
      have kp7 : Keep tsA h y7 := k0.trans (p7.1.wide avA_tsA)
      show Wp (d + 2) 0 0 M_X2_takeSign 22 [some (.inr (.inr 11)), some (.inl c)] [] y7 _
      refine p_const 23 rfl rfl ?_
      refine p_zret rfl rfl (by decide) ?_
      -- leaf 3: answer [.inl 1] h=y7  kp7
      exact K 1 _ ⟨kp7, Or.inl ⟨rfl, ⟨by omega, by omega⟩, p7.2⟩⟩ S7
theorem x_takeWord {d : Nat} {h : PH} {q : PQ} (S : Shape h) (c : Int) {L : List Tok} {i : Nat} (B : TL L) (X : TkH h L) (C : CurX h L i)
    (K : ∀ x h', (Keep tsA h h' ∧ ((x = 1 ∧ isWd L i c ∧ CurX h' L (i + 1)) ∨ (x = 0 ∧ ¬ isWd L i c ∧ gv h' 11 6 = 1 ∧ gv h' 11 7 = (tk L i).2.1))) → Shape h' → q (some (.inl x)) h') :
    Wp (d + 2) 0 0 M_X2_takeWord 0 [some (.inr (.inr 11)), some (.inl c)] [] h q := by
  obtain ⟨c0, g1, g2, g3, g4, g5, g6, g7⟩ := C
  have nx := B.2.2 i c0
  have k0 := Keep.rf tsA h
  have bad : ∀ (h' : PH), ¬ isWd L i c → Keep tsA h h' → gv h' 11 6 = 1 → gv h' 11 7 = (tk L i).2.1 → Shape h' → q (some (.inl 0)) h' := fun h' n kp a b S' => K 0 h' ⟨kp, Or.inr ⟨rfl, n, a, b⟩⟩ S'
  refine p_aload 1 rfl rfl rfl ?_
  refine p_iload 2 rfl rfl rfl ?_
  refine p_callv (le := [some (.inr (.inr 11)), some (.inl c)]) (as := [.inr (.inr 11), .inl c]) (rest := []) 5 0 0 0 0 rfl rfl (Nat.le_of_ble_eq_true rfl) rfl (Nat.le_of_ble_eq_true rfl) rfl rfl (Nat.le_of_ble_eq_true rfl) rfl (Nat.le_of_ble_eq_true rfl) rfl (Nat.le_refl _) (Nat.le_refl _) rfl rfl (tg_11 S) ?_
  refine p_aload 1 rfl rfl rfl ?_
  refine p_getfi (j := 2) (z := (tk L i).1) 4 rfl rfl rfl (tg_11 S) rfl g2 ?_
  refine p_const 5 rfl rfl ?_
  refine p_ic_ne 8 20 rfl rfl rfl (fun c1 => ?_) (fun c1 => ?_)
  · skip
    refine p_const 21 rfl rfl ?_
    refine p_zret rfl rfl (by decide) ?_
    show Wp (d + 2) 0 0 M_X2_takeWord 5 [some (.inr (.inr 11)), some (.inl c)] [.inl 0] h _
    refine p_if_ne_f 8 rfl rfl (by decide) ?_
    refine p_aload 9 rfl rfl rfl ?_
    refine p_const 10 rfl rfl ?_
    refine p_aload 11 rfl rfl rfl ?_
    refine p_getfi (j := 3) (z := (tk L i).2.1) 14 rfl rfl rfl (tg_11 S) rfl g3 ?_
    refine p_callv (le := [some (.inr (.inr 11)), some (.inl 1), some (.inl ((tk L i).2.1))]) (as := [.inr (.inr 11), .inl 1, .inl ((tk L i).2.1)]) (rest := []) 17 0 0 0 0 rfl rfl (Nat.le_of_ble_eq_true rfl) rfl (Nat.le_of_ble_eq_true rfl) rfl rfl (Nat.le_of_ble_eq_true rfl) rfl (Nat.le_of_ble_eq_true rfl) rfl (Nat.le_refl _) (Nat.le_refl _) rfl rfl (tg_11 S) ?_
    refine p_aload 1 rfl rfl rfl ?_
    refine p_iload 2 rfl rfl rfl ?_
    refine p_putfi (j := 6) 5 rfl rfl rfl (fun z => absurd z (by decide)) (tg_11 S) rfl ?_
    refine p_nmh (fun y2 e2 => ?_)
    have S2 : Shape y2 := by rw [e2]; exact S.svF ff_11_6 _
    have kp2 : Keep tsA h y2 := by rw [e2]; exact k0.sv rfl _
    refine p_aload 6 rfl rfl rfl ?_
    refine p_iload 7 rfl rfl rfl ?_
    refine p_putfi (j := 7) 10 rfl rfl rfl (fun z => absurd z (by decide)) (tg_11 S2) rfl ?_
    refine p_nmh (fun y3 e3 => ?_)
    have S3 : Shape y3 := by rw [e3]; exact S2.svF ff_11_7 _
    have kp3 : Keep tsA h y3 := by rw [e3]; exact kp2.sv rfl _
    refine p_const 11 rfl rfl ?_
    refine p_zret rfl rfl (by decide) ?_
    show Wp (d + 2) 0 0 M_X2_takeWord 17 [some (.inr (.inr 11)), some (.inl c)] [.inl 0] y3 _
    refine p_zret rfl rfl (by decide) ?_
    -- leaf 1: answer [.inl 0] h=y3 e3,e2 kp3
    exact bad _ (fun z => c1 z.1) kp3 (by rw [e3, sv_nf (by decide), e2, sv_eq]) (by rw [e3, sv_eq]) S3
  · skip
    refine p_aload 9 rfl rfl rfl ?_
    refine p_getfi (j := 5) (z := (tk L i).2.2.2) 12 rfl rfl rfl (tg_11 S) rfl g5 ?_
    refine p_iload 13 rfl rfl rfl ?_
    refine p_ic_ne 16 20 rfl rfl rfl (fun c4 => ?_) (fun c4 => ?_)
    · skip
      refine p_const 21 rfl rfl ?_
      refine p_zret rfl rfl (by decide) ?_
      show Wp (d + 2) 0 0 M_X2_takeWord 5 [some (.inr (.inr 11)), some (.inl c)] [.inl 0] h _
      refine p_if_ne_f 8 rfl rfl (by decide) ?_
      refine p_aload 9 rfl rfl rfl ?_
      refine p_const 10 rfl rfl ?_
      refine p_aload 11 rfl rfl rfl ?_
      refine p_getfi (j := 3) (z := (tk L i).2.1) 14 rfl rfl rfl (tg_11 S) rfl g3 ?_
      refine p_callv (le := [some (.inr (.inr 11)), some (.inl 1), some (.inl ((tk L i).2.1))]) (as := [.inr (.inr 11), .inl 1, .inl ((tk L i).2.1)]) (rest := []) 17 0 0 0 0 rfl rfl (Nat.le_of_ble_eq_true rfl) rfl (Nat.le_of_ble_eq_true rfl) rfl rfl (Nat.le_of_ble_eq_true rfl) rfl (Nat.le_of_ble_eq_true rfl) rfl (Nat.le_refl _) (Nat.le_refl _) rfl rfl (tg_11 S) ?_
      refine p_aload 1 rfl rfl rfl ?_
      refine p_iload 2 rfl rfl rfl ?_
      refine p_putfi (j := 6) 5 rfl rfl rfl (fun z => absurd z (by decide)) (tg_11 S) rfl ?_
      refine p_nmh (fun y5 e5 => ?_)
      have S5 : Shape y5 := by rw [e5]; exact S.svF ff_11_6 _
      have kp5 : Keep tsA h y5 := by rw [e5]; exact k0.sv rfl _
      refine p_aload 6 rfl rfl rfl ?_
      refine p_iload 7 rfl rfl rfl ?_
      refine p_putfi (j := 7) 10 rfl rfl rfl (fun z => absurd z (by decide)) (tg_11 S5) rfl ?_
      refine p_nmh (fun y6 e6 => ?_)
      have S6 : Shape y6 := by rw [e6]; exact S5.svF ff_11_7 _
      have kp6 : Keep tsA h y6 := by rw [e6]; exact kp5.sv rfl _
      refine p_const 11 rfl rfl ?_
      refine p_zret rfl rfl (by decide) ?_
      show Wp (d + 2) 0 0 M_X2_takeWord 17 [some (.inr (.inr 11)), some (.inl c)] [.inl 0] y6 _
      refine p_zret rfl rfl (by decide) ?_
      -- leaf 2: answer [.inl 0] h=y6 e6,e5 kp6
      exact bad _ (fun z => c4 z.2) kp6 (by rw [e6, sv_nf (by decide), e5, sv_eq]) (by rw [e6, sv_eq]) S6
    · skip
      refine p_const 17 rfl rfl ?_
      refine p_goto 21 rfl rfl ?_
      refine p_zret rfl rfl (by decide) ?_
      show Wp (d + 2) 0 0 M_X2_takeWord 5 [some (.inr (.inr 11)), some (.inl c)] [.inl 1] h _
      refine p_if_ne_t 18 rfl rfl (by decide) ?_
      refine p_aload 19 rfl rfl rfl ?_
      have nx1 : i + 1 < L.length := nx (by omega)
      have g1' : gv h 11 1 = ((i + 1 : Nat) : Int) := by omega
      refine p_callv (le := [some (.inr (.inr 11)), none, none]) (as := [.inr (.inr 11)]) (rest := []) 22 0 0 0 0 rfl rfl (Nat.le_of_ble_eq_true rfl) rfl (Nat.le_of_ble_eq_true rfl) rfl rfl (Nat.le_of_ble_eq_true rfl) rfl (Nat.le_of_ble_eq_true rfl) rfl (Nat.le_refl _) (Nat.le_refl _) rfl rfl (tg_11 S) ?_
      refine x_advance S X (B.2.1 _ nx1) B.1 nx1 g1' g6 g7 (fun y7 p7 S7 => ?_)
      have kp7 : Keep tsA h y7 := k0.trans (p7.1.wide avA_tsA)
      show Wp (d + 2) 0 0 M_X2_takeWord 22 [some (.inr (.inr 11)), some (.inl c)] [] y7 _
      refine p_const 23 rfl rfl ?_
      refine p_zret rfl rfl (by decide) ?_
      -- leaf 3: answer [.inl 1] h=y7  kp7
      exact K 1 _ ⟨kp7, Or.inl ⟨rfl, ⟨by omega, by omega⟩, p7.2⟩⟩ S7
theorem takeSignX {dd : Nat} (h2 : 2 ≤ dd) {h : PH} {q : PQ} (S : Shape h) (c : Int) {L : List Tok} {i : Nat} (B : TL L) (X : TkH h L) (C : CurX h L i)
    (K : ∀ x h', (Keep tsA h h' ∧ ((x = 1 ∧ isSg L i c ∧ CurX h' L (i + 1)) ∨ (x = 0 ∧ ¬ isSg L i c ∧ gv h' 11 6 = 1 ∧ gv h' 11 7 = (tk L i).2.1))) → Shape h' → q (some (.inl x)) h') :
    Wp dd 0 0 M_X2_takeSign 0 [some (.inr (.inr 11)), some (.inl c)] [] h q := by
  obtain ⟨e, rfl⟩ : ∃ e, dd = e + 2 := ⟨dd - 2, by omega⟩
  exact x_takeSign S c B X C K
theorem takeWordX {dd : Nat} (h2 : 2 ≤ dd) {h : PH} {q : PQ} (S : Shape h) (c : Int) {L : List Tok} {i : Nat} (B : TL L) (X : TkH h L) (C : CurX h L i)
    (K : ∀ x h', (Keep tsA h h' ∧ ((x = 1 ∧ isWd L i c ∧ CurX h' L (i + 1)) ∨ (x = 0 ∧ ¬ isWd L i c ∧ gv h' 11 6 = 1 ∧ gv h' 11 7 = (tk L i).2.1))) → Shape h' → q (some (.inl x)) h') :
    Wp dd 0 0 M_X2_takeWord 0 [some (.inr (.inr 11)), some (.inl c)] [] h q := by
  obtain ⟨e, rfl⟩ : ∃ e, dd = e + 2 := ⟨dd - 2, by omega⟩
  exact x_takeWord S c B X C K
theorem partX {L : List Tok} {i : Nat} (B : TL L) (IH : ∀ i', i < i' → ClX L Wsum (fun u => 2 * u + 3) 1 i') : ClX L Wpart (fun u => 2 * u + 2) 0 i := by
  intro dd u o h q P ou hd S X C Y pl K
  show Wp dd 0 0 M_X2_part 0 [some (.inr (.inr 11)), some (.inl o), none] [] h q
  have hd : 2 * u + 2 ≤ dd := hd
  obtain ⟨e, rfl⟩ : ∃ e, dd = e + 2 := ⟨dd - 2, by omega⟩
  obtain ⟨c0, g1, g2, g3, g4, g5, g6, g7⟩ := C
  have hp := Y.1
  have tb := B.2.1 i c0
  obtain ⟨tb1, tb2, tb3, tb4⟩ := tb
  have k0 := Keep.rf ppA h
  have l7 := B.1
  have nx := B.2.2 i c0
  have bad : ∀ (k p : Int) (h' : PH), Keep ppA h h' → gv h' 11 6 = k → gv h' 11 7 = p → Dv L 0 [] o i (bdR k p) → Shape h' → q (some (.inl 0)) h' := fun k p h' kp a b dv S' => K 0 h' ⟨kp, bdR k p, dv, rfl, a, b⟩ S'
  have J88 : ∀ (f : Int), ¬ isSg L i 40 → (f = -1 ∧ fAt L i = -1) ∨ (f ≠ -1 ∧ fAt L i ≠ -1 ∧ f = tcf (fAt L i)) → -10 ≤ f → f < 1073741824 → Wp (e + 2) 0 0 M_X2_part 88 [some (.inr (.inr 11)), some (.inl o), none] [.inl f] h q := by
    intro f ns hf f0 f1
    refine p_istore (ls' := [some (.inr (.inr 11)), some (.inl (o : Int)), some (.inl f)]) 89 rfl rfl (Nat.le_of_ble_eq_true rfl) rfl ?_
    refine p_iload 90 rfl rfl rfl ?_
    refine p_const 91 rfl rfl ?_
    refine p_ic_ne 94 104 rfl rfl rfl (fun c1 => ?_) (fun c1 => ?_)
    · skip
      have fa : fAt L i ≠ -1 ∧ f = tcf (fAt L i) := by rcases hf with ⟨z, _⟩ | ⟨_, z⟩; exact absurd z c1; exact z
      have kn : (tk L i).1 ≠ 0 := by
        have z := fa.1
        unfold fAt at z
        intro y; rw [y, if_neg (by decide), if_neg (by decide)] at z; exact z rfl
      have nx1 : i + 1 < L.length := nx kn
      have p7 : P.length < 700 := by omega
      refine p_aload 105 rfl rfl rfl ?_
      refine p_getfi (j := 2) (z := (tk L i).1) 108 rfl rfl rfl (tg_11 S) rfl g2 ?_
      refine p_const 109 rfl rfl ?_
      refine p_ic_ne 112 137 rfl rfl rfl (fun c2 => ?_) (fun c2 => ?_)
      · skip
        refine p_aload 138 rfl rfl rfl ?_
        refine p_iload 139 rfl rfl rfl ?_
        refine p_callv (le := [some (.inr (.inr 11)), some (.inl f)]) (as := [.inr (.inr 11), .inl f]) (rest := []) 142 0 0 0 0 rfl rfl (Nat.le_of_ble_eq_true rfl) rfl (Nat.le_of_ble_eq_true rfl) rfl rfl (Nat.le_of_ble_eq_true rfl) rfl (Nat.le_of_ble_eq_true rfl) rfl (Nat.le_refl _) (Nat.le_refl _) rfl rfl (tg_11 S) ?_
        refine x_emit S f Y p7 (fun y3 p3 S3 => ?_)
        have kp3 : Keep ppA h y3 := k0.trans (p3.1.wide emA_ppA)
        show Wp (e + 2) 0 0 M_X2_part 142 [some (.inr (.inr 11)), some (.inl (o : Int)), some (.inl f)] [] y3 _
        refine p_aload 143 rfl rfl rfl ?_
        have g1' : gv y3 11 1 = ((i + 1 : Nat) : Int) := by rw [p3.1.1 11 1 rfl]; omega
        have g6' := (p3.1.1 11 6 rfl).trans g6
        have g7' := (p3.1.1 11 7 rfl).trans g7
        refine p_callv (le := [some (.inr (.inr 11)), none, none]) (as := [.inr (.inr 11)]) (rest := []) 146 0 0 0 0 rfl rfl (Nat.le_of_ble_eq_true rfl) rfl (Nat.le_of_ble_eq_true rfl) rfl rfl (Nat.le_of_ble_eq_true rfl) rfl (Nat.le_of_ble_eq_true rfl) rfl (Nat.le_refl _) (Nat.le_refl _) rfl rfl (tg_11 S3) ?_
        refine x_advance S3 (X.pp kp3) (B.2.1 _ nx1) l7 nx1 g1' g6' g7' (fun y4 p4 S4 => ?_)
        have kp4 : Keep ppA h y4 := kp3.trans (p4.1.wide avA_ppA)
        show Wp (e + 2) 0 0 M_X2_part 146 [some (.inr (.inr 11)), some (.inl (o : Int)), some (.inl f)] [] y4 _
        refine p_const 147 rfl rfl ?_
        refine p_zret rfl rfl (by decide) ?_
        -- leaf 1: answer [.inl 1] h=y4  kp4
        exact K 1 _ ⟨kp4, _, Dv.pFig ns fa.1 (fun z => c2 z.1), rfl, p4.2, by show PrX _ (P ++ [tcf (fAt L i)]); rw [← fa.2]; exact p3.2.av p4.1⟩ S4
      · skip
        refine p_aload 113 rfl rfl rfl ?_
        refine p_getfi (j := 4) (z := (tk L i).2.2.1) 116 rfl rfl rfl (tg_11 S) rfl g4 ?_
        refine p_aload 117 rfl rfl rfl ?_
        refine p_getfi (j := 3) (z := (tk L i).2.1) 120 rfl rfl rfl (tg_11 S) rfl g3 ?_
        refine p_isub (z := ((tk L i).2.2.1) - ((tk L i).2.1)) 121 rfl rfl (w32_id ⟨(by omega), (by omega)⟩) ?_
        refine p_const 122 rfl rfl ?_
        refine p_ic_le 125 137 rfl rfl rfl (fun c5 => ?_) (fun c5 => ?_)
        · skip
          refine p_aload 138 rfl rfl rfl ?_
          refine p_iload 139 rfl rfl rfl ?_
          refine p_callv (le := [some (.inr (.inr 11)), some (.inl f)]) (as := [.inr (.inr 11), .inl f]) (rest := []) 142 0 0 0 0 rfl rfl (Nat.le_of_ble_eq_true rfl) rfl (Nat.le_of_ble_eq_true rfl) rfl rfl (Nat.le_of_ble_eq_true rfl) rfl (Nat.le_of_ble_eq_true rfl) rfl (Nat.le_refl _) (Nat.le_refl _) rfl rfl (tg_11 S) ?_
          refine x_emit S f Y p7 (fun y6 p6 S6 => ?_)
          have kp6 : Keep ppA h y6 := k0.trans (p6.1.wide emA_ppA)
          show Wp (e + 2) 0 0 M_X2_part 142 [some (.inr (.inr 11)), some (.inl (o : Int)), some (.inl f)] [] y6 _
          refine p_aload 143 rfl rfl rfl ?_
          have g1' : gv y6 11 1 = ((i + 1 : Nat) : Int) := by rw [p6.1.1 11 1 rfl]; omega
          have g6' := (p6.1.1 11 6 rfl).trans g6
          have g7' := (p6.1.1 11 7 rfl).trans g7
          refine p_callv (le := [some (.inr (.inr 11)), none, none]) (as := [.inr (.inr 11)]) (rest := []) 146 0 0 0 0 rfl rfl (Nat.le_of_ble_eq_true rfl) rfl (Nat.le_of_ble_eq_true rfl) rfl rfl (Nat.le_of_ble_eq_true rfl) rfl (Nat.le_of_ble_eq_true rfl) rfl (Nat.le_refl _) (Nat.le_refl _) rfl rfl (tg_11 S6) ?_
          refine x_advance S6 (X.pp kp6) (B.2.1 _ nx1) l7 nx1 g1' g6' g7' (fun y7 p7 S7 => ?_)
          have kp7 : Keep ppA h y7 := kp6.trans (p7.1.wide avA_ppA)
          show Wp (e + 2) 0 0 M_X2_part 146 [some (.inr (.inr 11)), some (.inl (o : Int)), some (.inl f)] [] y7 _
          refine p_const 147 rfl rfl ?_
          refine p_zret rfl rfl (by decide) ?_
          -- leaf 2: answer [.inl 1] h=y7  kp7
          exact K 1 _ ⟨kp7, _, Dv.pFig ns fa.1 (fun z => by have := z.2; omega), rfl, p7.2, by show PrX _ (P ++ [tcf (fAt L i)]); rw [← fa.2]; exact p6.2.av p7.1⟩ S7
        · skip
          refine p_aload 126 rfl rfl rfl ?_
          refine p_const 127 rfl rfl ?_
          refine p_aload 128 rfl rfl rfl ?_
          refine p_getfi (j := 3) (z := (tk L i).2.1) 131 rfl rfl rfl (tg_11 S) rfl g3 ?_
          refine p_const 132 rfl rfl ?_
          refine p_iadd (z := ((tk L i).2.1) + 4) 133 rfl rfl (w32_id ⟨(by omega), (by omega)⟩) ?_
          refine p_callv (le := [some (.inr (.inr 11)), some (.inl 1), some (.inl (((tk L i).2.1) + 4))]) (as := [.inr (.inr 11), .inl 1, .inl (((tk L i).2.1) + 4)]) (rest := []) 136 0 0 0 0 rfl rfl (Nat.le_of_ble_eq_true rfl) rfl (Nat.le_of_ble_eq_true rfl) rfl rfl (Nat.le_of_ble_eq_true rfl) rfl (Nat.le_of_ble_eq_true rfl) rfl (Nat.le_refl _) (Nat.le_refl _) rfl rfl (tg_11 S) ?_
          refine p_aload 1 rfl rfl rfl ?_
          refine p_iload 2 rfl rfl rfl ?_
          refine p_putfi (j := 6) 5 rfl rfl rfl (fun z => absurd z (by decide)) (tg_11 S) rfl ?_
          refine p_nmh (fun y8 e8 => ?_)
          have S8 : Shape y8 := by rw [e8]; exact S.svF ff_11_6 _
          have kp8 : Keep ppA h y8 := by rw [e8]; exact k0.sv rfl _
          refine p_aload 6 rfl rfl rfl ?_
          refine p_iload 7 rfl rfl rfl ?_
          refine p_putfi (j := 7) 10 rfl rfl rfl (fun z => absurd z (by decide)) (tg_11 S8) rfl ?_
          refine p_nmh (fun y9 e9 => ?_)
          have S9 : Shape y9 := by rw [e9]; exact S8.svF ff_11_7 _
          have kp9 : Keep ppA h y9 := by rw [e9]; exact kp8.sv rfl _
          refine p_const 11 rfl rfl ?_
          refine p_zret rfl rfl (by decide) ?_
          show Wp (e + 2) 0 0 M_X2_part 136 [some (.inr (.inr 11)), some (.inl (o : Int)), some (.inl f)] [.inl 0] y9 _
          refine p_zret rfl rfl (by decide) ?_
          -- leaf 3: answer [.inl 0] h=y9 e9,e8 kp9
          exact bad 1 ((tk L i).2.1 + 4) _ kp9 (by rw [e9, sv_nf (by decide), e8, sv_eq]) (by rw [e9, sv_eq]) (Dv.pLong ns fa.1 (by omega) (by omega)) S9
    · skip
      refine p_aload 95 rfl rfl rfl ?_
      refine p_const 96 rfl rfl ?_
      refine p_aload 97 rfl rfl rfl ?_
      refine p_getfi (j := 3) (z := (tk L i).2.1) 100 rfl rfl rfl (tg_11 S) rfl g3 ?_
      refine p_callv (le := [some (.inr (.inr 11)), some (.inl 1), some (.inl ((tk L i).2.1))]) (as := [.inr (.inr 11), .inl 1, .inl ((tk L i).2.1)]) (rest := []) 103 0 0 0 0 rfl rfl (Nat.le_of_ble_eq_true rfl) rfl (Nat.le_of_ble_eq_true rfl) rfl rfl (Nat.le_of_ble_eq_true rfl) rfl (Nat.le_of_ble_eq_true rfl) rfl (Nat.le_refl _) (Nat.le_refl _) rfl rfl (tg_11 S) ?_
      refine p_aload 1 rfl rfl rfl ?_
      refine p_iload 2 rfl rfl rfl ?_
      refine p_putfi (j := 6) 5 rfl rfl rfl (fun z => absurd z (by decide)) (tg_11 S) rfl ?_
      refine p_nmh (fun y10 e10 => ?_)
      have S10 : Shape y10 := by rw [e10]; exact S.svF ff_11_6 _
      have kp10 : Keep ppA h y10 := by rw [e10]; exact k0.sv rfl _
      refine p_aload 6 rfl rfl rfl ?_
      refine p_iload 7 rfl rfl rfl ?_
      refine p_putfi (j := 7) 10 rfl rfl rfl (fun z => absurd z (by decide)) (tg_11 S10) rfl ?_
      refine p_nmh (fun y11 e11 => ?_)
      have S11 : Shape y11 := by rw [e11]; exact S10.svF ff_11_7 _
      have kp11 : Keep ppA h y11 := by rw [e11]; exact kp10.sv rfl _
      refine p_const 11 rfl rfl ?_
      refine p_zret rfl rfl (by decide) ?_
      show Wp (e + 2) 0 0 M_X2_part 103 [some (.inr (.inr 11)), some (.inl (o : Int)), some (.inl f)] [.inl 0] y11 _
      refine p_zret rfl rfl (by decide) ?_
      -- leaf 4: answer [.inl 0] h=y11 e11,e10 kp11
      exact bad 1 (tk L i).2.1 _ kp11 (by rw [e11, sv_nf (by decide), e10, sv_eq]) (by rw [e11, sv_eq]) (Dv.pNone ns (by rcases hf with ⟨_, z⟩ | ⟨z, _⟩; exact z; exact absurd (by omega) z)) S11
  have J54 : ¬ isSg L i 40 → Wp (e + 2) 0 0 M_X2_part 54 [some (.inr (.inr 11)), some (.inl o), none] [] h q := by
    intro ns
    refine p_aload 55 rfl rfl rfl ?_
    refine p_getfi (j := 2) (z := (tk L i).1) 58 rfl rfl rfl (tg_11 S) rfl g2 ?_
    refine p_const 59 rfl rfl ?_
    refine p_ic_ne 62 69 rfl rfl rfl (fun c1 => ?_) (fun c1 => ?_)
    · skip
      refine p_aload 70 rfl rfl rfl ?_
      refine p_getfi (j := 2) (z := (tk L i).1) 73 rfl rfl rfl (tg_11 S) rfl g2 ?_
      refine p_const 74 rfl rfl ?_
      refine p_ic_ne 77 87 rfl rfl rfl (fun c2 => ?_) (fun c2 => ?_)
      · skip
        refine p_const 88 rfl rfl ?_
        -- leaf 1: loop 88 [some (.inr (.inr 11)), some (.inl (o : Int)), none] st=[.inl (-1)] h=h 
        exact J88 (-1) ns (Or.inl ⟨rfl, by unfold fAt; rw [if_neg (by omega), if_neg (by omega)]⟩) (by decide) (by decide)
      · skip
        refine p_aload 78 rfl rfl rfl ?_
        refine p_getfi (j := 5) (z := (tk L i).2.2.2) 81 rfl rfl rfl (tg_11 S) rfl g5 ?_
        refine p_calls (le := [some (.inl ((tk L i).2.2.2))]) (as := [.inl ((tk L i).2.2.2)]) (rest := []) 84 0 0 0 0 rfl rfl (Nat.le_of_ble_eq_true rfl) rfl (Nat.le_of_ble_eq_true rfl) rfl rfl (Nat.le_of_ble_eq_true rfl) rfl (Nat.le_of_ble_eq_true rfl) rfl (Nat.le_refl _) (Nat.le_refl _) rfl rfl ?_
        refine x_figureNamed S ((tk L i).2.2.2) ?_
        show Wp (e + 2) 0 0 M_X2_part 84 [some (.inr (.inr 11)), some (.inl (o : Int)), none] [.inl (fgW ((tk L i).2.2.2))] h _
        refine p_goto 88 rfl rfl ?_
        -- leaf 2: loop 88 [some (.inr (.inr 11)), some (.inl (o : Int)), none] st=[.inl (fgW ((tk L i).2.2.2))] h=h 
        have fe : fAt L i = fcd (tk L i).2.2.2 := by unfold fAt; rw [if_neg (by omega), if_pos (by omega)]
        have fw : ∀ v, (fcd v = -1 ∧ fgW v = -1) ∨ (fcd v ≠ -1 ∧ fgW v = tcf (fcd v) ∧ -10 ≤ fgW v ∧ fgW v < -1) := fun v => by
          unfold fgW
          rcases fcd_in v with z | z | z | z | z <;> rw [z] <;> decide
        rcases fw (tk L i).2.2.2 with ⟨z, y⟩ | ⟨z, y, y1, y2⟩
        · exact J88 _ ns (Or.inl ⟨y, by rw [fe, z]⟩) (by omega) (by omega)
        · exact J88 _ ns (Or.inr ⟨by omega, by rw [fe]; exact z, by rw [fe]; exact y⟩) y1 (by omega)
    · skip
      refine p_aload 63 rfl rfl rfl ?_
      refine p_getfi (j := 5) (z := (tk L i).2.2.2) 66 rfl rfl rfl (tg_11 S) rfl g5 ?_
      refine p_goto 88 rfl rfl ?_
      -- leaf 3: loop 88 [some (.inr (.inr 11)), some (.inl (o : Int)), none] st=[.inl ((tk L i).2.2.2)] h=h 
      have fe : fAt L i = 1000 + (tk L i).2.2.2 := by unfold fAt; rw [if_pos (by omega)]
      exact J88 _ ns (Or.inr ⟨by omega, by omega, by rw [fe]; unfold tcf; rw [if_pos (by omega)]; omega⟩) (by omega) (by omega)
  refine p_aload 1 rfl rfl rfl ?_
  refine p_const 3 rfl rfl ?_
  refine p_callv (le := [some (.inr (.inr 11)), some (.inl 40)]) (as := [.inr (.inr 11), .inl 40]) (rest := []) 6 0 0 0 0 rfl rfl (Nat.le_of_ble_eq_true rfl) rfl (Nat.le_of_ble_eq_true rfl) rfl rfl (Nat.le_of_ble_eq_true rfl) rfl (Nat.le_of_ble_eq_true rfl) rfl (Nat.le_refl _) (Nat.le_refl _) rfl rfl (tg_11 S) ?_
  refine p_aload 1 rfl rfl rfl ?_
  refine p_getfi (j := 2) (z := (tk L i).1) 4 rfl rfl rfl (tg_11 S) rfl g2 ?_
  refine p_const 5 rfl rfl ?_
  refine p_ic_ne 8 20 rfl rfl rfl (fun c1 => ?_) (fun c1 => ?_)
  · skip
    refine p_const 21 rfl rfl ?_
    refine p_zret rfl rfl (by decide) ?_
    show Wp (e + 2) 0 0 M_X2_part 6 [some (.inr (.inr 11)), some (.inl (o : Int)), none] [.inl 0] h _
    refine p_if_eq_t 54 rfl rfl (by decide) ?_
    -- leaf 1: loop 54 [some (.inr (.inr 11)), some (.inl (o : Int)), none] st=[] h=h  k0
    exact J54 (fun z => c1 z.1)
  · skip
    refine p_aload 9 rfl rfl rfl ?_
    refine p_getfi (j := 5) (z := (tk L i).2.2.2) 12 rfl rfl rfl (tg_11 S) rfl g5 ?_
    refine p_iload 13 rfl rfl rfl ?_
    refine p_ic_ne 16 20 rfl rfl rfl (fun c2 => ?_) (fun c2 => ?_)
    · skip
      refine p_const 21 rfl rfl ?_
      refine p_zret rfl rfl (by decide) ?_
      show Wp (e + 2) 0 0 M_X2_part 6 [some (.inr (.inr 11)), some (.inl (o : Int)), none] [.inl 0] h _
      refine p_if_eq_t 54 rfl rfl (by decide) ?_
      -- leaf 2: loop 54 [some (.inr (.inr 11)), some (.inl (o : Int)), none] st=[] h=h  k0
      exact J54 (fun z => c2 z.2)
    · skip
      refine p_const 17 rfl rfl ?_
      refine p_goto 21 rfl rfl ?_
      refine p_zret rfl rfl (by decide) ?_
      show Wp (e + 2) 0 0 M_X2_part 6 [some (.inr (.inr 11)), some (.inl (o : Int)), none] [.inl 1] h _
      refine p_if_eq_f 9 rfl rfl (by decide) ?_
      refine p_iload 10 rfl rfl rfl ?_
      refine p_const 12 rfl rfl ?_
      refine p_ic_lt 15 25 rfl rfl rfl (fun c3 => ?_) (fun c3 => ?_)
      · skip
        refine p_aload 26 rfl rfl rfl ?_
        have nx1 : i + 1 < L.length := nx (by omega)
        have g1' : gv h 11 1 = ((i + 1 : Nat) : Int) := by omega
        have g6' := g6
        have g7' := g7
        refine p_callv (le := [some (.inr (.inr 11)), none, none]) (as := [.inr (.inr 11)]) (rest := []) 29 0 0 0 0 rfl rfl (Nat.le_of_ble_eq_true rfl) rfl (Nat.le_of_ble_eq_true rfl) rfl rfl (Nat.le_of_ble_eq_true rfl) rfl (Nat.le_of_ble_eq_true rfl) rfl (Nat.le_refl _) (Nat.le_refl _) rfl rfl (tg_11 S) ?_
        refine x_advance S (X.pp k0) (B.2.1 _ nx1) l7 nx1 g1' g6' g7' (fun y4 p4 S4 => ?_)
        have kp4 : Keep ppA h y4 := k0.trans (p4.1.wide avA_ppA)
        show Wp (e + 2) 0 0 M_X2_part 29 [some (.inr (.inr 11)), some (.inl (o : Int)), none] [] y4 _
        refine p_aload 30 rfl rfl rfl ?_
        refine p_iload 31 rfl rfl rfl ?_
        refine p_const 32 rfl rfl ?_
        refine p_iadd (z := (o : Int) + 1) 33 rfl rfl (w32_id ⟨(by omega), (by omega)⟩) ?_
        refine p_callv (le := [some (.inr (.inr 11)), some (.inl ((o : Int) + 1)), none, none]) (as := [.inr (.inr 11), .inl ((o : Int) + 1)]) (rest := []) 36 0 0 0 0 rfl rfl (Nat.le_of_ble_eq_true rfl) rfl (Nat.le_of_ble_eq_true rfl) rfl rfl (Nat.le_of_ble_eq_true rfl) rfl (Nat.le_of_ble_eq_true rfl) rfl (Nat.le_refl _) (Nat.le_refl _) rfl rfl (tg_11 S4) ?_
        refine IH (i + 1) (Nat.lt_succ_self i) (e + 1) (u - 1) (o + 1) _ _ P (by omega) (by show 2 * (u - 1) + 3 ≤ e + 1; omega) S4 (X.pp kp4) p4.2 (Y.av p4.1) (by omega) (fun r5 y5 p5 S5 => ?_)
        have kp5 : Keep ppA h y5 := kp4.trans p5.1
        show Wp (e + 2) 0 0 M_X2_part 36 [some (.inr (.inr 11)), some (.inl (o : Int)), none] [.inl r5] y5 _
        refine p_if_eq 39 52 rfl rfl rfl (fun c6 => ?_) (fun c6 => ?_)
        · skip
          refine p_const 53 rfl rfl ?_
          refine p_zret rfl rfl (by decide) ?_
          -- leaf 3: answer [.inl 0] h=y5  kp5
          obtain ⟨k5, r, dv, en⟩ := p5
          obtain ⟨k, p, er, a, b⟩ := en.no c6
          subst er
          exact bad k p _ kp5 a b (Dv.pIn ⟨by omega, by omega⟩ (by omega) dv) S5
        · skip
          refine p_aload 40 rfl rfl rfl ?_
          refine p_const 42 rfl rfl ?_
          obtain ⟨k5, r, dv, en⟩ := p5
          obtain ⟨j, c, er, C5, Y5⟩ := en.yes c6
          subst er
          refine p_callv (le := [some (.inr (.inr 11)), some (.inl 41)]) (as := [.inr (.inr 11), .inl 41]) (rest := []) 45 0 0 0 0 rfl rfl (Nat.le_of_ble_eq_true rfl) rfl (Nat.le_of_ble_eq_true rfl) rfl rfl (Nat.le_of_ble_eq_true rfl) rfl (Nat.le_of_ble_eq_true rfl) rfl (Nat.le_refl _) (Nat.le_refl _) rfl rfl (tg_11 S5) ?_
          refine takeSignX (by omega) S5 41 B (X.pp kp5) C5 (fun r7 y7 p7 S7 => ?_)
          have kp7 : Keep ppA h y7 := kp5.trans (p7.1.wide tsA_ppA)
          show Wp (e + 2) 0 0 M_X2_part 45 [some (.inr (.inr 11)), some (.inl (o : Int)), none] [.inl r7] y7 _
          refine p_if_eq 48 52 rfl rfl rfl (fun c8 => ?_) (fun c8 => ?_)
          · skip
            refine p_const 53 rfl rfl ?_
            refine p_zret rfl rfl (by decide) ?_
            -- leaf 4: answer [.inl 0] h=y7  kp7
            rcases p7.2 with ⟨z, _⟩ | ⟨_, n, a, b⟩
            · omega
            · exact bad _ _ _ kp7 a b (Dv.pNot ⟨by omega, by omega⟩ (by omega) dv n) S7
          · skip
            refine p_const 49 rfl rfl ?_
            refine p_goto 53 rfl rfl ?_
            refine p_zret rfl rfl (by decide) ?_
            -- leaf 5: answer [.inl 1] h=y7  kp7
            rcases p7.2 with ⟨_, n, C7⟩ | ⟨z, _⟩
            · exact K 1 _ ⟨kp7, _, Dv.pOpen ⟨by omega, by omega⟩ (by omega) dv n, rfl, C7, Y5.ts p7.1⟩ S7
            · omega
      · skip
        refine p_aload 16 rfl rfl rfl ?_
        refine p_const 17 rfl rfl ?_
        refine p_aload 18 rfl rfl rfl ?_
        refine p_getfi (j := 3) (z := (tk L i).2.1) 21 rfl rfl rfl (tg_11 S) rfl g3 ?_
        refine p_callv (le := [some (.inr (.inr 11)), some (.inl 3), some (.inl ((tk L i).2.1))]) (as := [.inr (.inr 11), .inl 3, .inl ((tk L i).2.1)]) (rest := []) 24 0 0 0 0 rfl rfl (Nat.le_of_ble_eq_true rfl) rfl (Nat.le_of_ble_eq_true rfl) rfl rfl (Nat.le_of_ble_eq_true rfl) rfl (Nat.le_of_ble_eq_true rfl) rfl (Nat.le_refl _) (Nat.le_refl _) rfl rfl (tg_11 S) ?_
        refine p_aload 1 rfl rfl rfl ?_
        refine p_iload 2 rfl rfl rfl ?_
        refine p_putfi (j := 6) 5 rfl rfl rfl (fun z => absurd z (by decide)) (tg_11 S) rfl ?_
        refine p_nmh (fun y9 e9 => ?_)
        have S9 : Shape y9 := by rw [e9]; exact S.svF ff_11_6 _
        have kp9 : Keep ppA h y9 := by rw [e9]; exact k0.sv rfl _
        refine p_aload 6 rfl rfl rfl ?_
        refine p_iload 7 rfl rfl rfl ?_
        refine p_putfi (j := 7) 10 rfl rfl rfl (fun z => absurd z (by decide)) (tg_11 S9) rfl ?_
        refine p_nmh (fun y10 e10 => ?_)
        have S10 : Shape y10 := by rw [e10]; exact S9.svF ff_11_7 _
        have kp10 : Keep ppA h y10 := by rw [e10]; exact kp9.sv rfl _
        refine p_const 11 rfl rfl ?_
        refine p_zret rfl rfl (by decide) ?_
        show Wp (e + 2) 0 0 M_X2_part 24 [some (.inr (.inr 11)), some (.inl (o : Int)), none] [.inl 0] y10 _
        refine p_zret rfl rfl (by decide) ?_
        -- leaf 6: answer [.inl 0] h=y10 e10,e9 kp10
        exact bad _ _ _ kp10 (by rw [e10, sv_nf (by decide), e9, sv_eq]) (by rw [e10, sv_eq]) (Dv.pDeep ⟨by omega, by omega⟩ (by omega)) S10

