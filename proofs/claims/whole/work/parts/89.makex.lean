/-! THE BOOK's statements, the class's side -/
def OkB (L : List Tok) : List Sns → List Sns → Nat → Prop
  | [], _, i => (tk L i).1 = 0
  | s :: r, G, i => (tk L i).1 ≠ 0 ∧ G.length < 40 ∧ ∃ j, StOk L G i j s ∧ OkB L r (G ++ [s]) j
def BadB (L : List Tok) (k p : Int) : List Sns → List Sns → Nat → Prop
  | [], G, i => (tk L i).1 ≠ 0 ∧ ((G.length = 40 ∧ k = 4 ∧ p = (tk L i).2.1) ∨ (G.length < 40 ∧ StBad L G i k p))
  | s :: r, G, i => (tk L i).1 ≠ 0 ∧ G.length < 40 ∧ ∃ j, StOk L G i j s ∧ BadB L k p r (G ++ [s]) j
def mkbA (a i : Int) : Bool := decide ((a = 11 ∧ (1 ≤ i ∧ i ≤ 8 ∨ i = 13)) ∨ (12 ≤ a ∧ a ≤ 15) ∨ (a = 16 ∧ (i = 2 ∨ i = 3 ∨ i = 4)) ∨ a = 17)
theorem stX_mkbA : ∀ a i, mkbA a i = false → stX a i = false := fun a i => dw (by omega)
theorem adT_mkbA : ∀ a i, mkbA a i = false → adT a i = false := fun a i => dw (by omega)
theorem avA_mkbA : ∀ a i, mkbA a i = false → avA a i = false := fun a i => dw (by omega)
theorem mkbA_b : ∀ a i, (128 : Int) ≤ a → mkbA a i = false := fun a i h => decide_eq_false (by omega)
theorem mkbA_bkB : ∀ a i, bkB a i = false → mkbA a i = false := fun a i => dw (by omega)
theorem x_makeBook {d rc rs : Nat} {h : PH} {q : PQ} (S : Shape h) {T : Int → Int} {n : Int} (O : TxO T n) (Y : TxX h T n)
    (KB : ∀ h', (Keep mkbA h h' ∧ ∃ L k p, LexA T n L ∧ (∃ R, BadB L k p R [] 0) ∧ gv h' 11 6 = k ∧ gv h' 11 7 = p) → Shape h' → q (some (.inr (.inr 0))) h')
    (KO : ∀ (h' : PH) (L : List Tok) (G : List Sns) (w : Int), Keep mkbA h h' → LexA T n L → OkB L G [] 0 → SnX h' G → PrX h' ((prgG G).map tcf) → gv h' 11 6 = 0 → gv h' 11 7 = -1 → G.length ≤ 40 → (prgG G).length ≤ 700 → Shape h' → Wp (d + 31) rc rs M_X2_makeBook 84 [some (.inr (.inr 11)), some (.inl w)] [] h' q) :
    Wp (d + 31) rc rs M_X2_makeBook 0 [some (.inr (.inr 11)), none] [] h q := by
  have k0 := Keep.rf mkbA h
  have J38 : ∀ (L : List Tok), LexA T n L → ∀ (c i : Nat) (G : List Sns) (h1 : PH), 41 - G.length ≤ c → G.length ≤ 40 → (prgG G).length ≤ i → Shape h1 → Keep mkbA h h1 → TkH h1 L → CurX h1 L i → SnX h1 G → PrX h1 ((prgG G).map tcf) → (∀ r, OkB L r G i → OkB L (G ++ r) [] 0) → (∀ r k p, BadB L k p r G i → BadB L k p (G ++ r) [] 0) →
      Wp (d + 31) rc rs M_X2_makeBook 38 [some (.inr (.inr 11)), some (.inl G.length)] [] h1 q := by
    intro L LX c
    have B := LX.tl O
    have l7 := B.1
    induction c with
    | zero => intro i G h1 hc g40; exfalso; omega
    | succ c ih =>
      intro i G h1 hc g40 pl S1 k1 X C Sn Pr ok bd
      have ci := C.1
      refine p_iload 39 rfl rfl rfl ?_
      refine p_const 41 rfl rfl ?_
      refine p_ic_gt 44 84 rfl rfl rfl (fun c1 => ?_) (fun c1 => ?_)
      · skip
        -- leaf 1: loop 84 [some (.inr (.inr 11)), some (.inl (G.length : Int))] st=[] h=h1  k1
        exfalso; omega
      · skip
        refine p_aload 45 rfl rfl rfl ?_
        refine p_getfi (j := 2) (z := (tk L i).1) 48 rfl rfl rfl (tg_11 S1) rfl C.2.2.1 ?_
        refine p_if_eq 51 84 rfl rfl rfl (fun c2 => ?_) (fun c2 => ?_)
        · skip
          -- leaf 2: loop 84 [some (.inr (.inr 11)), some (.inl (G.length : Int))] st=[] h=h1  k1
          exact KO h1 L G _ k1 LX (by have z := ok [] c2; rw [List.append_nil] at z; exact z) Sn Pr C.2.2.2.2.2.2.1 C.2.2.2.2.2.2.2 g40 (by omega) S1
        · skip
          refine p_iload 52 rfl rfl rfl ?_
          refine p_const 54 rfl rfl ?_
          refine p_ic_ne 57 69 rfl rfl rfl (fun c3 => ?_) (fun c3 => ?_)
          · skip
            refine p_aload 70 rfl rfl rfl ?_
            refine p_callv (le := [some (.inr (.inr 11))]) (as := [.inr (.inr 11)]) (rest := []) 73 0 0 rc rs rfl rfl (Nat.le_of_ble_eq_true rfl) rfl (Nat.le_of_ble_eq_true rfl) rfl rfl (Nat.le_of_ble_eq_true rfl) rfl (Nat.le_of_ble_eq_true rfl) rfl (Nat.zero_le _) (Nat.zero_le _) rfl rfl (tg_11 S1) ?_
            refine x_statement S1 B X C Sn Pr (by omega) pl (fun r4 y4 p4 S4 => ?_)
            have kp4 : Keep mkbA h y4 := k1.trans (p4.1.wide stX_mkbA)
            show Wp (d + 31) rc rs M_X2_makeBook 73 [some (.inr (.inr 11)), some (.inl (G.length : Int))] [.inl r4] y4 _
            refine p_if_ne 76 78 rfl rfl rfl (fun c5 => ?_) (fun c5 => ?_)
            · skip
              refine p_iinc (y := (G.length : Int) + 1) (ls' := [some (.inr (.inr 11)), some (.inl ((G.length : Int) + 1))]) 81 rfl rfl rfl (w32_id ⟨(by omega), (by omega)⟩) rfl ?_
              refine p_goto 38 rfl rfl ?_
              -- leaf 3: loop 38 [some (.inr (.inr 11)), some (.inl ((G.length : Int) + 1))] st=[] h=y4  kp4
              rcases p4.2 with ⟨_, j, s, st, C2, Sn2, Pr2⟩ | ⟨z, _⟩
              · have eg : (G ++ [s]).length = G.length + 1 := by rw [List.length_append]; rfl
                have epg : (prgG (G ++ [s])).length = (prgG G).length + s.2.2.length := by
                  unfold prgG
                  rw [List.flatMap_append, List.length_append]
                  show _ + (s.2.2 ++ []).length = _
                  rw [List.append_nil]
                have sl := st.len
                have z := ih j (G ++ [s]) _ (by omega) (by omega) (by omega) S4 kp4 (X.st p4.1) C2 Sn2 Pr2 (fun r hr => ?_) (fun r k p hr => ?_)
                · rw [eg] at z; exact z
                · have z := ok (s :: r) ⟨c2, by omega, j, st, hr⟩
                  rw [List.append_assoc]; exact z
                · have z := bd (s :: r) k p ⟨c2, by omega, j, st, hr⟩
                  rw [List.append_assoc]; exact z
              · omega
            · skip
              refine p_null 77 rfl rfl ?_
              refine p_aret rfl rfl ?_
              -- leaf 4: answer [.inr (.inr 0)] h=y4  kp4
              rcases p4.2 with ⟨z, _⟩ | ⟨_, k, p, st, a, b⟩
              · omega
              · have z := bd [] k p ⟨c2, Or.inr ⟨by omega, st⟩⟩
                exact KB _ ⟨kp4, L, k, p, LX, ⟨_, z⟩, a, b⟩ S4
          · skip
            refine p_aload 58 rfl rfl rfl ?_
            refine p_const 59 rfl rfl ?_
            refine p_aload 60 rfl rfl rfl ?_
            refine p_getfi (j := 3) (z := (tk L i).2.1) 63 rfl rfl rfl (tg_11 S1) rfl C.2.2.2.1 ?_
            refine p_callv (le := [some (.inr (.inr 11)), some (.inl 4), some (.inl ((tk L i).2.1))]) (as := [.inr (.inr 11), .inl 4, .inl ((tk L i).2.1)]) (rest := []) 66 0 0 rc rs rfl rfl (Nat.le_of_ble_eq_true rfl) rfl (Nat.le_of_ble_eq_true rfl) rfl rfl (Nat.le_of_ble_eq_true rfl) rfl (Nat.le_of_ble_eq_true rfl) rfl (Nat.zero_le _) (Nat.zero_le _) rfl rfl (tg_11 S1) ?_
            refine p_aload 1 rfl rfl rfl ?_
            refine p_iload 2 rfl rfl rfl ?_
            refine p_putfi (j := 6) 5 rfl rfl rfl (fun z => absurd z (by decide)) (tg_11 S1) rfl ?_
            refine p_nmh (fun y6 e6 => ?_)
            have S6 : Shape y6 := by rw [e6]; exact S1.svF ff_11_6 _
            have kp6 : Keep mkbA h y6 := by rw [e6]; exact k1.sv rfl _
            refine p_aload 6 rfl rfl rfl ?_
            refine p_iload 7 rfl rfl rfl ?_
            refine p_putfi (j := 7) 10 rfl rfl rfl (fun z => absurd z (by decide)) (tg_11 S6) rfl ?_
            refine p_nmh (fun y7 e7 => ?_)
            have S7 : Shape y7 := by rw [e7]; exact S6.svF ff_11_7 _
            have kp7 : Keep mkbA h y7 := by rw [e7]; exact kp6.sv rfl _
            refine p_const 11 rfl rfl ?_
            refine p_zret rfl rfl (by decide) ?_
            show Wp (d + 31) rc rs M_X2_makeBook 66 [some (.inr (.inr 11)), some (.inl (G.length : Int))] [.inl 0] y7 _
            refine p_pop 67 rfl rfl nl_i ?_
            refine p_null 68 rfl rfl ?_
            refine p_aret rfl rfl ?_
            -- leaf 5: answer [.inr (.inr 0)] h=y7 e7,e6 kp7
            have z := bd [] 4 (tk L i).2.1 ⟨c2, Or.inl ⟨by omega, rfl, rfl⟩⟩
            exact KB _ ⟨kp7, L, _, _, LX, ⟨_, z⟩, by rw [e7, sv_nf (by decide), e6, sv_eq], by rw [e7, sv_eq]⟩ S7
  refine p_aload 1 rfl rfl rfl ?_
  refine p_const 2 rfl rfl ?_
  refine p_putfi (j := 6) 5 rfl rfl rfl (fun z => absurd z (by decide)) (tg_11 S) rfl ?_
  refine p_nmh (fun y1 e1 => ?_)
  have S1 : Shape y1 := by rw [e1]; exact S.svF ff_11_6 _
  have kp1 : Keep mkbA h y1 := by rw [e1]; exact k0.sv rfl _
  refine p_aload 6 rfl rfl rfl ?_
  refine p_const 7 rfl rfl ?_
  refine p_putfi (j := 7) 10 rfl rfl rfl (fun z => absurd z (by decide)) (tg_11 S1) rfl ?_
  refine p_nmh (fun y2 e2 => ?_)
  have S2 : Shape y2 := by rw [e2]; exact S1.svF ff_11_7 _
  have kp2 : Keep mkbA h y2 := by rw [e2]; exact kp1.sv rfl _
  refine p_aload 11 rfl rfl rfl ?_
  refine p_const 12 rfl rfl ?_
  refine p_putfi (j := 8) 15 rfl rfl rfl (fun z => absurd z (by decide)) (tg_11 S2) rfl ?_
  refine p_nmh (fun y3 e3 => ?_)
  have S3 : Shape y3 := by rw [e3]; exact S2.svF ff_11_8 _
  have kp3 : Keep mkbA h y3 := by rw [e3]; exact kp2.sv rfl _
  refine p_aload 16 rfl rfl rfl ?_
  refine p_const 17 rfl rfl ?_
  refine p_putfi (j := 13) 20 rfl rfl rfl (fun z => absurd z (by decide)) (tg_11 S3) rfl ?_
  refine p_nmh (fun y4 e4 => ?_)
  have S4 : Shape y4 := by rw [e4]; exact S3.svF ff_11_13 _
  have kp4 : Keep mkbA h y4 := by rw [e4]; exact kp3.sv rfl _
  refine p_aload 21 rfl rfl rfl ?_
  refine p_getfr (j := 0) (z := 16) 24 rfl rfl rfl (tg_11 S4) rfl (fi_11_0 S4) ?_
  have YA : TxX y4 T n := Y.kp (kp4.1 3 1 rfl) (fun i => kp4.1 4 i rfl)
  refine p_callv (le := [some (.inr (.inr 16)), none]) (as := [.inr (.inr 16)]) (rest := []) 27 0 0 rc rs rfl rfl (Nat.le_of_ble_eq_true rfl) rfl (Nat.le_of_ble_eq_true rfl) rfl rfl (Nat.le_of_ble_eq_true rfl) rfl (Nat.le_of_ble_eq_true rfl) rfl (Nat.zero_le _) (Nat.zero_le _) rfl rfl (tg_16 S4) ?_
  refine x_cut S4 O YA (fun y5 p5 S5 => ?_)
  have kp5 : Keep mkbA h y5 := kp4.trans (p5.1.wide adT_mkbA)
  show Wp (d + 31) rc rs M_X2_makeBook 27 [some (.inr (.inr 11)), none] [] y5 _
  refine p_aload 28 rfl rfl rfl ?_
  refine p_const 29 rfl rfl ?_
  refine p_putfi (j := 1) 32 rfl rfl rfl (fun z => absurd z (by decide)) (tg_11 S5) rfl ?_
  refine p_nmh (fun y6 e6 => ?_)
  have S6 : Shape y6 := by rw [e6]; exact S5.svF ff_11_1 _
  have kp6 : Keep mkbA h y6 := by rw [e6]; exact kp5.sv rfl _
  refine p_aload 33 rfl rfl rfl ?_
  obtain ⟨k5, L, LX, X5⟩ := p5
  have B := LX.tl O
  have XA : TkH y6 L := X5.of (fun a i z => by rw [e6, sv_ne (by omega)])
  have l0 : 0 < L.length := by obtain ⟨D, eD, _⟩ := LX; rw [eD, List.length_append]; show 0 < D.length + 1; omega
  have g1 : gv y6 11 1 = ((0 : Nat) : Int) := by rw [e6, sv_eq]; rfl
  have g6 : gv y6 11 6 = 0 := by rw [e6, sv_nf (by decide), k5.1 11 6 rfl, e4, sv_nf (by decide), e3, sv_nf (by decide), e2, sv_nf (by decide), e1, sv_eq]
  have g7 : gv y6 11 7 = -1 := by rw [e6, sv_nf (by decide), k5.1 11 7 rfl, e4, sv_nf (by decide), e3, sv_nf (by decide), e2, sv_eq]
  refine p_callv (le := [some (.inr (.inr 11)), none, none]) (as := [.inr (.inr 11)]) (rest := []) 36 0 0 rc rs rfl rfl (Nat.le_of_ble_eq_true rfl) rfl (Nat.le_of_ble_eq_true rfl) rfl rfl (Nat.le_of_ble_eq_true rfl) rfl (Nat.le_of_ble_eq_true rfl) rfl (Nat.zero_le _) (Nat.zero_le _) rfl rfl (tg_11 S6) ?_
  refine x_advance S6 XA (B.2.1 0 l0) B.1 l0 g1 g6 g7 (fun y7 p7 S7 => ?_)
  have kp7 : Keep mkbA h y7 := kp6.trans (p7.1.wide avA_mkbA)
  show Wp (d + 31) rc rs M_X2_makeBook 36 [some (.inr (.inr 11)), none] [] y7 _
  refine p_const 37 rfl rfl ?_
  refine p_istore (ls' := [some (.inr (.inr 11)), some (.inl 0)]) 38 rfl rfl (Nat.le_of_ble_eq_true rfl) rfl ?_
  -- leaf 1: loop 38 [some (.inr (.inr 11)), some (.inl 0)] st=[] h=y7  kp7
  refine J38 L LX 41 0 [] _ (by decide) (by decide) (Nat.le_refl _) S7 kp7 (XA.of (fun a i z => p7.1.1 a i (decide_eq_false (by omega)))) p7.2 ⟨?_, fun i s hs => by cases hs⟩ ⟨?_, fun i s hs => by cases hs⟩ (fun r hr => hr) (fun r k p hr => hr)
  · rw [p7.1.1 11 8 rfl, e6, sv_nf (by decide), k5.1 11 8 rfl, e4, sv_nf (by decide), e3, sv_eq]; rfl
  · rw [p7.1.1 11 13 rfl, e6, sv_nf (by decide), k5.1 11 13 rfl, e4, sv_eq]; rfl

