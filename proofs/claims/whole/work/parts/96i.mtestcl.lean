/-! THE MODEL'S READER: a test, along a derivation -/
section MTST
variable {d : Nat} {h0 : PH} {q : PQ} {T : Int → Int} {n : Int} {L : List Tok}
abbrev qgT (d : Nat) (q : PQ) (c : Int) : PQ := fun r h' => Wp (d + 8) 0 0 M_X12_test 98 [some (.inr (.inr 66)), some (.inl 1), some (.inl c)] (r.toList ++ []) h' q
abbrev WT (d : Nat) (q : PQ) (h : PH) : Prop := ∀ w : Option PV, Wp (d + 8) 0 0 M_X12_test 2 [some (.inr (.inr 66)), some (.inl 1), w] [] h q
abbrev WG (d : Nat) (q : PQ) (h : PH) : Prop := ∀ c : Int, Wp (d + 7) 0 0 M_X12_goesOnTest 0 [some (.inr (.inr 66))] [] h (qgT d q c)
abbrev n16 (k : Nat) : List Int := List.replicate k 16
def endsIn (p : Int → Prop) (V : List Int) : Prop := ∀ W x, V = W ++ [x] → p x
abbrev tF (V : List Int) : Prop := endsIn (fun x => x = 14 ∨ x = 15 ∨ x = 25) V
abbrev tB (V : List Int) : Prop := endsIn (fun x => x = 15 ∨ x = 25) V
abbrev tT (V : List Int) : Prop := endsIn (fun x => x = 25) V
theorem endsIn_snoc {p : Int → Prop} {W : List Int} {x : Int} (h : p x) : endsIn p (W ++ [x]) := fun V y e => by
  have z := (List.append_inj' e rfl).2
  have : x = y := by cases z; rfl
  rw [← this]; exact h
theorem endsIn.no {p : Int → Prop} {V : List Int} (h : endsIn p V) {x : Int} (nx : ¬ p x) : ¬ ∃ W, V = W ++ [x] := fun ⟨W, e⟩ => nx (h W x e)
theorem endsIn.imp {p r : Int → Prop} {V : List Int} (h : endsIn p V) (i : ∀ x, p x → r x) : endsIn r V := fun W x e => i x (h W x e)
theorem n16_snoc (U : List Int) (k : Nat) : U ++ n16 k ++ [16] = U ++ n16 (k + 1) := by
  show U ++ List.replicate k 16 ++ [16] = U ++ List.replicate (k + 1) 16
  rw [List.replicate_succ', List.append_assoc]
theorem noOp_n16 {U : List Int} (t : tF U) : ∀ k : Nat, noOp (U ++ n16 k)
  | 0 => fun V x e => by
    have e : U ++ [] = V ++ [x] := e
    rw [List.append_nil] at e
    have := t V x e
    omega
  | k + 1 => by
    rw [← n16_snoc]
    exact noOp_mark _ (by decide)
def FF (d : Nat) (h0 : PH) (q : PQ) (T : Int → Int) (n : Int) (L : List Tok) (o k : Nat) (U C : List Int) (r : Rs) : Prop := match r with
  | .inl (j, c) => ∀ h', RdM h0 h' T n L j (o - k) 0 U (C ++ c ++ n16 k) → Shape h' → WG d q h'
  | .inr (k, p) => ∀ h', BdT h0 h' k p → Shape h' → q none h'
def FB (d : Nat) (h0 : PH) (q : PQ) (T : Int → Int) (n : Int) (L : List Tok) (o : Nat) (V C : List Int) (r : Rs) : Prop := match r with
  | .inl (j, c) => ∀ h' P D, (∀ x, x ∈ P → x = 14) → D ++ P = C ++ c → ¬ isWd L j 1476 → RdM h0 h' T n L j o 0 (V ++ P.reverse) D → Shape h' → WG d q h'
  | .inr (k, p) => ∀ h', BdT h0 h' k p → Shape h' → q none h'
def FT (d : Nat) (h0 : PH) (q : PQ) (T : Int → Int) (n : Int) (L : List Tok) (o : Nat) (V C : List Int) (r : Rs) : Prop := match r with
  | .inl (j, c) => ∀ h' P D, (∀ x, x ∈ P → x = 14 ∨ x = 15) → D ++ P = C ++ c → ¬ isWd L j 1476 → ¬ isWd L j 498 → RdM h0 h' T n L j o 0 (V ++ P.reverse) D → Shape h' → WG d q h'
  | .inr (k, p) => ∀ h', BdT h0 h' k p → Shape h' → q none h'
def MTs (d : Nat) (h0 : PH) (q : PQ) (T : Int → Int) (n : Int) (L : List Tok) : DR := fun m acc o i r => match m with
  | 0 => Dv L 0 acc o i r
  | 1 => Dv L 1 acc o i r
  | 2 => Dv L 2 acc o i r
  | 3 => C3 L o i r
  | 4 => ∀ h U k C, RdM h0 h T n L i o 0 (U ++ n16 k) C → (prv L i).1 ≠ 3 → tF U → k ≤ o → Shape h → FF d h0 q T n L o k U C r → WT d q h
  | 5 => ∀ h V C, RdM h0 h T n L i o 0 V C → (prv L i).1 ≠ 3 → tB V → Shape h → FB d h0 q T n L o V C r → WT d q h
  | 6 => ∀ h V C P D, (∀ x, x ∈ P → x = 14) → D ++ P = C ++ acc → RdM h0 h T n L i o 0 (V ++ P.reverse) D → tB V → Shape h → FB d h0 q T n L o V C r → WG d q h
  | 7 => ∀ h V C, RdM h0 h T n L i o 0 V C → (prv L i).1 ≠ 3 → tT V → Shape h → FT d h0 q T n L o V C r → WT d q h
  | 8 => ∀ h V C P D, (∀ x, x ∈ P → x = 14 ∨ x = 15) → D ++ P = C ++ acc → ¬ isWd L i 1476 → RdM h0 h T n L i o 0 (V ++ P.reverse) D → tT V → Shape h → FT d h0 q T n L o V C r → WG d q h
  | _ => True
theorem mt_quit {h : PH} {w : Option PV} {m k p : Int} (S : Shape h) (Bd : BdT h0 h k p) (K : q none h) : Wp (d + 8) 0 0 M_X12_test 2 [some (.inr (.inr 66)), some (.inl m), w] [] h q := by
  have b2 := Bd.2.1
  have b3 := Bd.2.2.1
  have J : Wp (d + 8) 0 0 M_X12_test 110 [some (.inr (.inr 66)), some (.inl m), w] [] h q := by
    refine p_aload 111 rfl rfl rfl ?_
    refine p_getfi (j := 5) (z := gv h 66 5) 114 rfl rfl rfl (tg_66 S) rfl rfl ?_
    refine p_if_ne_t 131 rfl rfl (by omega) ?_
    refine p_ret rfl rfl ?_
    -- leaf 1: answer [] h=h 
    exact K
  refine p_iload 3 rfl rfl rfl ?_
  refine p_if_eq 6 110 rfl rfl rfl (fun c1 => ?_) (fun c1 => ?_)
  · skip
    -- leaf 1: loop 110 [some (.inr (.inr 66)), some (.inl m), w] st=[] h=h 
    exact J
  · skip
    refine p_aload 7 rfl rfl rfl ?_
    refine p_getfi (j := 5) (z := gv h 66 5) 10 rfl rfl rfl (tg_66 S) rfl rfl ?_
    refine p_if_ne_t 110 rfl rfl (by omega) ?_
    -- leaf 2: loop 110 [some (.inr (.inr 66)), some (.inl m), w] st=[] h=h 
    exact J
theorem mt_on {h : PH} {c : Int} (S : Shape h) (K : WT d q h) : qgT d q c (some (.inl 1)) h := by
  show Wp (d + 8) 0 0 M_X12_test 98 [some (.inr (.inr 66)), some (.inl 1), some (.inl c)] [.inl 1] h q
  refine p_if_eq_f 101 rfl rfl (by decide) ?_
  refine p_const 102 rfl rfl ?_
  refine p_goto 106 rfl rfl ?_
  refine p_istore (ls' := [some (.inr (.inr 66)), some (.inl 1), some (.inl c)]) 107 rfl rfl (Nat.le_of_ble_eq_true rfl) rfl ?_
  refine p_goto 2 rfl rfl ?_
  -- leaf 1: loop 2 [some (.inr (.inr 66)), some (.inl 1), some (.inl c)] st=[] h=h 
  exact K _
theorem mt_off {h : PH} {c k p : Int} (S : Shape h) (Bd : BdT h0 h k p) (K : q none h) : qgT d q c (some (.inl 0)) h := by
  show Wp (d + 8) 0 0 M_X12_test 98 [some (.inr (.inr 66)), some (.inl 1), some (.inl c)] [.inl 0] h q
  refine p_if_eq_t 105 rfl rfl (by decide) ?_
  refine p_const 106 rfl rfl ?_
  refine p_istore (ls' := [some (.inr (.inr 66)), some (.inl 0), some (.inl c)]) 107 rfl rfl (Nat.le_of_ble_eq_true rfl) rfl ?_
  refine p_goto 2 rfl rfl ?_
  -- leaf 1: loop 2 [some (.inr (.inr 66)), some (.inl 0), some (.inl c)] st=[] h=h 
  exact mt_quit S Bd K
theorem RdM.opn {h h1 y : PH} {i o : Nat} {b v : Int} {V C : List Int} (R : RdM h0 h T n L i o b V C) (ko : Keep opA h h1) (lt : gv h 66 29 < 6) (st : StkM h1 (V ++ [v])) (oe : gv h1 66 29 = gv h 66 29 + 1) (b5 : gv h1 66 5 = 0 ∧ gv h1 66 6 = gv h 66 6) (kt : Keep tkA h1 y) (M : MAt y T n L (i + 1)) : RdM h0 y T n L (i + 1) (o + 1) b (V ++ [v]) C := by
  obtain ⟨r1, ⟨r2, r3⟩, r4, r5, r6, r7, r8, r9, r10, r11⟩ := R
  have kB : Keep rtA h y := (ko.wide opA_rtA).trans (kt.wide tkA_rtA)
  exact ⟨r1.trans kB, ⟨r2.kp (kB.1 66 3 rfl) (fun i => kB.1 67 i rfl), r3.kp kB rtA_wd⟩, M, (kt.1 66 5 rfl).trans b5.1, by rw [kt.1 66 29 rfl, oe, r6]; rfl, by rw [kt.1 66 30 rfl, ko.1 66 30 rfl]; exact r7, st.of (kt.1 66 28 rfl) (fun i => kt.1 85 i rfl), r9.of ((kt.1 66 26 rfl).trans (ko.1 66 26 rfl)) (fun i => (kt.1 84 i rfl).trans (ko.1 84 i rfl)), by rw [List.length_append]; show V.length + 1 + C.length + 4 ≤ i + 1; omega, by omega, ((kt.1 66 6 rfl).trans b5.2).trans r11.2⟩
theorem RdM.opnB {h h1 y : PH} {i o : Nat} {b p : Int} {V C : List Int} (i7 : i ≤ 701) (R : RdM h0 h T n L i o b V C) (ko : Keep opA h h1) (b3 : gv h1 66 5 = 3) (pl : gv h1 66 6 = p) (kt : Keep tkA h1 y) : BdT h0 y 3 p := by
  obtain ⟨r1, ⟨r2, r3⟩, r4, r5, r6, r7, r8, r9, r10, r11⟩ := R
  have c26 : gv y 66 26 = (C.length : Int) := by rw [kt.1 66 26 rfl, ko.1 66 26 rfl]; exact r9.1
  exact ⟨(r1.trans (ko.wide opA_rtA)).trans (kt.wide tkA_rtA), (kt.1 66 5 rfl).trans b3, by decide, (kt.1 66 6 rfl).trans pl, by omega, by omega⟩
theorem mt_head {h : PH} {i o : Nat} {V C : List Int} (O : TxO T n) (LX : LexA T n L) (S : Shape h) (R : RdM h0 h T n L i o 0 V C)
    (K1 : isSg L i 91 → o < 6 → ∀ h', RdM h0 h' T n L (i + 1) (o + 1) 0 (V ++ [25]) C → Shape h' → WT d q h')
    (K2 : isWd L i 14836 → o < 6 → ∀ h', RdM h0 h' T n L (i + 1) (o + 1) 0 (V ++ [16]) C → Shape h' → WT d q h')
    (K3 : isWd L i 14836 ∨ isSg L i 91 → 6 ≤ o → ∀ h', BdT h0 h' 3 (tk L i).2.1 → Shape h' → q none h')
    (K4 : ¬ isSg L i 91 → ¬ isWd L i 14836 → ∀ h' c, RdM h0 h' T n L i o 0 V C → Shape h' → Wp (d + 8) 0 0 M_X12_test 79 [some (.inr (.inr 66)), some (.inl 1), some (.inl c)] [] h' q) : WT d q h := by
  intro w
  have l7 := (LX.tl O).1
  have n7 := O.1
  have B := LX.tl O
  have R0 := R
  obtain ⟨r1, ⟨r2, r3⟩, r4, r5, r6, r7, r8, r9, r10, r11⟩ := R
  have i7 := r4.1
  have TA := LX.tok O i7
  have t2 := TA.2.1
  have sg := TA.sg O plain91.1 plain91.2.1 plain91.2.2.1 plain91.2.2.2
  have goN : ∀ (h1 h2 : PH) (c : Int), isWd L i 14836 → RdM h0 h1 T n L i o 0 V C → (Keep opA h1 h2 ∧ ((gv h1 66 29 < 6 ∧ StkM h2 (V ++ [16]) ∧ gv h2 66 29 = gv h1 66 29 + 1 ∧ gv h2 66 5 = 0 ∧ gv h2 66 6 = gv h1 66 6) ∨ (gv h1 66 29 = 6 ∧ gv h2 66 5 = 3 ∧ gv h2 66 6 = (tk L i).2.1))) → Shape h2 → Wp (d + 7) 0 0 M_X12_asks 0 [some (.inr (.inr 66)), some (.inr (.inr 73))] [] h2 (fun r h' => Wp (d + 8) 0 0 M_X12_test 76 [some (.inr (.inr 66)), some (.inl 1), some (.inl c)] (r.toList ++ []) h' q) := by
    intro h1 h2 c is R1 p S2
    obtain ⟨ko, ⟨lt, st, oe, b5⟩ | ⟨o6, b3, pl⟩⟩ := p
    · have W73 : WdA h2 73 3 (chr [110, 111, 116]) := R1.2.1.2.2.2.2.2.2.1.kp ko (fun i => decide_eq_false (by omega))
      have X2 : TxM h2 T n := R1.2.1.1.kp (ko.1 66 3 rfl) (fun i => ko.1 67 i rfl)
      have M2 : MAt h2 T n L i := R1.2.2.1.of (ko.1 66 2 rfl) (ko.1 66 4 rfl)
      refine m_asksW S2 73 W73 (by decide) O X2 LX M2 b5.1 (fun y p S3 => ?_) (fun y p S3 => ?_)
      · show Wp (d + 8) 0 0 M_X12_test 76 [some (.inr (.inr 66)), some (.inl 1), some (.inl c)] [] y q
        refine p_goto 2 rfl rfl ?_
        exact K2 is (by have := R1.2.2.2.2.1; omega) y (R1.opn ko lt st oe b5 p.1 p.2.2) S3 _
      · exact absurd (by rw [w_not]; exact is) p.2.1
    · refine m_asksB S2 73 (by omega) ?_
      show Wp (d + 8) 0 0 M_X12_test 76 [some (.inr (.inr 66)), some (.inl 1), some (.inl c)] [] h2 q
      refine p_goto 2 rfl rfl ?_
      have Bd : BdT h0 h2 3 (tk L i).2.1 := R1.opnB (by omega) ko b3 pl (Keep.rf _ _)
      exact mt_quit S2 Bd (K3 (Or.inl is) (by have := R1.2.2.2.2.1; omega) h2 Bd S2)
  refine p_iload 3 rfl rfl rfl ?_
  refine p_if_eq_f 6 rfl rfl (by decide) ?_
  refine p_aload 7 rfl rfl rfl ?_
  refine p_getfi (j := 5) (z := gv h 66 5) 10 rfl rfl rfl (tg_66 S) rfl rfl ?_
  refine p_if_ne_f 13 rfl rfl (by omega) ?_
  refine p_aload 14 rfl rfl rfl ?_
  refine p_callv (le := [some (.inr (.inr 66))]) (as := [.inr (.inr 66)]) (rest := []) 17 0 0 0 0 rfl rfl (Nat.le_of_ble_eq_true rfl) rfl (Nat.le_of_ble_eq_true rfl) rfl rfl (Nat.le_of_ble_eq_true rfl) rfl (Nat.le_of_ble_eq_true rfl) rfl (Nat.le_refl _) (Nat.le_refl _) rfl rfl (tg_66 S) ?_
  refine m_lookT S O r2 LX r4 (fun r1 y1 p1 S1 => ?_)
  show Wp (d + 8) 0 0 M_X12_test 17 [some (.inr (.inr 66)), some (.inl 1), w] [.inl r1] y1 _
  refine p_istore (ls' := [some (.inr (.inr 66)), some (.inl 1), some (.inl r1)]) 18 rfl rfl (Nat.le_of_ble_eq_true rfl) rfl ?_
  obtain ⟨kl, re, M2, g2⟩ := p1
  have R1 := R0.tk (kl.wide lukA_tkA) M2 (Nat.le_refl i)
  refine p_iload 19 rfl rfl rfl ?_
  refine p_const 21 rfl rfl ?_
  refine p_ic_ne 24 47 rfl rfl rfl (fun c2 => ?_) (fun c2 => ?_)
  · skip
    refine p_aload 48 rfl rfl rfl ?_
    refine p_aload 49 rfl rfl rfl ?_
    refine p_getfr (j := 14) (z := 73) 52 rfl rfl rfl (tg_66 S1) rfl (fi_66_14 S1) ?_
    refine p_callv (le := [some (.inr (.inr 66)), some (.inr (.inr 73)), none, none]) (as := [.inr (.inr 66), .inr (.inr 73)]) (rest := []) 55 0 0 0 0 rfl rfl (Nat.le_of_ble_eq_true rfl) rfl (Nat.le_of_ble_eq_true rfl) rfl rfl (Nat.le_of_ble_eq_true rfl) rfl (Nat.le_of_ble_eq_true rfl) rfl (Nat.le_refl _) (Nat.le_refl _) rfl rfl (tg_66 S1) ?_
    refine m_isHere S1 73 R1.2.1.2.2.2.2.2.2.1 (by decide) O R1.2.1.1 LX R1.2.2.1 R1.2.2.2.1 (fun y3 p3 S3 => ?_) (fun y3 p3 S3 => ?_)
    · show Wp (d + 8) 0 0 M_X12_test 55 [some (.inr (.inr 66)), some (.inl 1), some (.inl r1)] [.inl 1] y3 _
      have is : isWd L i 14836 := by have z := p3.2.1; rw [w_not] at z; exact z
      have R1 := R1.tk (p3.1.wide lukA_tkA) p3.2.2.2.1 (Nat.le_refl i)
      have g3 := p3.2.2.2.2
      refine p_if_eq_f 58 rfl rfl (by decide) ?_
      refine p_aload 59 rfl rfl rfl ?_
      refine p_const 61 rfl rfl ?_
      refine p_aload 62 rfl rfl rfl ?_
      refine p_getfi (j := 2) (z := gv y3 66 2) 65 rfl rfl rfl (tg_66 S3) rfl rfl ?_
      refine p_callv (le := [some (.inr (.inr 66)), some (.inl 16), some (.inl (gv y3 66 2))]) (as := [.inr (.inr 66), .inl 16, .inl (gv y3 66 2)]) (rest := []) 68 0 0 0 0 rfl rfl (Nat.le_of_ble_eq_true rfl) rfl (Nat.le_of_ble_eq_true rfl) rfl rfl (Nat.le_of_ble_eq_true rfl) rfl (Nat.le_of_ble_eq_true rfl) rfl (Nat.le_refl _) (Nat.le_refl _) rfl rfl (tg_66 S3) ?_
      refine m_opens S3 16 (gv y3 66 2) R1.2.2.2.2.2.2.1 (by omega) R1.2.2.2.1 (by have := R1.2.2.2.2.1; omega) (fun y4 p4 S4 => ?_)
      show Wp (d + 8) 0 0 M_X12_test 68 [some (.inr (.inr 66)), some (.inl 1), some (.inl r1)] [] y4 _
      have pp := p4
      rw [g3] at pp
      refine p_aload 69 rfl rfl rfl ?_
      refine p_aload 70 rfl rfl rfl ?_
      refine p_getfr (j := 14) (z := 73) 73 rfl rfl rfl (tg_66 S4) rfl (fi_66_14 S4) ?_
      refine p_callv (le := [some (.inr (.inr 66)), some (.inr (.inr 73))]) (as := [.inr (.inr 66), .inr (.inr 73)]) (rest := []) 76 0 0 0 0 rfl rfl (Nat.le_of_ble_eq_true rfl) rfl (Nat.le_of_ble_eq_true rfl) rfl rfl (Nat.le_of_ble_eq_true rfl) rfl (Nat.le_of_ble_eq_true rfl) rfl (Nat.le_refl _) (Nat.le_refl _) rfl rfl (tg_66 S4) ?_
      exact goN _ _ r1 is R1 pp S4
    · show Wp (d + 8) 0 0 M_X12_test 55 [some (.inr (.inr 66)), some (.inl 1), some (.inl r1)] [.inl 0] y3 _
      refine p_if_eq_t 79 rfl rfl (by decide) ?_
      -- leaf 1: loop 79 [some (.inr (.inr 66)), some (.inl 1), some (.inl r1)] st=[] h=y3 
      exact K4 (fun z => by have := sg.1 z; omega) (fun z => p3.2.1 (by rw [w_not]; exact z)) _ r1 (R1.tk (p3.1.wide lukA_tkA) p3.2.2.1 (Nat.le_refl i)) S3
  · skip
    refine p_aload 25 rfl rfl rfl ?_
    refine p_const 27 rfl rfl ?_
    refine p_aload 28 rfl rfl rfl ?_
    refine p_getfi (j := 2) (z := gv y1 66 2) 31 rfl rfl rfl (tg_66 S1) rfl rfl ?_
    refine p_callv (le := [some (.inr (.inr 66)), some (.inl 25), some (.inl (gv y1 66 2))]) (as := [.inr (.inr 66), .inl 25, .inl (gv y1 66 2)]) (rest := []) 34 0 0 0 0 rfl rfl (Nat.le_of_ble_eq_true rfl) rfl (Nat.le_of_ble_eq_true rfl) rfl rfl (Nat.le_of_ble_eq_true rfl) rfl (Nat.le_of_ble_eq_true rfl) rfl (Nat.le_refl _) (Nat.le_refl _) rfl rfl (tg_66 S1) ?_
    refine m_opens S1 25 (gv y1 66 2) R1.2.2.2.2.2.2.1 (by omega) R1.2.2.2.1 (by have := R1.2.2.2.2.1; omega) (fun y6 p6 S6 => ?_)
    show Wp (d + 8) 0 0 M_X12_test 34 [some (.inr (.inr 66)), some (.inl 1), some (.inl r1)] [] y6 _
    have g6 : gv y6 66 2 = (tk L i).2.1 := (p6.1.1 66 2 rfl).trans g2
    refine p_aload 35 rfl rfl rfl ?_
    refine p_dup 36 rfl rfl nl_r ?_
    refine p_getfi (j := 2) (z := gv y6 66 2) 39 rfl rfl rfl (tg_66 S6) rfl rfl ?_
    refine p_const 40 rfl rfl ?_
    refine p_iadd (z := (gv y6 66 2) + 1) 41 rfl rfl (w32_id ⟨(by omega), (by omega)⟩) ?_
    refine p_putfi (j := 2) 44 rfl rfl rfl (fun z => absurd z (by decide)) (tg_66 S6) rfl ?_
    refine p_nmh (fun y7 e7 => ?_)
    have S7 : Shape y7 := by rw [e7]; exact S6.svF ff_66_2 _
    refine p_goto 2 rfl rfl ?_
    -- leaf 2: loop 2 [some (.inr (.inr 66)), some (.inl 1), some (.inl r1)] st=[] h=y7 e7
    have is : isSg L i 91 := sg.2 (by omega)
    obtain ⟨ko, oc⟩ := p6
    have kt : Keep tkA y6 y7 := by rw [e7]; exact (Keep.rf _ _).sv rfl _
    rcases oc with ⟨lt, st, oe, b5⟩ | ⟨o6, b3, pl⟩
    · have m4 := R1.2.2.1.2.2.1
      have M7 : MAt y7 T n L (i + 1) := MAt.sign O LX (B.nx i7 (by rw [is.1]; decide)).1 is.1 t2.1 (by rw [e7, sv_eq, g6]) (by rw [e7, sv_nf (by decide), ko.1 66 4 rfl]; omega)
      exact K1 is (by have := R1.2.2.2.2.1; omega) y7 (R1.opn ko lt st oe b5 kt M7) S7 _
    · have Bd : BdT h0 y7 3 (tk L i).2.1 := R1.opnB (by omega) ko b3 (pl.trans g2) kt
      exact mt_quit S7 Bd (K3 (Or.inr is) (by have := R1.2.2.2.2.1; omega) y7 Bd S7)
theorem mt_fact {h : PH} {i o k : Nat} {c : Int} {U C : List Int} {r : Rs} (O : TxO T n) (LX : LexA T n L) (S : Shape h) (D : FcT L o i r) (R : RdM h0 h T n L i o 0 (U ++ n16 k) C) (p3 : (prv L i).1 ≠ 3) (tU : tF U) (ko : k ≤ o) (F : FF d h0 q T n L o k U C r) : Wp (d + 8) 0 0 M_X12_test 79 [some (.inr (.inr 66)), some (.inl 1), some (.inl c)] [] h q := by
  have l7 := (LX.tl O).1
  have J83b : ∀ (h1 : PH) (kk p : Int), r = bdR kk p → BdT h0 h1 kk p → Shape h1 → Wp (d + 8) 0 0 M_X12_test 83 [some (.inr (.inr 66)), some (.inl 1), some (.inl c)] [] h1 q := by
    intro h1 kk p er B1 S1
    have b2 := B1.2.1
    have b3 := B1.2.2.1
    refine p_aload 84 rfl rfl rfl ?_
    refine p_callv (le := [some (.inr (.inr 66))]) (as := [.inr (.inr 66)]) (rest := []) 87 0 0 0 0 rfl rfl (Nat.le_of_ble_eq_true rfl) rfl (Nat.le_of_ble_eq_true rfl) rfl rfl (Nat.le_of_ble_eq_true rfl) rfl (Nat.le_of_ble_eq_true rfl) rfl (Nat.le_refl _) (Nat.le_refl _) rfl rfl (tg_66 S1) ?_
    refine m_dropsNotsB S1 (by omega) ?_
    show Wp (d + 8) 0 0 M_X12_test 87 [some (.inr (.inr 66)), some (.inl 1), some (.inl c)] [] h1 _
    refine p_aload 88 rfl rfl rfl ?_
    refine p_getfi (j := 5) (z := gv h1 66 5) 91 rfl rfl rfl (tg_66 S1) rfl rfl ?_
    refine p_if_ne_t 105 rfl rfl (by omega) ?_
    refine p_const 106 rfl rfl ?_
    refine p_istore (ls' := [some (.inr (.inr 66)), some (.inl 0), some (.inl c)]) 107 rfl rfl (Nat.le_of_ble_eq_true rfl) rfl ?_
    refine p_goto 2 rfl rfl ?_
    -- leaf 1: loop 2 [some (.inr (.inr 66)), some (.inl 0), some (.inl c)] st=[] h=h1 
    subst er
    exact mt_quit S1 B1 (F h1 B1 S1)
  have J83 : ∀ (h1 : PH) (j : Nat) (cc : List Int), r = okR j cc → RdM h0 h1 T n L j o 0 (U ++ n16 k) (C ++ cc) → Shape h1 → Wp (d + 8) 0 0 M_X12_test 83 [some (.inr (.inr 66)), some (.inl 1), some (.inl c)] [] h1 q := by
    intro h1 j cc er R1 S1
    have R1' := R1
    obtain ⟨r1, ⟨r2, r3⟩, r4, r5, r6, r7, r8, r9, r10, r11⟩ := R1
    have j7 := r4.1
    have wl : (U ++ n16 k).length = U.length + k := by rw [List.length_append, List.length_replicate]
    rw [wl] at r10
    subst er
    refine p_aload 84 rfl rfl rfl ?_
    refine p_callv (le := [some (.inr (.inr 66))]) (as := [.inr (.inr 66)]) (rest := []) 87 0 0 0 0 rfl rfl (Nat.le_of_ble_eq_true rfl) rfl (Nat.le_of_ble_eq_true rfl) rfl rfl (Nat.le_of_ble_eq_true rfl) rfl (Nat.le_of_ble_eq_true rfl) rfl (Nat.le_refl _) (Nat.le_refl _) rfl rfl (tg_66 S1) ?_
    refine m_dropsNots S1 r8 r9 (tU.no (by decide)) r5 (by omega) (by omega) (by omega) (fun y1 p1 S1 => ?_)
    show Wp (d + 8) 0 0 M_X12_test 87 [some (.inr (.inr 66)), some (.inl 1), some (.inl c)] [] y1 _
    have b1 : gv y1 66 5 = 0 := (p1.1.1 66 5 rfl).trans r5
    refine p_aload 88 rfl rfl rfl ?_
    refine p_getfi (j := 5) (z := gv y1 66 5) 91 rfl rfl rfl (tg_66 S1) rfl rfl ?_
    refine p_if_ne_f 94 rfl rfl (by omega) ?_
    refine p_aload 95 rfl rfl rfl ?_
    refine p_callv (le := [some (.inr (.inr 66))]) (as := [.inr (.inr 66)]) (rest := []) 98 0 0 0 0 rfl rfl (Nat.le_of_ble_eq_true rfl) rfl (Nat.le_of_ble_eq_true rfl) rfl rfl (Nat.le_of_ble_eq_true rfl) rfl (Nat.le_of_ble_eq_true rfl) rfl (Nat.le_refl _) (Nat.le_refl _) rfl rfl (tg_66 S1) ?_
    exact F _ (R1'.nots ko p1) S1 c
  refine p_aload 80 rfl rfl rfl ?_
  refine p_callv (le := [some (.inr (.inr 66)), none]) (as := [.inr (.inr 66)]) (rest := []) 83 0 0 0 0 rfl rfl (Nat.le_of_ble_eq_true rfl) rfl (Nat.le_of_ble_eq_true rfl) rfl rfl (Nat.le_of_ble_eq_true rfl) rfl (Nat.le_of_ble_eq_true rfl) rfl (Nat.le_refl _) (Nat.le_refl _) rfl rfl (tg_66 S) ?_
  exact m_fact S O LX D R p3 (noOp_n16 tU k) (fun j cc er h' R' S' => J83 h' j cc er R' S') (fun kk p er h' B' S' => J83b h' kk p er B' S')
end MTST

