/-! THE MODEL'S BOOK: a whole call -/
def mbA (x i : Int) : Bool := decide ((x = 66 ∧ ((1 ≤ i ∧ i ≤ 8) ∨ i = 26 ∨ i = 28 ∨ i = 29 ∨ i = 30)) ∨ (x = 79 ∧ i = 0) ∨ (80 ≤ x ∧ x ≤ 83 ∧ i < 40) ∨ (x = 84 ∧ i < 700) ∨ x = 85)
theorem bmA_mbA : ∀ a i, mbA a i = false → bmA a i = false := fun a i => dw (by omega)
def mbO (a x i : Int) : Bool := decide ((x = 66 ∧ ((1 ≤ i ∧ i ≤ 8) ∨ i = 26 ∨ i = 28 ∨ i = 29 ∨ i = 30 ∨ i = 40)) ∨ (x = 79 ∧ (i = 0 ∨ i = a + 1)) ∨ (80 ≤ x ∧ x ≤ 83 ∧ (i < 40 ∨ 40 * (a + 1) ≤ i)) ∨ (x = 84 ∧ (i < 700 ∨ 700 * (a + 1) ≤ i)) ∨ x = 85 ∨ (94 ≤ x ∧ x ≤ 98 ∧ i = a + 1))
theorem mbA_mbO (c : Int) : ∀ a i, mbO c a i = false → mbA a i = false := fun a i => dw (by omega)
/-- the book that the model has made, act a + 1 -/
def BkMd (h h' : PH) (G : List Sns) (a : Int) : Prop := Keep (mbO a) h h' ∧ (gv h' 66 1 = 0 ∧ gv h' 66 7 = 0 ∧ gv h' 66 8 = -1 ∧ gv h' 66 40 = a + 1) ∧ (gv h' 79 (a + 1) = G.length ∧ gv h' 94 (a + 1) = 1 ∧ gv h' 98 (a + 1) = 0) ∧
  (∀ (i : Nat) s, G[i]? = some s → nm h' (a + 1) i = s.1 ∧ cd h' (a + 1) i = s.2.1 ∧ tf h' (a + 1) i = (prgG (G.take i)).length ∧ te h' (a + 1) i = (prgG (G.take (i + 1))).length) ∧ ∀ (j : Nat) x, (prgG G)[j]? = some x → cc h' (a + 1) j = x
section MBK
variable {d : Nat} {h : PH} {q : PQ} {T : Int → Int} {n : Int} {L : List Tok}
theorem m_bookFull (S : Shape h) (a2 : gv h 66 40 = 200) (K : ∀ h', h' = sv h 66 1 0 → Shape h' → q (some (.inl (-2))) h') : Wp (d + 10) 0 0 M_X12_book 0 [some (.inr (.inr 66)), none, none] [] h q := by
  refine p_aload 1 rfl rfl rfl ?_
  refine p_getfi (j := 40) (z := 200) 4 rfl rfl rfl (tg_66 S) rfl a2 ?_
  refine p_const 7 rfl rfl ?_
  refine p_ic_ne_f 10 rfl rfl (by decide) ?_
  refine p_aload 11 rfl rfl rfl ?_
  refine p_const 12 rfl rfl ?_
  refine p_putfi (j := 1) 15 rfl rfl rfl (fun z => absurd z (by decide)) (tg_66 S) rfl ?_
  refine p_nmh (fun y1 e1 => ?_)
  have S1 : Shape y1 := by rw [e1]; exact S.svF ff_66_1 _
  refine p_const 17 rfl rfl ?_
  refine p_iret rfl rfl ?_
  -- leaf 1: answer [.inl (-2)] h=y1 e1
  exact K _ e1 S1
theorem m_bookHead (S : Shape h) (a2 : gv h 66 40 ≠ 200) (O : TxO T n) (hn : gv h 66 1 = n) (hT : ∀ i, 0 ≤ i → i < n → gv h 67 i = T i) (WI : WrdI h) (LX : LexA T n L) (K : ∀ h', Keep mbA h h' → gv h' 66 1 = 0 → StA h' h' T n [] [] → MAt h' T n L 0 → Shape h' → Wp (d + 10) 0 0 M_X12_book 63 [some (.inr (.inr 66)), none, none] [] h' q) : Wp (d + 10) 0 0 M_X12_book 0 [some (.inr (.inr 66)), none, none] [] h q := by
  refine p_aload 1 rfl rfl rfl ?_
  refine p_getfi (j := 40) (z := gv h 66 40) 4 rfl rfl rfl (tg_66 S) rfl rfl ?_
  refine p_const 7 rfl rfl ?_
  refine p_ic_ne_t 18 rfl rfl (by omega) ?_
  refine p_aload 19 rfl rfl rfl ?_
  refine p_aload 20 rfl rfl rfl ?_
  refine p_getfi (j := 1) (z := n) 23 rfl rfl rfl (tg_66 S) rfl hn ?_
  refine p_putfi (j := 3) 26 rfl rfl rfl (fun z => absurd z (by decide)) (tg_66 S) rfl ?_
  refine p_nmh (fun y1 e1 => ?_)
  have S1 : Shape y1 := by rw [e1]; exact S.svF ff_66_3 _
  refine p_aload 27 rfl rfl rfl ?_
  refine p_const 28 rfl rfl ?_
  refine p_putfi (j := 1) 31 rfl rfl rfl (fun z => absurd z (by decide)) (tg_66 S1) rfl ?_
  refine p_nmh (fun y2 e2 => ?_)
  have S2 : Shape y2 := by rw [e2]; exact S1.svF ff_66_1 _
  refine p_aload 32 rfl rfl rfl ?_
  refine p_const 33 rfl rfl ?_
  refine p_putfi (j := 2) 36 rfl rfl rfl (fun z => absurd z (by decide)) (tg_66 S2) rfl ?_
  refine p_nmh (fun y3 e3 => ?_)
  have S3 : Shape y3 := by rw [e3]; exact S2.svF ff_66_2 _
  refine p_aload 37 rfl rfl rfl ?_
  refine p_const 38 rfl rfl ?_
  refine p_putfi (j := 4) 41 rfl rfl rfl (fun z => absurd z (by decide)) (tg_66 S3) rfl ?_
  refine p_nmh (fun y4 e4 => ?_)
  have S4 : Shape y4 := by rw [e4]; exact S3.svF ff_66_4 _
  refine p_aload 42 rfl rfl rfl ?_
  refine p_const 43 rfl rfl ?_
  refine p_putfi (j := 5) 46 rfl rfl rfl (fun z => absurd z (by decide)) (tg_66 S4) rfl ?_
  refine p_nmh (fun y5 e5 => ?_)
  have S5 : Shape y5 := by rw [e5]; exact S4.svF ff_66_5 _
  refine p_aload 47 rfl rfl rfl ?_
  refine p_const 48 rfl rfl ?_
  refine p_putfi (j := 6) 51 rfl rfl rfl (fun z => absurd z (by decide)) (tg_66 S5) rfl ?_
  refine p_nmh (fun y6 e6 => ?_)
  have S6 : Shape y6 := by rw [e6]; exact S5.svF ff_66_6 _
  refine p_aload 52 rfl rfl rfl ?_
  refine p_getfr (j := 20) (z := 79) 55 rfl rfl rfl (tg_66 S6) rfl (fi_66_20 S6) ?_
  refine p_const 56 rfl rfl ?_
  refine p_const 57 rfl rfl ?_
  refine p_iast (w := 201) 58 rfl rfl (by decide) (tg_79 S6) (ln_79 S6) (by decide) (by decide) ?_
  refine p_nmh (fun y7 e7 => ?_)
  have S7 : Shape y7 := by rw [e7]; exact S6.svA fa_79 _ _
  refine p_aload 59 rfl rfl rfl ?_
  refine p_const 60 rfl rfl ?_
  refine p_putfi (j := 26) 63 rfl rfl rfl (fun z => absurd z (by decide)) (tg_66 S7) rfl ?_
  refine p_nmh (fun y8 e8 => ?_)
  have S8 : Shape y8 := by rw [e8]; exact S7.svF ff_66_26 _
  -- leaf 1: loop 63 [some (.inr (.inr 66)), none, none] st=[] h=y8 e8,e7,e6,e5,e4,e3,e2,e1
  have k : Keep mbA h y8 := by rw [e8, e7, e6, e5, e4, e3, e2, e1]; exact ((((((((Keep.rf _ _).sv rfl _).sv rfl _).sv rfl _).sv rfl _).sv rfl _).sv rfl _).sv rfl _).sv rfl _
  have g1 : gv y8 66 1 = 0 := by rw [e8, sv_nf (by decide), e7, sv_ne (by decide), e6, sv_nf (by decide), e5, sv_nf (by decide), e4, sv_nf (by decide), e3, sv_nf (by decide), e2, sv_eq]
  have g2 : gv y8 66 2 = 0 := by rw [e8, sv_nf (by decide), e7, sv_ne (by decide), e6, sv_nf (by decide), e5, sv_nf (by decide), e4, sv_nf (by decide), e3, sv_eq]
  have g3 : gv y8 66 3 = n := by rw [e8, sv_nf (by decide), e7, sv_ne (by decide), e6, sv_nf (by decide), e5, sv_nf (by decide), e4, sv_nf (by decide), e3, sv_nf (by decide), e2, sv_nf (by decide), e1, sv_eq]
  have g4 : gv y8 66 4 = -1 := by rw [e8, sv_nf (by decide), e7, sv_ne (by decide), e6, sv_nf (by decide), e5, sv_nf (by decide), e4, sv_eq]
  have g5 : gv y8 66 5 = 0 := by rw [e8, sv_nf (by decide), e7, sv_ne (by decide), e6, sv_nf (by decide), e5, sv_eq]
  have g6 : gv y8 66 6 = -1 := by rw [e8, sv_nf (by decide), e7, sv_ne (by decide), e6, sv_eq]
  have g79 : gv y8 79 0 = 0 := by rw [e8, sv_ne (by decide), e7, sv_eq]
  have g26 : gv y8 66 26 = 0 := by rw [e8, sv_eq]
  have l0 : 0 < L.length := by obtain ⟨D, eD, _⟩ := LX; rw [eD, List.length_append]; show 0 < D.length + 1; omega
  have TA := LX.tok O l0
  have t2 := TA.2.1
  have k5 : (tk L 0).1 ≠ 5 := by
    obtain ⟨_, _, ⟨e, _⟩ | ⟨_, _, kk, tc, e⟩⟩ := TA
    · omega
    · have kb := tc.k
      rw [e]
      intro z
      have w := ((knd_5 (by omega)).1 z).2.1
      have w : (0 : Int) = 1 ∨ (0 : Int) = 2 := w
      omega
  refine K y8 k g1 ⟨⟨Keep.rf _ _, g6⟩, ⟨⟨g3, fun i i0 i1 => (k.1 67 i rfl).trans (hT i i0 i1)⟩, WI.kp k (fun a i x y => decide_eq_false (by omega))⟩, ⟨g26, fun j x hj => by cases hj⟩, ⟨g79, fun j x hj => by cases hj⟩, g5⟩ ?_ S8
  have p0 : (prv L 0).2 = 0 := rfl
  refine ⟨l0, ⟨by omega, by omega, by omega⟩, ⟨by omega, by omega⟩, fun _ => ⟨fun z => by omega, fun z => absurd z k5⟩⟩
theorem m_bookBad (S : Shape h) (a2 : gv h 66 40 ≠ 200) (O : TxO T n) (hn : gv h 66 1 = n) (hT : ∀ i, 0 ≤ i → i < n → gv h 67 i = T i) (WI : WrdI h) (LX : LexA T n L) {k p : Int} {Rr : List Sns} (D : BadB L k p Rr [] 0)
    (K : ∀ h', (Keep mbA h h' ∧ gv h' 66 1 = 0 ∧ gv h' 66 7 = k ∧ gv h' 66 8 = p) → Shape h' → q (some (.inl (-1))) h') : Wp (d + 10) 0 0 M_X12_book 0 [some (.inr (.inr 66)), none, none] [] h q := by
  refine m_bookHead S a2 O hn hT WI LX (fun y ky y1 R M Sy => ?_)
  refine ml_bad O LX Rr [] 0 y R M Mx6.nil (Nat.le_refl _) D Sy (fun h1 B1 S1 => ?_)
  have b5 := B1.2.1
  have b5' := B1.2.2.1
  have b6 := B1.2.2.2
  have z1 : gv h1 66 1 = 0 := (B1.1.1 66 1 rfl).trans y1
  refine p_aload 86 rfl rfl rfl ?_
  refine p_aload 87 rfl rfl rfl ?_
  refine p_getfi (j := 5) (z := k) 90 rfl rfl rfl (tg_66 S1) rfl b5 ?_
  refine p_putfi (j := 7) 93 rfl rfl rfl (fun z => absurd z (by decide)) (tg_66 S1) rfl ?_
  refine p_nmh (fun y1 e1 => ?_)
  have S1 : Shape y1 := by rw [e1]; exact S1.svF ff_66_7 _
  refine p_aload 94 rfl rfl rfl ?_
  refine p_aload 95 rfl rfl rfl ?_
  refine p_getfi (j := 6) (z := p) 98 rfl rfl rfl (tg_66 S1) rfl (by rw [e1, sv_nf (by decide)]; exact b6) ?_
  refine p_putfi (j := 8) 101 rfl rfl rfl (fun z => absurd z (by decide)) (tg_66 S1) rfl ?_
  refine p_nmh (fun y2 e2 => ?_)
  have S2 : Shape y2 := by rw [e2]; exact S1.svF ff_66_8 _
  refine p_aload 102 rfl rfl rfl ?_
  refine p_getfi (j := 5) (z := k) 105 rfl rfl rfl (tg_66 S2) rfl (by rw [e2, sv_nf (by decide)]; rw [e1, sv_nf (by decide)]; exact b5) ?_
  refine p_if_eq_f 108 rfl rfl (by omega) ?_
  refine p_const 109 rfl rfl ?_
  refine p_iret rfl rfl ?_
  -- leaf 1: answer [.inl (-1)] h=y2 e2,e1
  refine K _ ⟨(ky.trans (B1.1.wide bmA_mbA)).trans (by rw [e2, e1]; exact ((Keep.rf _ _).sv rfl _).sv rfl _), ?_, ?_, ?_⟩ S2
  · rw [e2, sv_nf (by decide), e1, sv_nf (by decide)]; exact z1
  · rw [e2, sv_nf (by decide), e1, sv_eq]
  · rw [e2, sv_eq]
theorem m_bookOk (S : Shape h) {a : Int} (ha : gv h 66 40 = a) (a0 : 0 ≤ a) (a2 : a < 200) (O : TxO T n) (hn : gv h 66 1 = n) (hT : ∀ i, 0 ≤ i → i < n → gv h 67 i = T i) (WI : WrdI h) (LX : LexA T n L) {G : List Sns} (D : OkB L G [] 0) (g40 : G.length ≤ 40) (pl : (prgG G).length ≤ 700)
    (K : ∀ h', BkMd h h' G a → Shape h' → q (some (.inl (a + 1))) h') : Wp (d + 10) 0 0 M_X12_book 0 [some (.inr (.inr 66)), none, none] [] h q := by
  refine m_bookHead S (by omega) O hn hT WI LX (fun y ky y1 R M Sy => ?_)
  refine ml_ok O LX G [] 0 y R M Mx6.nil (Nat.le_refl _) D Sy (fun h1 R1 S1 => ?_)
  have R1 : StA y h1 T n G (prgG G) := R1
  obtain ⟨⟨u1, u7⟩, ⟨u2, u3⟩, u4, u5, u6⟩ := R1
  have z1 : gv h1 66 1 = 0 := (u1.1 66 1 rfl).trans y1
  have k1 : Keep mbA h h1 := ky.trans (u1.wide bmA_mbA)
  have hA : gv h1 66 40 = a := (k1.1 66 40 rfl).trans ha
  have c26 := u4.1
  have m79 := u5.1
  have J251 : ∀ (c kk : Nat) (k : Int) (h2 : PH), k = kk → kk + c = (prgG G).length → Keep (mbO a) h h2 → gv h2 66 1 = 0 → gv h2 66 7 = 0 → gv h2 66 8 = -1 → gv h2 66 40 = a + 1 → gv h2 79 (a + 1) = G.length → gv h2 94 (a + 1) = 1 → gv h2 98 (a + 1) = 0 → (∀ (i : Nat) s, G[i]? = some s → nm h2 (a + 1) i = s.1 ∧ cd h2 (a + 1) i = s.2.1 ∧ tf h2 (a + 1) i = (prgG (G.take i)).length ∧ te h2 (a + 1) i = (prgG (G.take (i + 1))).length) → Shape h2 →
      CodM h2 (prgG G) → (∀ (j : Nat) x, j < kk → (prgG G)[j]? = some x → cc h2 (a + 1) j = x) → Wp (d + 10) 0 0 M_X12_book 219 [some (.inr (.inr 66)), some (.inl (a + 1)), some (.inl k)] [] h2 q := by
    intro c
    induction c with
    | zero =>
      intro kk k h2 ek hk kO f1 f7 f8 f40 f79 f94 f98 fr S2 cm al
      have d26 := cm.1
      refine p_iload 220 rfl rfl rfl ?_
      refine p_aload 221 rfl rfl rfl ?_
      refine p_getfi (j := 26) (z := ((prgG G).length : Int)) 224 rfl rfl rfl (tg_66 S2) rfl d26 ?_
      refine p_ic_ge_t 251 rfl rfl (by omega) ?_
      refine p_iload 252 rfl rfl rfl ?_
      refine p_iret rfl rfl ?_
      -- leaf 1: answer [.inl (a + 1)] h=h2 
      exact K _ ⟨kO, ⟨f1, f7, f8, f40⟩, ⟨f79, f94, f98⟩, fr, fun j x hj => al j x (by have := get_lt hj; omega) hj⟩ S2
    | succ c ih =>
      intro kk k h2 ek hk kO f1 f7 f8 f40 f79 f94 f98 fr S2 cm al
      have d26 := cm.1
      have hg : (prgG G)[kk]? = some ((prgG G)[kk]'(by omega)) := List.getElem?_eq_getElem (by omega)
      generalize (prgG G)[kk]'(by omega) = x at hg
      have e84 : gv h2 84 k = x := by rw [ek]; exact cm.2 kk x hg
      refine p_iload 220 rfl rfl rfl ?_
      refine p_aload 221 rfl rfl rfl ?_
      refine p_getfi (j := 26) (z := ((prgG G).length : Int)) 224 rfl rfl rfl (tg_66 S2) rfl d26 ?_
      refine p_ic_ge_f 227 rfl rfl (by omega) ?_
      refine p_aload 228 rfl rfl rfl ?_
      refine p_getfr (j := 25) (z := 84) 231 rfl rfl rfl (tg_66 S2) rfl (fi_66_25 S2) ?_
      refine p_const 234 rfl rfl ?_
      refine p_iload 235 rfl rfl rfl ?_
      refine p_imul (z := 700 * (a + 1)) 236 rfl rfl (w32_id ⟨(by omega), (by omega)⟩) ?_
      refine p_iload 237 rfl rfl rfl ?_
      refine p_iadd (z := (700 * (a + 1)) + k) 238 rfl rfl (w32_id ⟨(by omega), (by omega)⟩) ?_
      refine p_aload 239 rfl rfl rfl ?_
      refine p_getfr (j := 25) (z := 84) 242 rfl rfl rfl (tg_66 S2) rfl (fi_66_25 S2) ?_
      refine p_iload 243 rfl rfl rfl ?_
      refine p_iald (w := 140700) (z := x) 244 rfl rfl (tg_84 S2) (ln_84 S2) (by omega) (by omega) e84 ?_
      refine p_iast (w := 140700) 245 rfl rfl (by decide) (tg_84 S2) (ln_84 S2) (by omega) (by omega) ?_
      refine p_nmh (fun y1 e1 => ?_)
      have S1 : Shape y1 := by rw [e1]; exact S2.svA fa_84 _ _
      refine p_iinc (y := k + 1) (ls' := [some (.inr (.inr 66)), some (.inl (a + 1)), some (.inl (k + 1))]) 248 rfl rfl rfl (w32_id ⟨(by omega), (by omega)⟩) rfl ?_
      refine p_goto 219 rfl rfl ?_
      -- leaf 1: loop 219 [some (.inr (.inr 66)), some (.inl (a + 1)), some (.inl (k + 1))] st=[] h=y1 e1
      have g : ∀ x i, x ≠ 84 → gv y1 x i = gv h2 x i := fun x i hx => by rw [e1, sv_ne hx]
      refine ih (kk + 1) (k + 1) y1 (by omega) (by omega) (by rw [e1]; exact kO.sv (decide_eq_true (by omega)) _) ((g 66 1 (by decide)).trans f1) ((g 66 7 (by decide)).trans f7) ((g 66 8 (by decide)).trans f8) ((g 66 40 (by decide)).trans f40) ((g 79 _ (by decide)).trans f79) ((g 94 _ (by decide)).trans f94) ((g 98 _ (by decide)).trans f98) (fun i s hs => ?_) S1 ⟨(g 66 26 (by decide)).trans d26, fun j x hj => ?_⟩ (fun j x' hj hx => ?_)
      · obtain ⟨r80, r81, r82, r83⟩ := fr i s hs
        exact ⟨(g 80 _ (by decide)).trans r80, (g 81 _ (by decide)).trans r81, (g 82 _ (by decide)).trans r82, (g 83 _ (by decide)).trans r83⟩
      · have jl := get_lt hj
        rw [e1, sv_nf (by omega)]; exact cm.2 j x hj
      · unfold cc
        by_cases z : j = kk
        · rw [z, hg] at hx
          cases hx
          rw [z, e1, ← ek, sv_eq]
        · rw [e1, sv_nf (by omega)]
          exact al j x' (by omega) hx
  have J133 : ∀ (c kk : Nat) (k : Int) (h2 : PH), k = kk → kk + c = G.length → Keep (mbO a) h h2 → gv h2 66 1 = 0 → gv h2 66 7 = 0 → gv h2 66 8 = -1 → gv h2 66 40 = a + 1 → gv h2 79 (a + 1) = G.length → gv h2 94 (a + 1) = 1 → gv h2 98 (a + 1) = 0 → SnM h2 G → CodM h2 (prgG G) → Shape h2 →
      (∀ (i : Nat) s, i < kk → G[i]? = some s → nm h2 (a + 1) i = s.1 ∧ cd h2 (a + 1) i = s.2.1 ∧ tf h2 (a + 1) i = (prgG (G.take i)).length ∧ te h2 (a + 1) i = (prgG (G.take (i + 1))).length) → Wp (d + 10) 0 0 M_X12_book 133 [some (.inr (.inr 66)), some (.inl (a + 1)), some (.inl k)] [] h2 q := by
    intro c
    induction c with
    | zero =>
      intro kk k h2 ek hk kO f1 f7 f8 f40 f79 f94 f98 sm cm S2 al
      refine p_iload 134 rfl rfl rfl ?_
      refine p_aload 135 rfl rfl rfl ?_
      refine p_getfr (j := 20) (z := 79) 138 rfl rfl rfl (tg_66 S2) rfl (fi_66_20 S2) ?_
      refine p_iload 139 rfl rfl rfl ?_
      refine p_iald (w := 201) (z := gv h2 79 (a + 1)) 140 rfl rfl (tg_79 S2) (ln_79 S2) (by omega) (by omega) rfl ?_
      refine p_ic_ge_t 217 rfl rfl (by omega) ?_
      refine p_const 218 rfl rfl ?_
      refine p_istore (ls' := [some (.inr (.inr 66)), some (.inl (a + 1)), some (.inl 0)]) 219 rfl rfl (Nat.le_of_ble_eq_true rfl) rfl ?_
      -- leaf 1: loop 219 [some (.inr (.inr 66)), some (.inl (a + 1)), some (.inl 0)] st=[] h=h2 
      exact J251 (prgG G).length 0 0 h2 rfl (Nat.zero_add _) kO f1 f7 f8 f40 f79 f94 f98 (fun i s hs => al i s (by have := get_ltS hs; omega) hs) S2 cm (fun j x hj => absurd hj (Nat.not_lt_zero j))
    | succ c ih =>
      intro kk k h2 ek hk kO f1 f7 f8 f40 f79 f94 f98 sm cm S2 al
      have hg : G[kk]? = some (G[kk]'(by omega)) := List.getElem?_eq_getElem (by omega)
      generalize G[kk]'(by omega) = x at hg
      obtain ⟨r80, r81, r82, r83⟩ := sm.2 kk x hg
      rw [← ek] at r80 r81 r82 r83
      refine p_iload 134 rfl rfl rfl ?_
      refine p_aload 135 rfl rfl rfl ?_
      refine p_getfr (j := 20) (z := 79) 138 rfl rfl rfl (tg_66 S2) rfl (fi_66_20 S2) ?_
      refine p_iload 139 rfl rfl rfl ?_
      refine p_iald (w := 201) (z := gv h2 79 (a + 1)) 140 rfl rfl (tg_79 S2) (ln_79 S2) (by omega) (by omega) rfl ?_
      refine p_ic_ge_f 143 rfl rfl (by omega) ?_
      refine p_aload 144 rfl rfl rfl ?_
      refine p_getfr (j := 21) (z := 80) 147 rfl rfl rfl (tg_66 S2) rfl (fi_66_21 S2) ?_
      refine p_const 149 rfl rfl ?_
      refine p_iload 150 rfl rfl rfl ?_
      refine p_imul (z := 40 * (a + 1)) 151 rfl rfl (w32_id ⟨(by omega), (by omega)⟩) ?_
      refine p_iload 152 rfl rfl rfl ?_
      refine p_iadd (z := (40 * (a + 1)) + k) 153 rfl rfl (w32_id ⟨(by omega), (by omega)⟩) ?_
      refine p_aload 154 rfl rfl rfl ?_
      refine p_getfr (j := 21) (z := 80) 157 rfl rfl rfl (tg_66 S2) rfl (fi_66_21 S2) ?_
      refine p_iload 158 rfl rfl rfl ?_
      refine p_lald (w := 8040) (z := x.1) 159 rfl rfl (tg_80 S2) (ln_80 S2) (by omega) (by omega) r80 ?_
      refine p_last (w := 8040) 160 rfl rfl (by decide) (tg_80 S2) (ln_80 S2) (by omega) (by omega) ?_
      refine p_nmh (fun y1 e1 => ?_)
      have S1 : Shape y1 := by rw [e1]; exact S2.svA fa_80 _ _
      refine p_aload 161 rfl rfl rfl ?_
      refine p_getfr (j := 22) (z := 81) 164 rfl rfl rfl (tg_66 S1) rfl (fi_66_22 S1) ?_
      refine p_const 166 rfl rfl ?_
      refine p_iload 167 rfl rfl rfl ?_
      refine p_imul (z := 40 * (a + 1)) 168 rfl rfl (w32_id ⟨(by omega), (by omega)⟩) ?_
      refine p_iload 169 rfl rfl rfl ?_
      refine p_iadd (z := (40 * (a + 1)) + k) 170 rfl rfl (w32_id ⟨(by omega), (by omega)⟩) ?_
      refine p_aload 171 rfl rfl rfl ?_
      refine p_getfr (j := 22) (z := 81) 174 rfl rfl rfl (tg_66 S1) rfl (fi_66_22 S1) ?_
      refine p_iload 175 rfl rfl rfl ?_
      refine p_iald (w := 8040) (z := x.2.1) 176 rfl rfl (tg_81 S1) (ln_81 S1) (by omega) (by omega) (by rw [e1, sv_ne (by decide)]; exact r81) ?_
      refine p_iast (w := 8040) 177 rfl rfl (by decide) (tg_81 S1) (ln_81 S1) (by omega) (by omega) ?_
      refine p_nmh (fun y2 e2 => ?_)
      have S2 : Shape y2 := by rw [e2]; exact S1.svA fa_81 _ _
      refine p_aload 178 rfl rfl rfl ?_
      refine p_getfr (j := 23) (z := 82) 181 rfl rfl rfl (tg_66 S2) rfl (fi_66_23 S2) ?_
      refine p_const 183 rfl rfl ?_
      refine p_iload 184 rfl rfl rfl ?_
      refine p_imul (z := 40 * (a + 1)) 185 rfl rfl (w32_id ⟨(by omega), (by omega)⟩) ?_
      refine p_iload 186 rfl rfl rfl ?_
      refine p_iadd (z := (40 * (a + 1)) + k) 187 rfl rfl (w32_id ⟨(by omega), (by omega)⟩) ?_
      refine p_aload 188 rfl rfl rfl ?_
      refine p_getfr (j := 23) (z := 82) 191 rfl rfl rfl (tg_66 S2) rfl (fi_66_23 S2) ?_
      refine p_iload 192 rfl rfl rfl ?_
      refine p_iald (w := 8040) (z := ((prgG (G.take kk)).length : Int)) 193 rfl rfl (tg_82 S2) (ln_82 S2) (by omega) (by omega) (by rw [e2, sv_ne (by decide)]; rw [e1, sv_ne (by decide)]; exact r82) ?_
      refine p_iast (w := 8040) 194 rfl rfl (by decide) (tg_82 S2) (ln_82 S2) (by omega) (by omega) ?_
      refine p_nmh (fun y3 e3 => ?_)
      have S3 : Shape y3 := by rw [e3]; exact S2.svA fa_82 _ _
      refine p_aload 195 rfl rfl rfl ?_
      refine p_getfr (j := 24) (z := 83) 198 rfl rfl rfl (tg_66 S3) rfl (fi_66_24 S3) ?_
      refine p_const 200 rfl rfl ?_
      refine p_iload 201 rfl rfl rfl ?_
      refine p_imul (z := 40 * (a + 1)) 202 rfl rfl (w32_id ⟨(by omega), (by omega)⟩) ?_
      refine p_iload 203 rfl rfl rfl ?_
      refine p_iadd (z := (40 * (a + 1)) + k) 204 rfl rfl (w32_id ⟨(by omega), (by omega)⟩) ?_
      refine p_aload 205 rfl rfl rfl ?_
      refine p_getfr (j := 24) (z := 83) 208 rfl rfl rfl (tg_66 S3) rfl (fi_66_24 S3) ?_
      refine p_iload 209 rfl rfl rfl ?_
      refine p_iald (w := 8040) (z := ((prgG (G.take (kk + 1))).length : Int)) 210 rfl rfl (tg_83 S3) (ln_83 S3) (by omega) (by omega) (by rw [e3, sv_ne (by decide)]; rw [e2, sv_ne (by decide)]; rw [e1, sv_ne (by decide)]; exact r83) ?_
      refine p_iast (w := 8040) 211 rfl rfl (by decide) (tg_83 S3) (ln_83 S3) (by omega) (by omega) ?_
      refine p_nmh (fun y4 e4 => ?_)
      have S4 : Shape y4 := by rw [e4]; exact S3.svA fa_83 _ _
      refine p_iinc (y := k + 1) (ls' := [some (.inr (.inr 66)), some (.inl (a + 1)), some (.inl (k + 1))]) 214 rfl rfl rfl (w32_id ⟨(by omega), (by omega)⟩) rfl ?_
      refine p_goto 133 rfl rfl ?_
      -- leaf 1: loop 133 [some (.inr (.inr 66)), some (.inl (a + 1)), some (.inl (k + 1))] st=[] h=y4 e4,e3,e2,e1
      have g : ∀ x i, (x < 80 ∨ 83 < x) → gv y4 x i = gv h2 x i := fun x i hx => by rw [e4, sv_ne (by omega), e3, sv_ne (by omega), e2, sv_ne (by omega), e1, sv_ne (by omega)]
      have gl : ∀ x i, i < 40 → gv y4 x i = gv h2 x i := fun x i hi => by rw [e4, sv_nf (by omega), e3, sv_nf (by omega), e2, sv_nf (by omega), e1, sv_nf (by omega)]
      have gr : ∀ x i, i ≠ 40 * (a + 1) + k → gv y4 x i = gv h2 x i := fun x i hi => by rw [e4, sv_nf hi, e3, sv_nf hi, e2, sv_nf hi, e1, sv_nf hi]
      have kO4 : Keep (mbO a) h y4 := by rw [e4, e3, e2, e1]; exact (((kO.sv (decide_eq_true (by omega)) _).sv (decide_eq_true (by omega)) _).sv (decide_eq_true (by omega)) _).sv (decide_eq_true (by omega)) _
      refine ih (kk + 1) (k + 1) y4 (by omega) (by omega) kO4 ((g 66 1 (by decide)).trans f1) ((g 66 7 (by decide)).trans f7) ((g 66 8 (by decide)).trans f8) ((g 66 40 (by decide)).trans f40) ((g 79 _ (by decide)).trans f79) ((g 94 _ (by decide)).trans f94) ((g 98 _ (by decide)).trans f98) (sm.of (g 79 0 (by decide)) (fun x j _ _ hj => gl x j (by omega))) (cm.of (g 66 26 (by decide)) (fun i => g 84 i (by decide))) S4 (fun i s hi hs => ?_)
      by_cases z : i = kk
      · rw [z, hg] at hs
        cases hs
        rw [z]
        refine ⟨?_, ?_, ?_, ?_⟩
        · unfold nm; rw [← ek, e4, sv_ne (by decide), e3, sv_ne (by decide), e2, sv_ne (by decide), e1, sv_eq]
        · unfold cd; rw [← ek, e4, sv_ne (by decide), e3, sv_ne (by decide), e2, sv_eq]
        · unfold tf; rw [← ek, e4, sv_ne (by decide), e3, sv_eq]
        · unfold te; rw [← ek, e4, sv_eq]
      · obtain ⟨q80, q81, q82, q83⟩ := al i s (by omega) hs
        exact ⟨(gr 80 _ (by omega)).trans q80, (gr 81 _ (by omega)).trans q81, (gr 82 _ (by omega)).trans q82, (gr 83 _ (by omega)).trans q83⟩
  refine p_aload 86 rfl rfl rfl ?_
  refine p_aload 87 rfl rfl rfl ?_
  refine p_getfi (j := 5) (z := 0) 90 rfl rfl rfl (tg_66 S1) rfl u6 ?_
  refine p_putfi (j := 7) 93 rfl rfl rfl (fun z => absurd z (by decide)) (tg_66 S1) rfl ?_
  refine p_nmh (fun y1 e1 => ?_)
  have S1 : Shape y1 := by rw [e1]; exact S1.svF ff_66_7 _
  refine p_aload 94 rfl rfl rfl ?_
  refine p_aload 95 rfl rfl rfl ?_
  refine p_getfi (j := 6) (z := (-1)) 98 rfl rfl rfl (tg_66 S1) rfl (by rw [e1, sv_nf (by decide)]; exact u7) ?_
  refine p_putfi (j := 8) 101 rfl rfl rfl (fun z => absurd z (by decide)) (tg_66 S1) rfl ?_
  refine p_nmh (fun y2 e2 => ?_)
  have S2 : Shape y2 := by rw [e2]; exact S1.svF ff_66_8 _
  refine p_aload 102 rfl rfl rfl ?_
  refine p_getfi (j := 5) (z := 0) 105 rfl rfl rfl (tg_66 S2) rfl (by rw [e2, sv_nf (by decide)]; rw [e1, sv_nf (by decide)]; exact u6) ?_
  refine p_if_eq_t 110 rfl rfl (by decide) ?_
  refine p_aload 111 rfl rfl rfl ?_
  refine p_const 112 rfl rfl ?_
  refine p_const 113 rfl rfl ?_
  refine p_const 114 rfl rfl ?_
  refine p_const 115 rfl rfl ?_
  refine p_callv (le := [some (.inr (.inr 66)), some (.inl 1), some (.inl 0), some (.inl 0), some (.inl 0)]) (as := [.inr (.inr 66), .inl 1, .inl 0, .inl 0, .inl 0]) (rest := []) 118 0 0 0 0 rfl rfl (Nat.le_of_ble_eq_true rfl) rfl (Nat.le_of_ble_eq_true rfl) rfl rfl (Nat.le_of_ble_eq_true rfl) rfl (Nat.le_of_ble_eq_true rfl) rfl (Nat.le_refl _) (Nat.le_refl _) rfl rfl (tg_66 S2) ?_
  refine p_aload 1 rfl rfl rfl ?_
  refine p_dup 2 rfl rfl nl_r ?_
  refine p_getfi (j := 40) (z := a) 5 rfl rfl rfl (tg_66 S2) rfl (by rw [e2, sv_nf (by decide)]; rw [e1, sv_nf (by decide)]; exact hA) ?_
  refine p_const 6 rfl rfl ?_
  refine p_iadd (z := a + 1) 7 rfl rfl (w32_id ⟨(by omega), (by omega)⟩) ?_
  refine p_putfi (j := 40) 10 rfl rfl rfl (fun z => absurd z (by decide)) (tg_66 S2) rfl ?_
  refine p_nmh (fun y3 e3 => ?_)
  have S3 : Shape y3 := by rw [e3]; exact S2.svF ff_66_40 _
  refine p_aload 11 rfl rfl rfl ?_
  refine p_getfr (j := 41) (z := 94) 14 rfl rfl rfl (tg_66 S3) rfl (fi_66_41 S3) ?_
  refine p_aload 15 rfl rfl rfl ?_
  refine p_getfi (j := 40) (z := a + 1) 18 rfl rfl rfl (tg_66 S3) rfl (by rw [e3]; exact sv_eq _ _ _ _) ?_
  refine p_iload 19 rfl rfl rfl ?_
  refine p_iast (w := 201) 20 rfl rfl (by decide) (tg_94 S3) (ln_94 S3) (by omega) (by omega) ?_
  refine p_nmh (fun y4 e4 => ?_)
  have S4 : Shape y4 := by rw [e4]; exact S3.svA fa_94 _ _
  refine p_aload 21 rfl rfl rfl ?_
  refine p_getfr (j := 42) (z := 95) 24 rfl rfl rfl (tg_66 S4) rfl (fi_66_42 S4) ?_
  refine p_aload 25 rfl rfl rfl ?_
  refine p_getfi (j := 40) (z := a + 1) 28 rfl rfl rfl (tg_66 S4) rfl (by rw [e4, sv_ne (by decide)]; rw [e3]; exact sv_eq _ _ _ _) ?_
  refine p_iload 29 rfl rfl rfl ?_
  refine p_iast (w := 201) 30 rfl rfl (by decide) (tg_95 S4) (ln_95 S4) (by omega) (by omega) ?_
  refine p_nmh (fun y5 e5 => ?_)
  have S5 : Shape y5 := by rw [e5]; exact S4.svA fa_95 _ _
  refine p_aload 31 rfl rfl rfl ?_
  refine p_getfr (j := 43) (z := 96) 34 rfl rfl rfl (tg_66 S5) rfl (fi_66_43 S5) ?_
  refine p_aload 35 rfl rfl rfl ?_
  refine p_getfi (j := 40) (z := a + 1) 38 rfl rfl rfl (tg_66 S5) rfl (by rw [e5, sv_ne (by decide)]; rw [e4, sv_ne (by decide)]; rw [e3]; exact sv_eq _ _ _ _) ?_
  refine p_iload 39 rfl rfl rfl ?_
  refine p_iast (w := 201) 40 rfl rfl (by decide) (tg_96 S5) (ln_96 S5) (by omega) (by omega) ?_
  refine p_nmh (fun y6 e6 => ?_)
  have S6 : Shape y6 := by rw [e6]; exact S5.svA fa_96 _ _
  refine p_aload 41 rfl rfl rfl ?_
  refine p_getfr (j := 44) (z := 97) 44 rfl rfl rfl (tg_66 S6) rfl (fi_66_44 S6) ?_
  refine p_aload 45 rfl rfl rfl ?_
  refine p_getfi (j := 40) (z := a + 1) 48 rfl rfl rfl (tg_66 S6) rfl (by rw [e6, sv_ne (by decide)]; rw [e5, sv_ne (by decide)]; rw [e4, sv_ne (by decide)]; rw [e3]; exact sv_eq _ _ _ _) ?_
  refine p_iload 50 rfl rfl rfl ?_
  refine p_iast (w := 201) 51 rfl rfl (by decide) (tg_97 S6) (ln_97 S6) (by omega) (by omega) ?_
  refine p_nmh (fun y7 e7 => ?_)
  have S7 : Shape y7 := by rw [e7]; exact S6.svA fa_97 _ _
  refine p_aload 52 rfl rfl rfl ?_
  refine p_getfr (j := 45) (z := 98) 55 rfl rfl rfl (tg_66 S7) rfl (fi_66_45 S7) ?_
  refine p_aload 56 rfl rfl rfl ?_
  refine p_getfi (j := 40) (z := a + 1) 59 rfl rfl rfl (tg_66 S7) rfl (by rw [e7, sv_ne (by decide)]; rw [e6, sv_ne (by decide)]; rw [e5, sv_ne (by decide)]; rw [e4, sv_ne (by decide)]; rw [e3]; exact sv_eq _ _ _ _) ?_
  refine p_const 60 rfl rfl ?_
  refine p_iast (w := 201) 61 rfl rfl (by decide) (tg_98 S7) (ln_98 S7) (by omega) (by omega) ?_
  refine p_nmh (fun y8 e8 => ?_)
  have S8 : Shape y8 := by rw [e8]; exact S7.svA fa_98 _ _
  refine p_aload 62 rfl rfl rfl ?_
  refine p_getfi (j := 40) (z := a + 1) 65 rfl rfl rfl (tg_66 S8) rfl (by rw [e8, sv_ne (by decide)]; rw [e7, sv_ne (by decide)]; rw [e6, sv_ne (by decide)]; rw [e5, sv_ne (by decide)]; rw [e4, sv_ne (by decide)]; rw [e3]; exact sv_eq _ _ _ _) ?_
  refine p_iret rfl rfl ?_
  show Wp (d + 10) 0 0 M_X12_book 118 [some (.inr (.inr 66)), none, none] [.inl (a + 1)] y8 _
  refine p_istore (ls' := [some (.inr (.inr 66)), some (.inl (a + 1)), none]) 119 rfl rfl (Nat.le_of_ble_eq_true rfl) rfl ?_
  refine p_aload 120 rfl rfl rfl ?_
  refine p_getfr (j := 20) (z := 79) 123 rfl rfl rfl (tg_66 S8) rfl (fi_66_20 S8) ?_
  refine p_iload 124 rfl rfl rfl ?_
  refine p_aload 125 rfl rfl rfl ?_
  refine p_getfr (j := 20) (z := 79) 128 rfl rfl rfl (tg_66 S8) rfl (fi_66_20 S8) ?_
  refine p_const 129 rfl rfl ?_
  refine p_iald (w := 201) (z := (G.length : Int)) 130 rfl rfl (tg_79 S8) (ln_79 S8) (by decide) (by decide) (by rw [e8, sv_ne (by decide)]; rw [e7, sv_ne (by decide)]; rw [e6, sv_ne (by decide)]; rw [e5, sv_ne (by decide)]; rw [e4, sv_ne (by decide)]; rw [e3, sv_ne (by decide)]; rw [e2, sv_ne (by decide)]; rw [e1, sv_ne (by decide)]; exact m79) ?_
  refine p_iast (w := 201) 131 rfl rfl (by decide) (tg_79 S8) (ln_79 S8) (by omega) (by omega) ?_
  refine p_nmh (fun y9 e9 => ?_)
  have S9 : Shape y9 := by rw [e9]; exact S8.svA fa_79 _ _
  refine p_const 132 rfl rfl ?_
  refine p_istore (ls' := [some (.inr (.inr 66)), some (.inl (a + 1)), some (.inl 0)]) 133 rfl rfl (Nat.le_of_ble_eq_true rfl) rfl ?_
  -- leaf 1: loop 133 [some (.inr (.inr 66)), some (.inl (a + 1)), some (.inl 0)] st=[] h=y9 e9,e8,e7,e6,e5,e4,e3,e2,e1
  have kL : Keep (mbO a) h1 y9 := by rw [e9, e8, e7, e6, e5, e4, e3, e2, e1]; exact (((((((((Keep.rf _ _).sv rfl _).sv rfl _).sv rfl _).sv (decide_eq_true (by omega)) _).sv (decide_eq_true (by omega)) _).sv (decide_eq_true (by omega)) _).sv (decide_eq_true (by omega)) _).sv (decide_eq_true (by omega)) _).sv (decide_eq_true (by omega)) _
  have g : ∀ x i, (x < 66 ∨ (66 < x ∧ x < 79) ∨ (79 < x ∧ x < 94) ∨ 98 < x) → gv y9 x i = gv h1 x i := fun x i hx => by rw [e9, sv_ne (by omega), e8, sv_ne (by omega), e7, sv_ne (by omega), e6, sv_ne (by omega), e5, sv_ne (by omega), e4, sv_ne (by omega), e3, sv_ne (by omega), e2, sv_ne (by omega), e1, sv_ne (by omega)]
  have g66 : ∀ i, i ≠ 7 → i ≠ 8 → i ≠ 40 → gv y9 66 i = gv h1 66 i := fun i x y z => by rw [e9, sv_ne (by decide), e8, sv_ne (by decide), e7, sv_ne (by decide), e6, sv_ne (by decide), e5, sv_ne (by decide), e4, sv_ne (by decide), e3, sv_nf z, e2, sv_nf y, e1, sv_nf x]
  refine J133 G.length 0 0 y9 rfl (Nat.zero_add _) ((k1.wide (mbA_mbO a)).trans kL) ((g66 1 (by decide) (by decide) (by decide)).trans z1) ?_ ?_ ?_ ?_ ?_ ?_ (u5.of ?_ (fun x j x0 x1 _ => g x j (by omega))) (u4.of (g66 26 (by decide) (by decide) (by decide)) (fun i => g 84 i (by decide))) S9 (fun i s hi => absurd hi (Nat.not_lt_zero i))
  · rw [e9, sv_ne (by decide), e8, sv_ne (by decide), e7, sv_ne (by decide), e6, sv_ne (by decide), e5, sv_ne (by decide), e4, sv_ne (by decide), e3, sv_nf (by decide), e2, sv_nf (by decide), e1, sv_eq]
  · rw [e9, sv_ne (by decide), e8, sv_ne (by decide), e7, sv_ne (by decide), e6, sv_ne (by decide), e5, sv_ne (by decide), e4, sv_ne (by decide), e3, sv_nf (by decide), e2, sv_eq]
  · rw [e9, sv_ne (by decide), e8, sv_ne (by decide), e7, sv_ne (by decide), e6, sv_ne (by decide), e5, sv_ne (by decide), e4, sv_ne (by decide), e3, sv_eq]
  · rw [e9, sv_eq]
  · rw [e9, sv_ne (by decide), e8, sv_ne (by decide), e7, sv_ne (by decide), e6, sv_ne (by decide), e5, sv_ne (by decide), e4, sv_eq]
  · rw [e9, sv_ne (by decide), e8, sv_eq]
  · rw [e9, sv_nf (by omega), e8, sv_ne (by decide), e7, sv_ne (by decide), e6, sv_ne (by decide), e5, sv_ne (by decide), e4, sv_ne (by decide), e3, sv_ne (by decide), e2, sv_ne (by decide), e1, sv_ne (by decide)]
end MBK

