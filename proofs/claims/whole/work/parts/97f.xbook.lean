/-! THE CLASS'S BOOK: a whole call -/
/-- of what was there, only A may differ -/
def KpG (A : Int → Int → Bool) (h h' : PH) : Prop := nx h ≤ nx h' ∧ ∀ b, b < nx h → tg h' b = tg h b ∧ ln h' b = ln h b ∧ ∀ i, A b i = false → gv h' b i = gv h b i
theorem KpG.of {A : Int → Int → Bool} {h h' : PH} (k : Keep A h h') : KpG A h h' := ⟨by rw [k.2.1]; exact Int.le_refl _, fun b _ => ⟨k.2.2.1 b, k.2.2.2 b, fun i z => k.1 b i z⟩⟩
theorem KpG.trans {A : Int → Int → Bool} {a b c : PH} (p : KpG A a b) (q : KpG A b c) : KpG A a c := ⟨Int.le_trans p.1 q.1, fun x hx => by
  have l := p.1
  obtain ⟨p1, p2, p3⟩ := p.2 x hx
  obtain ⟨q1, q2, q3⟩ := q.2 x (by omega)
  exact ⟨q1.trans p1, q2.trans p2, fun i z => (q3 i z).trans (p3 i z)⟩⟩
theorem KpG.wide {A B : Int → Int → Bool} {h h' : PH} (k : KpG A h h') (w : ∀ a i, B a i = false → A a i = false) : KpG B h h' := ⟨k.1, fun b hb => ⟨(k.2 b hb).1, (k.2 b hb).2.1, fun i z => (k.2 b hb).2.2 i (w b i z)⟩⟩
theorem KpG.sv {A : Int → Int → Bool} {h h1 : PH} {a i v : Int} (k : KpG A h h1) (z : A a i = true) : KpG A h (sv h1 a i v) := k.trans (KpG.of ((Keep.rf A h1).sv z v))
def bxA (a i : Int) : Bool := decide ((a = 11 ∧ (1 ≤ i ∧ i ≤ 8 ∨ i = 13)) ∨ (12 ≤ a ∧ a ≤ 15) ∨ (a = 16 ∧ (i = 2 ∨ i = 3 ∨ i = 4)) ∨ a = 17 ∨ (a = 3 ∧ i = 1) ∨ (a = 18 ∧ i = 5) ∨ a = 19)
theorem mkbA_bxA : ∀ a i, bxA a i = false → mkbA a i = false := fun a i => dw (by omega)
/-- the class's book as it is made of G, at a -/
def BkXa (h : PH) (G : List Sns) (a : Int) : Prop := BkS h a G.length (prgG G).length ∧ (∀ (i : Nat) s, G[i]? = some s → gv h (a + 1) i = s.1 ∧ gv h (a + 2) i = s.2.1 ∧ gv h (a + 3) i = (prgG (G.take (i + 1))).length ∧ gv h (a + 5) i = rl s.2.1 ∧ isF (nmG G) G.length s.1 (gv h (a + 6) i)) ∧ ∀ (j : Nat) x, (prgG G)[j]? = some x → gv h (a + 4) j = tcf x
def BkXd (h h' : PH) (G : List Sns) : Prop := KpG bxA h h' ∧ nx h' = nx h + 7 ∧ (gv h' 3 1 = 0 ∧ gv h' 11 6 = 0 ∧ gv h' 11 7 = -1 ∧ gv h' 18 5 = gv h 18 5 + 1 ∧ gv h' 19 (gv h 18 5 + 1) = nx h) ∧ (∀ i, i ≠ gv h 18 5 + 1 → gv h' 19 i = gv h 19 i) ∧ BkXa h' G (nx h)
theorem isF_congr {f g : Int → Int} {n v d : Int} (e : ∀ j, 0 ≤ j → j < n → f j = g j) (h : isF f n v d) : isF g n v d := by
  rcases h with ⟨a, b, c, k⟩ | ⟨a, k⟩
  · exact Or.inl ⟨a, b, by rw [← e d a b]; exact c, fun j j0 j1 => by rw [← e j j0 (by omega)]; exact k j j0 j1⟩
  · exact Or.inr ⟨a, fun j j0 j1 => by rw [← e j j0 j1]; exact k j j0 j1⟩
/-- the reader's end: a new book -/
theorem x_make84 {d : Nat} {h : PH} {q : PQ} {w : Int} (S : Shape h) {G : List Sns} (X : SnX h G) (P : PrX h ((prgG G).map tcf)) (g40 : G.length ≤ 40) (pl : (prgG G).length ≤ 700)
    (K : ∀ h', Grw h h' → nx h' = nx h + 7 → BkXa h' G (nx h) → q (some (.inr (.inr (nx h)))) h') : Wp (d + 31) 8 3000 M_X2_makeBook 84 [some (.inr (.inr 11)), some (.inl w)] [] h q := by
  have n8 := S.1
  refine p_new 87 7 2993 rfl rfl (by decide) (by decide) (by decide) rfl rfl ?_
  refine p_nmh (fun y ey => ?_)
  have g : Grw h y := by rw [ey]; exact al_grw _ _ _
  have Sy : Shape y := S.grw g
  have ny : nx y = nx h + 1 := by rw [ey]; rfl
  have ty : tg y (nx h) = 1 := by rw [ey]; exact (al_new _ _ _).1
  have o : ∀ b i, b < nx h → gv y b i = gv h b i := fun b i hb => (g.2 b hb).2.2 i
  refine p_dup 88 rfl rfl nl_r ?_
  refine p_aload 89 rfl rfl rfl ?_
  refine p_getfi (j := 8) (z := (G.length : Int)) 92 rfl rfl rfl (tg_11 Sy) rfl ((o 11 8 (by omega)).trans X.1) ?_
  refine p_aload 93 rfl rfl rfl ?_
  refine p_getfr (j := 9) (z := 12) 96 rfl rfl rfl (tg_11 Sy) rfl (fi_11_9 Sy) ?_
  refine p_aload 97 rfl rfl rfl ?_
  refine p_getfr (j := 10) (z := 13) 100 rfl rfl rfl (tg_11 Sy) rfl (fi_11_10 Sy) ?_
  refine p_aload 101 rfl rfl rfl ?_
  refine p_getfr (j := 11) (z := 14) 104 rfl rfl rfl (tg_11 Sy) rfl (fi_11_11 Sy) ?_
  refine p_aload 105 rfl rfl rfl ?_
  refine p_getfr (j := 12) (z := 15) 108 rfl rfl rfl (tg_11 Sy) rfl (fi_11_12 Sy) ?_
  refine p_aload 109 rfl rfl rfl ?_
  refine p_getfi (j := 13) (z := ((prgG G).length : Int)) 112 rfl rfl rfl (tg_11 Sy) rfl ((o 11 13 (by omega)).trans (by have z := P.1; rw [List.length_map] at z; exact z)) ?_
  refine p_calli (le := [some (.inr (.inr (nx h))), some (.inl G.length), some (.inr (.inr 12)), some (.inr (.inr 13)), some (.inr (.inr 14)), some (.inr (.inr 15)), some (.inl (prgG G).length), none]) (as := [.inr (.inr (nx h)), .inl G.length, .inr (.inr 12), .inr (.inr 13), .inr (.inr 14), .inr (.inr 15), .inl (prgG G).length]) (rest := [.inr (.inr (nx h))]) 115 6 2900 1 93 rfl rfl (Nat.le_of_ble_eq_true rfl) rfl (Nat.le_of_ble_eq_true rfl) rfl rfl (Nat.le_of_ble_eq_true rfl) rfl (Nat.le_of_ble_eq_true rfl) rfl (Nat.le_of_ble_eq_true rfl) (Nat.le_of_ble_eq_true rfl) rfl rfl ty ?_
  refine x_initBook (d := d + 28) Sy ny n8 ty (Int.natCast_nonneg _) (by omega) (Int.natCast_nonneg _) (by omega) (fun h2 B2 => ?_)
  show Wp (d + 31) 1 93 M_X2_makeBook 115 [some (.inr (.inr 11)), some (.inl w)] [.inr (.inr (nx h))] h2 q
  refine p_aret rfl rfl ?_
  obtain ⟨⟨b1, b2⟩, b3, b4, b5⟩ := B2
  refine K h2 ⟨by omega, fun b hb => ?_⟩ b1 ⟨b3, fun i s hs => ?_, fun j x hj => ?_⟩
  · obtain ⟨x, y1, z⟩ := b2 b hb
    obtain ⟨x2, y2, z2⟩ := g.2 b hb
    exact ⟨x.trans x2, y1.trans y2, fun i => (z i).trans (z2 i)⟩
  · have il := get_ltS hs
    obtain ⟨c1, c2, c3, c4, c5⟩ := b4 i (by omega) (by omega)
    obtain ⟨s1, s2, s3⟩ := X.2 i s hs
    have e12 := fun j => o 12 j (by omega)
    have e13 := o 13 i (by omega)
    have e14 := o 14 i (by omega)
    refine ⟨by rw [c1, e12]; exact s1, by rw [c2, e13]; exact s2, by rw [c3, e14]; exact s3, by rw [c4, e13, s2], ?_⟩
    rw [e12, s1] at c5
    refine isF_congr (fun j j0 j1 => ?_) c5
    show gv y 12 j = nmG G j
    rw [e12]
    have z := X.nm (j := j.toNat) (by omega)
    rw [Int.toNat_of_nonneg j0] at z
    exact z
  · have jl := get_lt hj
    rw [b5 j (by omega) (by omega), o 15 j (by omega)]
    exact P.2 j (tcf x) (by rw [List.getElem?_map, hj]; rfl)
theorem x_addBook {d : Nat} {h : PH} {q : PQ} (S : Shape h) (a : Int) {n pl : Int} (hB : BkS h a n pl) (c0 : 0 ≤ gv h 18 5) (c2 : gv h 18 5 < 200) (K : ∀ h', h' = sv (sv h 18 5 (gv h 18 5 + 1)) 19 (gv h 18 5 + 1) a → Shape h' → q (some (.inl (gv h 18 5 + 1))) h') :
    Wp (d + 1) 0 0 M_X0_addBook 0 [some (.inr (.inr 18)), some (.inr (.inr a))] [] h q := by
  refine p_aload 1 rfl rfl rfl ?_
  refine p_getfi (j := 5) (z := gv h 18 5) 4 rfl rfl rfl (tg_18 S) rfl rfl ?_
  refine p_const 7 rfl rfl ?_
  refine p_ic_ge_f 10 rfl rfl (by omega) ?_
  refine p_aload 11 rfl rfl rfl ?_
  refine p_dup 12 rfl rfl nl_r ?_
  refine p_getfi (j := 5) (z := gv h 18 5) 15 rfl rfl rfl (tg_18 S) rfl rfl ?_
  refine p_const 16 rfl rfl ?_
  refine p_iadd (z := (gv h 18 5) + 1) 17 rfl rfl (w32_id ⟨(by omega), (by omega)⟩) ?_
  refine p_putfi (j := 5) 20 rfl rfl rfl (fun z => absurd z (by decide)) (tg_18 S) rfl ?_
  refine p_nmh (fun y1 e1 => ?_)
  have S1 : Shape y1 := by rw [e1]; exact S.svF ff_18_5 _
  refine p_aload 21 rfl rfl rfl ?_
  refine p_getfr (j := 0) (z := 19) 24 rfl rfl rfl (tg_18 S1) rfl (fi_18_0 S1) ?_
  refine p_aload 25 rfl rfl rfl ?_
  refine p_getfi (j := 5) (z := (gv h 18 5) + 1) 28 rfl rfl rfl (tg_18 S1) rfl (by rw [e1]; exact sv_eq _ _ _ _) ?_
  refine p_aload 29 rfl rfl rfl ?_
  have ge := hB.ge
  have hB : BkS y1 a n pl := by rw [e1]; exact hB.svo (by omega)
  refine p_aast (w := 201) 30 rfl rfl (by decide) (tg_19 S1) (ln_19 S1) hB.tag (by omega) (by omega) ?_
  refine p_nmh (fun y2 e2 => ?_)
  have S2 : Shape y2 := by rw [e2]; exact S1.svA fa_19 _ _
  refine p_aload 31 rfl rfl rfl ?_
  refine p_getfi (j := 5) (z := (gv h 18 5) + 1) 34 rfl rfl rfl (tg_18 S2) rfl (by rw [e2, sv_ne (by decide)]; rw [e1]; exact sv_eq _ _ _ _) ?_
  refine p_iret rfl rfl ?_
  -- leaf 1: answer [.inl ((gv h 18 5) + 1)] h=y2 e2,e1
  exact K _ (by rw [e2, e1]) S2
theorem x_book {d : Nat} {h : PH} {q : PQ} (S : Shape h) (c0 : 0 ≤ gv h 18 5) (c2 : gv h 18 5 ≤ 200) {T : Int → Int} {n : Int} (O : TxO T n) (Y : TxX h T n)
    (KF : gv h 18 5 = 200 → ∀ h', h' = sv h 3 1 0 → Shape h' → q (some (.inl (-2))) h')
    (KB : gv h 18 5 < 200 → ∀ h' L k p R, Keep bxA h h' → LexA T n L → BadB L k p R [] 0 → gv h' 3 1 = 0 → gv h' 11 6 = k → gv h' 11 7 = p → gv h' 18 5 = gv h 18 5 → (∀ i, gv h' 19 i = gv h 19 i) → Shape h' → q (some (.inl (-1))) h')
    (KO : gv h 18 5 < 200 → ∀ h' L G, LexA T n L → OkB L G [] 0 → G.length ≤ 40 → (prgG G).length ≤ 700 → BkXd h h' G → Shape h' → q (some (.inl (gv h 18 5 + 1))) h') :
    Wp (d + 32) 8 3000 M_X11_book 0 [some (.inr (.inr 2)), none] [] h q := by
  have n8 := S.1
  have J31n : gv h 18 5 < 200 → ∀ (h1 : PH) (L : List Tok) (k p : Int) (R : List Sns), Keep mkbA h h1 → LexA T n L → BadB L k p R [] 0 → gv h1 11 6 = k → gv h1 11 7 = p → Shape h1 → Wp (d + 32) 0 0 M_X11_book 31 [some (.inr (.inr 2)), none] [.inr (.inr 0)] h1 q := by
    intro lt h1 L k p R k1 LX D f6 f7 S1
    refine p_astore (ls' := [some (.inr (.inr 2)), some (.inr (.inr 0))]) 32 rfl rfl (Nat.le_of_ble_eq_true rfl) rfl ?_
    refine p_aload 33 rfl rfl rfl ?_
    refine p_getfr (j := 0) (z := 3) 36 rfl rfl rfl (tg_2 S1) rfl (fi_2_0 S1) ?_
    refine p_const 37 rfl rfl ?_
    refine p_putfi (j := 1) 40 rfl rfl rfl (fun z => absurd z (by decide)) (tg_3 S1) rfl ?_
    refine p_nmh (fun y1 e1 => ?_)
    have S1 : Shape y1 := by rw [e1]; exact S1.svF ff_3_1 _
    refine p_aload 41 rfl rfl rfl ?_
    refine p_ifnonnull 44 48 rfl rfl rfl (fun z => absurd (by rfl) z) (fun c2 => ?_)
    refine p_const 45 rfl rfl ?_
    refine p_goto 56 rfl rfl ?_
    refine p_iret rfl rfl ?_
    -- leaf 1: answer [.inl (-1)] h=y1 e1
    refine KB lt _ L k p R (by rw [e1]; exact (k1.wide mkbA_bxA).sv rfl _) LX D (by rw [e1, sv_eq]) ?_ ?_ ?_ ?_ S1
    · rw [e1, sv_ne (by decide)]; exact f6
    · rw [e1, sv_ne (by decide)]; exact f7
    · rw [e1, sv_ne (by decide)]; exact k1.1 18 5 rfl
    · intro i; rw [e1, sv_ne (by decide)]; exact k1.1 19 i rfl
  have J31b : gv h 18 5 < 200 → ∀ (a : Int) (h1 h2 : PH) (L : List Tok) (G : List Sns), a = nx h1 → Keep mkbA h h1 → LexA T n L → OkB L G [] 0 → G.length ≤ 40 → (prgG G).length ≤ 700 → gv h1 11 6 = 0 → gv h1 11 7 = -1 → Grw h1 h2 → nx h2 = nx h1 + 7 → BkXa h2 G a → Shape h2 → Wp (d + 32) 0 0 M_X11_book 31 [some (.inr (.inr 2)), none] [.inr (.inr a)] h2 q := by
    intro lt a h1 h2 L G ea k1 LX D g40 pl f6 f7 g nn XA S2
    have hB := XA.1
    have ge := hB.ge
    have n1 : nx h1 = nx h := k1.2.1
    have o : ∀ b i, b < nx h1 → gv h2 b i = gv h1 b i := fun b i hb => (g.2 b hb).2.2 i
    have g18 : gv h2 18 5 = gv h 18 5 := (o 18 5 (by omega)).trans (k1.1 18 5 rfl)
    refine p_astore (ls' := [some (.inr (.inr 2)), some (.inr (.inr a))]) 32 rfl rfl (Nat.le_of_ble_eq_true rfl) rfl ?_
    refine p_aload 33 rfl rfl rfl ?_
    refine p_getfr (j := 0) (z := 3) 36 rfl rfl rfl (tg_2 S2) rfl (fi_2_0 S2) ?_
    refine p_const 37 rfl rfl ?_
    refine p_putfi (j := 1) 40 rfl rfl rfl (fun z => absurd z (by decide)) (tg_3 S2) rfl ?_
    refine p_nmh (fun y1 e1 => ?_)
    have S1 : Shape y1 := by rw [e1]; exact S2.svF ff_3_1 _
    have B1 : BkS y1 a G.length (prgG G).length := by rw [e1]; exact hB.svo (by omega)
    have h18 : gv y1 18 5 = gv h 18 5 := by rw [e1, sv_ne (by decide)]; exact g18
    have go : ∀ h', h' = sv (sv y1 18 5 (gv y1 18 5 + 1)) 19 (gv y1 18 5 + 1) a → Shape h' → Wp (d + 32) 0 0 M_X11_book 56 [some (.inr (.inr 2)), some (.inr (.inr a))] [.inl (gv y1 18 5 + 1)] h' q := by
      intro h' eh S'
      refine p_iret rfl rfl ?_
      rw [h18] at eh ⊢
      have ev : ∀ b i, b ≠ 3 → b ≠ 18 → b ≠ 19 → gv h' b i = gv h2 b i := fun b i x y z => by rw [eh, sv_ne z, sv_ne y, e1, sv_ne x]
      have kk : KpG bxA h h' := by
        have k2 : KpG bxA h h2 := (KpG.of (k1.wide mkbA_bxA)).trans ⟨g.1, fun b hb => ⟨(g.2 b hb).1, (g.2 b hb).2.1, fun i _ => (g.2 b hb).2.2 i⟩⟩
        rw [eh, e1]
        exact ((k2.sv rfl).sv rfl).sv rfl
      refine KO lt h' L G LX D g40 pl ⟨kk, by rw [eh, e1]; show nx h2 = _; omega, ⟨?_, ?_, ?_, ?_, ?_⟩, ?_, ?_⟩ S'
      · rw [eh, sv_ne (by decide), sv_ne (by decide), e1, sv_eq]
      · rw [ev 11 6 (by decide) (by decide) (by decide), o 11 6 (by omega)]; exact f6
      · rw [ev 11 7 (by decide) (by decide) (by decide), o 11 7 (by omega)]; exact f7
      · rw [eh, sv_ne (by decide), sv_eq]
      · rw [eh, sv_eq, ea, n1]
      · intro i hi; rw [eh, sv_nf hi, sv_ne (by decide), e1, sv_ne (by decide), o 19 i (by omega)]; exact k1.1 19 i rfl
      · rw [← n1, ← ea]
        obtain ⟨x1, x2, x3⟩ := XA
        refine ⟨by rw [eh, e1]; exact ((x1.svo (by omega)).svo (by omega)).svo (by omega), fun i s hs => ?_, fun j x hj => ?_⟩
        · obtain ⟨c1, c2, c3, c4, c5⟩ := x2 i s hs
          have e := fun k => ev (a + k)
          rw [ev _ _ (by omega) (by omega) (by omega), ev (a + 2) _ (by omega) (by omega) (by omega), ev (a + 3) _ (by omega) (by omega) (by omega), ev (a + 5) _ (by omega) (by omega) (by omega), ev (a + 6) _ (by omega) (by omega) (by omega)]
          exact ⟨c1, c2, c3, c4, c5⟩
        · rw [ev _ _ (by omega) (by omega) (by omega)]; exact x3 j x hj
    refine p_aload 41 rfl rfl rfl ?_
    refine p_ifnonnull 44 48 rfl rfl rfl (fun c2 => ?_) (fun z => absurd z (by omega))
    refine p_aload 49 rfl rfl rfl ?_
    refine p_getfr (j := 3) (z := 18) 52 rfl rfl rfl (tg_2 S1) rfl (fi_2_3 S1) ?_
    refine p_aload 53 rfl rfl rfl ?_
    refine p_callv (le := [some (.inr (.inr 18)), some (.inr (.inr a))]) (as := [.inr (.inr 18), .inr (.inr a)]) (rest := []) 56 0 0 0 0 rfl rfl (Nat.le_of_ble_eq_true rfl) rfl (Nat.le_of_ble_eq_true rfl) rfl rfl (Nat.le_of_ble_eq_true rfl) rfl (Nat.le_of_ble_eq_true rfl) rfl (Nat.le_refl _) (Nat.le_refl _) rfl rfl (tg_18 S1) ?_
    exact (x_addBook S1 a (n := G.length) (pl := (prgG G).length) B1 (by omega) (by omega) (fun h' eh S' => go h' eh S'))
  refine p_aload 1 rfl rfl rfl ?_
  refine p_getfr (j := 3) (z := 18) 4 rfl rfl rfl (tg_2 S) rfl (fi_2_3 S) ?_
  refine p_getfi (j := 5) (z := gv h 18 5) 7 rfl rfl rfl (tg_18 S) rfl rfl ?_
  refine p_const 10 rfl rfl ?_
  refine p_ic_lt 13 24 rfl rfl rfl (fun c1 => ?_) (fun c1 => ?_)
  · skip
    -- leaf 1: loop 24 [some (.inr (.inr 2)), none] st=[] h=h 
    have lt : gv h 18 5 < 200 := by omega
    refine p_aload 25 rfl rfl rfl ?_
    refine p_getfr (j := 2) (z := 11) 28 rfl rfl rfl (tg_2 S) rfl (fi_2_2 S) ?_
    refine p_callv (le := [some (.inr (.inr 11)), none]) (as := [.inr (.inr 11)]) (rest := []) 31 8 3000 0 0 rfl rfl (Nat.le_of_ble_eq_true rfl) rfl (Nat.le_of_ble_eq_true rfl) rfl rfl (Nat.le_of_ble_eq_true rfl) rfl (Nat.le_of_ble_eq_true rfl) rfl (Nat.le_refl _) (Nat.le_refl _) rfl rfl (tg_11 S) ?_
    refine x_makeBook S O Y (fun h1 p S1 => ?_) (fun h1 L G w k1 LX D X P f6 f7 g40 pl S1 => ?_)
    · obtain ⟨k1, L, k, p, LX, ⟨R, D⟩, f6, f7⟩ := p
      exact J31n lt h1 L k p R k1 LX D f6 f7 S1
    · refine x_make84 S1 X P g40 pl (fun h2 g nn XA => ?_)
      exact J31b lt (nx h1) h1 h2 L G rfl k1 LX D g40 pl f6 f7 g nn XA (S1.grw g)
  · skip
    refine p_aload 14 rfl rfl rfl ?_
    refine p_getfr (j := 0) (z := 3) 17 rfl rfl rfl (tg_2 S) rfl (fi_2_0 S) ?_
    refine p_const 18 rfl rfl ?_
    refine p_putfi (j := 1) 21 rfl rfl rfl (fun z => absurd z (by decide)) (tg_3 S) rfl ?_
    refine p_nmh (fun y2 e2 => ?_)
    have S2 : Shape y2 := by rw [e2]; exact S.svF ff_3_1 _
    refine p_const 23 rfl rfl ?_
    refine p_iret rfl rfl ?_
    -- leaf 2: answer [.inl (-2)] h=y2 e2
    exact KF (by omega) _ e2 S2

