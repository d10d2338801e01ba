/-! THE MODEL'S READER: a statement read to its end -/
def Mx6 (G : List Sns) : Prop := ∀ v, cN (nmG G) v G.length ≤ 6
theorem nmG_snoc (G : List Sns) (s : Sns) : (∀ j : Nat, j < G.length → nmG (G ++ [s]) j = nmG G j) ∧ nmG (G ++ [s]) G.length = s.1 := by
  constructor
  · intro j hj
    unfold nmG
    rw [Int.toNat_natCast, List.getD_eq_getElem?_getD, List.getD_eq_getElem?_getD, List.getElem?_append_left hj]
  · unfold nmG
    rw [Int.toNat_natCast, List.getD_eq_getElem?_getD, List.getElem?_append_right (Nat.le_refl _), Nat.sub_self]; rfl
theorem Mx6.snoc {G : List Sns} {s : Sns} (M : Mx6 G) (ok : cN (nmG G) s.1 G.length ≤ 5) : Mx6 (G ++ [s]) := by
  intro v
  obtain ⟨a, b⟩ := nmG_snoc G s
  rw [show (G ++ [s]).length = G.length + 1 by rw [List.length_append]; rfl]
  show cN (nmG (G ++ [s])) v G.length + (if nmG (G ++ [s]) G.length = v then 1 else 0) ≤ 6
  rw [cN_congr a, b]
  have m := M v
  by_cases z : s.1 = v
  · rw [if_pos z, ← z]; omega
  · rw [if_neg z]; omega
theorem Mx6.nil : Mx6 [] := fun v => by show (0 : Int) ≤ 6; decide
section MSS
variable {d : Nat} {h0 : PH} {q : PQ} {T : Int → Int} {n : Int} {G : List Sns} {L : List Tok} {i : Nat} {r : Rst}
theorem ms_250 {h : PH} {g : Int} {j : Nat} {c : List Int} {w1 w2 w3 : Option PV} (O : TxO T n) (LX : LexA T n L) (S : Shape h) (R : StA h0 h T n G (prgG G ++ c)) (M : MAt h T n L j) (g40 : G.length < 40) (hg : g = G.length) (lc : (prgG G ++ c).length ≤ 699)
    (n80 : gv h 80 G.length = (tk L (i + 1)).2.2.2) (n81 : gv h 81 G.length = (tk L (i + 3)).2.2.2) (n82 : gv h 82 G.length = (prgG G).length) (E : EndR L i j c r)
    (K1 : ∀ j s, r = .inl (j, s) → ∀ h', (StA h0 h' T n (G ++ [s]) (prgG (G ++ [s])) ∧ MAt h' T n L j) → Shape h' → q none h') (K2 : ∀ k p, r = .inr (k, p) → ∀ h', BdE h0 h' k p → Shape h' → q none h') :
    Wp (d + 9) 0 0 M_X12_statement 250 [some (.inr (.inr 66)), some (.inl g), w1, w2, w3] [] h q := by
  have c26 := R.2.2.1.1
  have J266b : ∀ (h1 : PH) (k p : Int), r = .inr (k, p) → BdA h0 h1 G k p → Shape h1 → Wp (d + 9) 0 0 M_X12_statement 266 [some (.inr (.inr 66)), some (.inl g), w1, w2, w3] [] h1 q := by
    intro h1 k p er B S1
    have B79 := B.2.2.2.2.2
    refine p_aload 267 rfl rfl rfl ?_
    refine p_getfr (j := 20) (z := 79) 270 rfl rfl rfl (tg_66 S1) rfl (fi_66_20 S1) ?_
    refine p_const 271 rfl rfl ?_
    refine p_dup2 272 rfl rfl nl_i nl_r ?_
    refine p_iald (w := 201) (z := gv h1 79 0) 273 rfl rfl (tg_79 S1) (ln_79 S1) (by decide) (by decide) rfl ?_
    refine p_const 274 rfl rfl ?_
    refine p_iadd (z := (gv h1 79 0) + 1) 275 rfl rfl (w32_id ⟨(by omega), (by omega)⟩) ?_
    refine p_iast (w := 201) 276 rfl rfl (by decide) (tg_79 S1) (ln_79 S1) (by decide) (by decide) ?_
    refine p_nmh (fun y1 e1 => ?_)
    have S1 : Shape y1 := by rw [e1]; exact S1.svA fa_79 _ _
    refine p_ret rfl rfl ?_
    -- leaf 1: answer [] h=y1 e1
    refine K2 k p er _ ⟨by rw [e1]; exact B.1.sv rfl _, ?_, B.2.2.1, ?_⟩ S1
    · rw [e1, sv_ne (by decide)]; exact B.2.1
    · rw [e1, sv_ne (by decide)]; exact B.2.2.2.1
  have J266 : ∀ (h1 : PH), isSg L j 59 → StA h0 h1 T n G (prgG G ++ c) → MAt h1 T n L (j + 1) → gv h1 80 G.length = (tk L (i + 1)).2.2.2 → gv h1 81 G.length = (tk L (i + 3)).2.2.2 → gv h1 82 G.length = (prgG G).length → gv h1 83 G.length = (prgG G ++ c).length → Shape h1 → Wp (d + 9) 0 0 M_X12_statement 266 [some (.inr (.inr 66)), some (.inl g), w1, w2, w3] [] h1 q := by
    intro h1 is R1 M1 m80 m81 m82 m83 S1
    have B79 := R1.2.2.2.1.1
    refine p_aload 267 rfl rfl rfl ?_
    refine p_getfr (j := 20) (z := 79) 270 rfl rfl rfl (tg_66 S1) rfl (fi_66_20 S1) ?_
    refine p_const 271 rfl rfl ?_
    refine p_dup2 272 rfl rfl nl_i nl_r ?_
    refine p_iald (w := 201) (z := (G.length : Int)) 273 rfl rfl (tg_79 S1) (ln_79 S1) (by decide) (by decide) B79 ?_
    refine p_const 274 rfl rfl ?_
    refine p_iadd (z := (G.length : Int) + 1) 275 rfl rfl (w32_id ⟨(by omega), (by omega)⟩) ?_
    refine p_iast (w := 201) 276 rfl rfl (by decide) (tg_79 S1) (ln_79 S1) (by decide) (by decide) ?_
    refine p_nmh (fun y1 e1 => ?_)
    have S1 : Shape y1 := by rw [e1]; exact S1.svA fa_79 _ _
    refine p_ret rfl rfl ?_
    -- leaf 1: answer [] h=y1 e1
    have es := E.1 is
    obtain ⟨⟨u1, u7⟩, ⟨u2, u3⟩, u4, u5, u6⟩ := R1
    have k : Keep bmA h1 y1 := by rw [e1]; exact (Keep.rf _ _).sv rfl _
    have epg : prgG (G ++ [((tk L (i + 1)).2.2.2, (tk L (i + 3)).2.2.2, c)]) = prgG G ++ c := by
      unfold prgG
      rw [List.flatMap_append]
      show _ ++ (c ++ []) = _
      rw [List.append_nil]
    refine K1 _ _ es _ ⟨⟨⟨u1.trans k, by rw [e1, sv_ne (by decide)]; exact u7⟩, ⟨u2.kp (k.1 66 3 rfl) (fun i => k.1 67 i rfl), u3.kp k bmA_wd⟩, ?_, u5.snoc _ ?_ ?_ ?_ ?_ ?_ ?_, ?_⟩, M1.of (by rw [e1, sv_ne (by decide)]) (by rw [e1, sv_ne (by decide)])⟩ S1
    · rw [epg]; exact u4.of (by rw [e1, sv_ne (by decide)]) (fun i => by rw [e1, sv_ne (by decide)])
    · rw [e1, sv_eq]
    · intro a k x y z; rw [e1, sv_ne (by omega)]
    · rw [e1, sv_ne (by decide)]; exact m80
    · rw [e1, sv_ne (by decide)]; exact m81
    · rw [e1, sv_ne (by decide)]; exact m82
    · rw [e1, sv_ne (by decide)]; exact m83
    · rw [e1, sv_ne (by decide)]; exact u6
  have go : ∀ y : PH, y = sv h 83 g ((prgG G ++ c).length : Int) → Shape y → Wp (d + 8) 0 0 M_X12_asksSign 0 [some (.inr (.inr 66)), some (.inl 59)] [] y (fun r h' => Wp (d + 9) 0 0 M_X12_statement 266 [some (.inr (.inr 66)), some (.inl g), w1, w2, w3] (r.toList ++ []) h' q) := by
    intro y ey Sy
    have Ry : StA h0 y T n G (prgG G ++ c) := by rw [ey]; exact R.row g40 hg (by decide) (by decide)
    have My : MAt y T n L j := by rw [ey]; exact M.row (by decide)
    have r83 : gv y 83 G.length = (prgG G ++ c).length := by rw [ey, hg, sv_eq]
    have rr : ∀ a, a ≠ 83 → gv y a G.length = gv h a G.length := fun a ha => by rw [ey, sv_ne ha]
    refine m_asksSign Sy 59 ⟨by decide, by decide, by decide, by decide⟩ O Ry.2.1.1 LX My Ry.2.2.2.2 (fun y2 p S2 => ?_) (fun y2 p S2 => ?_)
    · have k := p.1.wide lukA_nmA
      exact J266 y2 p.2.1 (Ry.kp k ((p.1.1 66 5 rfl).trans Ry.2.2.2.2) (p.1.1 66 6 rfl)) p.2.2 ((p.1.1 80 _ (decide_eq_false (by omega))).trans ((rr 80 (by decide)).trans n80)) ((p.1.1 81 _ (decide_eq_false (by omega))).trans ((rr 81 (by decide)).trans n81)) ((p.1.1 82 _ (decide_eq_false (by omega))).trans ((rr 82 (by decide)).trans n82)) ((p.1.1 83 _ (decide_eq_false (by omega))).trans r83) S2
    · exact J266b y2 1 _ (E.2 p.2.1) (Ry.bd p.1 p.2.2.1 (by decide) p.2.2.2 lc) S2
  refine p_aload 251 rfl rfl rfl ?_
  refine p_getfr (j := 24) (z := 83) 254 rfl rfl rfl (tg_66 S) rfl (fi_66_24 S) ?_
  refine p_iload 255 rfl rfl rfl ?_
  refine p_aload 256 rfl rfl rfl ?_
  refine p_getfi (j := 26) (z := ((prgG G ++ c).length : Int)) 259 rfl rfl rfl (tg_66 S) rfl c26 ?_
  refine p_iast (w := 8040) 260 rfl rfl (by decide) (tg_83 S) (ln_83 S) (by omega) (by omega) ?_
  refine p_nmh (fun y1 e1 => ?_)
  have S1 : Shape y1 := by rw [e1]; exact S.svA fa_83 _ _
  refine p_aload 261 rfl rfl rfl ?_
  refine p_const 263 rfl rfl ?_
  refine p_callv (le := [some (.inr (.inr 66)), some (.inl 59)]) (as := [.inr (.inr 66), .inl 59]) (rest := []) 266 0 0 0 0 rfl rfl (Nat.le_of_ble_eq_true rfl) rfl (Nat.le_of_ble_eq_true rfl) rfl rfl (Nat.le_of_ble_eq_true rfl) rfl (Nat.le_of_ble_eq_true rfl) rfl (Nat.le_refl _) (Nat.le_refl _) rfl rfl (tg_66 S1) ?_
  exact go _ e1 S1
theorem ms_210 {h : PH} {g : Int} {w1 w2 w3 : Option PV} (O : TxO T n) (LX : LexA T n L) (S : Shape h) (R : StA h0 h T n G (prgG G)) (M : MAt h T n L (i + 4)) (g40 : G.length < 40) (hg : g = G.length) (pl : (prgG G).length ≤ i)
    (n80 : gv h 80 G.length = (tk L (i + 1)).2.2.2) (n81 : gv h 81 G.length = (tk L (i + 3)).2.2.2) (D : StR L G i r) (w : isWd L i 20101733) (m : NmOk L G (i + 1)) (v : isWd L (i + 2) 307) (cd : CdOk L (i + 3))
    (K1 : ∀ j s, r = .inl (j, s) → ∀ h', (StA h0 h' T n (G ++ [s]) (prgG (G ++ [s])) ∧ MAt h' T n L j) → Shape h' → q none h') (K2 : ∀ k p, r = .inr (k, p) → ∀ h', BdE h0 h' k p → Shape h' → q none h') :
    Wp (d + 9) 0 0 M_X12_statement 210 [some (.inr (.inr 66)), some (.inl g), w1, w2, w3] [] h q := by
  have l7 := (LX.tl O).1
  have i7 := M.1
  have c26 := R.2.2.1.1
  have goT : ∀ (y y2 : PH), StA h0 y T n G (prgG G) → gv y 80 G.length = (tk L (i + 1)).2.2.2 → gv y 81 G.length = (tk L (i + 3)).2.2.2 → gv y 82 G.length = (prgG G).length → gv y 66 28 = 0 → gv y 66 29 = 0 → gv y 66 30 = 0 → (Keep tkA y y2 ∧ isWd L (i + 4) 6642 ∧ MAt y2 T n L (i + 5)) → Shape y2 → Wp (d + 8) 0 0 M_X12_test 0 [some (.inr (.inr 66)), none, none] [] y2 (fun r h' => Wp (d + 9) 0 0 M_X12_statement 250 [some (.inr (.inr 66)), some (.inl g), w1, w2, w3] (r.toList ++ []) h' q) := by
    intro y y2 Ry m80 m81 m82 z28 z29 z30 p S2
    have k := p.1.wide tkA_nmA
    have R2 : StA h0 y2 T n G (prgG G) := Ry.kp k ((p.1.1 66 5 rfl).trans Ry.2.2.2.2) (p.1.1 66 6 rfl)
    obtain ⟨r', Dv', db, dk⟩ := D.test w m v cd p.2.1
    have o80 : gv y2 80 G.length = (tk L (i + 1)).2.2.2 := (p.1.1 80 _ (decide_eq_false (by omega))).trans m80
    have o81 : gv y2 81 G.length = (tk L (i + 3)).2.2.2 := (p.1.1 81 _ (decide_eq_false (by omega))).trans m81
    have o82 : gv y2 82 G.length = (prgG G).length := (p.1.1 82 _ (decide_eq_false (by omega))).trans m82
    have j7 := p.2.2.1
    have RM : RdM y2 y2 T n L (i + 5) 0 0 [] (prgG G) := ⟨Keep.rf _ _, R2.2.1, p.2.2, R2.2.2.2.2, (p.1.1 66 29 rfl).trans z29, (p.1.1 66 30 rfl).trans z30, ⟨(p.1.1 66 28 rfl).trans z28, fun j x hj => by cases hj⟩, R2.2.2.1, by show 0 + (prgG G).length + 4 ≤ i + 5; omega, by decide, R2.1.2⟩
    refine m_test S2 O LX Dv' RM (prv_wd p.2.1.1) (fun j c er h3 R3 S3 => ?_) (fun k p' er h3 B3 S3 => ?_)
    · have kr := R3.1
      have u10 := R3.2.2.2.2.2.2.2.2.1
      have jj := tk_lt O LX R3
      have u10 : 0 + (prgG G ++ c).length + 4 ≤ j := u10
      have R4 : StA h0 h3 T n G (prgG G ++ c) := ⟨⟨R2.1.1.trans (kr.wide rtA_bmA), R3.2.2.2.2.2.2.2.2.2.2⟩, R3.2.1, R3.2.2.2.2.2.2.2.1, R2.2.2.2.1.of (kr.1 79 0 rfl) (fun a k x y z => kr.1 a k (decide_eq_false (by omega))), R3.2.2.2.1⟩
      exact ms_250 O LX S3 R4 R3.2.2.1 g40 hg (by omega) ((kr.1 80 _ (decide_eq_false (by omega))).trans o80) ((kr.1 81 _ (decide_eq_false (by omega))).trans o81) ((kr.1 82 _ (decide_eq_false (by omega))).trans o82) (dk j c er) K1 K2
    · obtain ⟨b1, b2, b3, b4, b5, b6⟩ := B3
      exact ms_250b S3 ⟨R2.1.1.trans (b1.wide rtA_bmA), b2, b3, b4, ⟨b5, b6⟩, (b1.1 79 0 rfl).trans R2.2.2.2.1.1⟩ g40 hg (K2 k p' (db k p' er))
  refine p_aload 211 rfl rfl rfl ?_
  refine p_getfr (j := 23) (z := 82) 214 rfl rfl rfl (tg_66 S) rfl (fi_66_23 S) ?_
  refine p_iload 215 rfl rfl rfl ?_
  refine p_aload 216 rfl rfl rfl ?_
  refine p_getfi (j := 26) (z := ((prgG G).length : Int)) 219 rfl rfl rfl (tg_66 S) rfl c26 ?_
  refine p_iast (w := 8040) 220 rfl rfl (by decide) (tg_82 S) (ln_82 S) (by omega) (by omega) ?_
  refine p_nmh (fun y1 e1 => ?_)
  have S1 : Shape y1 := by rw [e1]; exact S.svA fa_82 _ _
  refine p_aload 221 rfl rfl rfl ?_
  refine p_const 222 rfl rfl ?_
  refine p_putfi (j := 28) 225 rfl rfl rfl (fun z => absurd z (by decide)) (tg_66 S1) rfl ?_
  refine p_nmh (fun y2 e2 => ?_)
  have S2 : Shape y2 := by rw [e2]; exact S1.svF ff_66_28 _
  refine p_aload 226 rfl rfl rfl ?_
  refine p_const 227 rfl rfl ?_
  refine p_putfi (j := 29) 230 rfl rfl rfl (fun z => absurd z (by decide)) (tg_66 S2) rfl ?_
  refine p_nmh (fun y3 e3 => ?_)
  have S3 : Shape y3 := by rw [e3]; exact S2.svF ff_66_29 _
  refine p_aload 231 rfl rfl rfl ?_
  refine p_const 232 rfl rfl ?_
  refine p_putfi (j := 30) 235 rfl rfl rfl (fun z => absurd z (by decide)) (tg_66 S3) rfl ?_
  refine p_nmh (fun y4 e4 => ?_)
  have S4 : Shape y4 := by rw [e4]; exact S3.svF ff_66_30 _
  have R4 : StA h0 y4 T n G (prgG G) := by rw [e4, e3, e2, e1]; exact (((R.row g40 hg (by decide) (by decide)).fld (Or.inl rfl)).fld (Or.inr (Or.inl rfl))).fld (Or.inr (Or.inr rfl))
  have M4 : MAt y4 T n L (i + 4) := by rw [e4, e3, e2, e1]; exact (((M.row (by decide)).fld (Or.inl rfl)).fld (Or.inr (Or.inl rfl))).fld (Or.inr (Or.inr rfl))
  have m80 : gv y4 80 G.length = (tk L (i + 1)).2.2.2 := by rw [e4, sv_ne (by decide), e3, sv_ne (by decide), e2, sv_ne (by decide), e1, sv_ne (by decide)]; exact n80
  have m81 : gv y4 81 G.length = (tk L (i + 3)).2.2.2 := by rw [e4, sv_ne (by decide), e3, sv_ne (by decide), e2, sv_ne (by decide), e1, sv_ne (by decide)]; exact n81
  have m82 : gv y4 82 G.length = (prgG G).length := by rw [e4, sv_ne (by decide), e3, sv_ne (by decide), e2, sv_ne (by decide), e1, hg, sv_eq]
  have z28 : gv y4 66 28 = 0 := by rw [e4, sv_nf (by decide), e3, sv_nf (by decide), e2, sv_eq]
  have z29 : gv y4 66 29 = 0 := by rw [e4, sv_nf (by decide), e3, sv_eq]
  have z30 : gv y4 66 30 = 0 := by rw [e4, sv_eq]
  refine p_aload 236 rfl rfl rfl ?_
  refine p_aload 237 rfl rfl rfl ?_
  refine p_getfr (j := 11) (z := 70) 240 rfl rfl rfl (tg_66 S4) rfl (fi_66_11 S4) ?_
  refine p_callv (le := [some (.inr (.inr 66)), some (.inr (.inr 70))]) (as := [.inr (.inr 66), .inr (.inr 70)]) (rest := []) 243 0 0 0 0 rfl rfl (Nat.le_of_ble_eq_true rfl) rfl (Nat.le_of_ble_eq_true rfl) rfl rfl (Nat.le_of_ble_eq_true rfl) rfl (Nat.le_of_ble_eq_true rfl) rfl (Nat.le_refl _) (Nat.le_refl _) rfl rfl (tg_66 S4) ?_
  refine m_takesW S4 70 R4.2.1.2.2.2.1 (by decide) O R4.2.1.1 LX M4 R4.2.2.2.2 (fun y5 p5 S5 => ?_) (fun y5 p5 S5 => ?_)
  · show Wp (d + 9) 0 0 M_X12_statement 243 [some (.inr (.inr 66)), some (.inl g), w1, w2, w3] [.inl 1] y5 _
    refine p_if_eq_f 246 rfl rfl (by decide) ?_
    have pp : Keep tkA y4 y5 ∧ isWd L (i + 4) 6642 ∧ MAt y5 T n L (i + 5) := ⟨p5.1, by have z := p5.2.1; rw [w_for] at z; exact z, p5.2.2⟩
    refine p_aload 247 rfl rfl rfl ?_
    refine p_callv (le := [some (.inr (.inr 66)), none, none]) (as := [.inr (.inr 66)]) (rest := []) 250 0 0 0 0 rfl rfl (Nat.le_of_ble_eq_true rfl) rfl (Nat.le_of_ble_eq_true rfl) rfl rfl (Nat.le_of_ble_eq_true rfl) rfl (Nat.le_of_ble_eq_true rfl) rfl (Nat.le_refl _) (Nat.le_refl _) rfl rfl (tg_66 S5) ?_
    exact goT _ _ R4 m80 m81 m82 z28 z29 z30 pp S5
  · show Wp (d + 9) 0 0 M_X12_statement 243 [some (.inr (.inr 66)), some (.inl g), w1, w2, w3] [.inl 0] y5 _
    refine p_if_eq_t 250 rfl rfl (by decide) ?_
    -- leaf 1: loop 250 [some (.inr (.inr 66)), some (.inl g), w1, w2, w3] st=[] h=y5 
    have nf : ¬ isWd L (i + 4) 6642 := by have z := p5.2.1; rw [w_for] at z; exact z
    have R5 : StA h0 y5 T n G (prgG G ++ []) := by rw [List.append_nil]; exact R4.kp (p5.1.wide tkA_nmA) ((p5.1.1 66 5 rfl).trans R4.2.2.2.2) (p5.1.1 66 6 rfl)
    exact ms_250 O LX S5 R5 p5.2.2.1 g40 hg (by rw [List.append_nil]; omega) ((p5.1.1 80 _ (decide_eq_false (by omega))).trans m80) ((p5.1.1 81 _ (decide_eq_false (by omega))).trans m81) ((p5.1.1 82 _ (decide_eq_false (by omega))).trans m82) (D.bare w m v cd nf) K1 K2
end MSS

