/-! THE MODEL'S READER: a statement -/
def bmA (a i : Int) : Bool := decide ((a = 66 ∧ (i = 2 ∨ i = 4 ∨ i = 5 ∨ i = 6 ∨ i = 26 ∨ i = 28 ∨ i = 29 ∨ i = 30)) ∨ (a = 79 ∧ i = 0) ∨ (80 ≤ a ∧ a ≤ 83 ∧ i < 40) ∨ (a = 84 ∧ i < 700) ∨ a = 85)
theorem rtA_bmA : ∀ a i, bmA a i = false → rtA a i = false := fun a i => dw (by omega)
theorem nmA_bmA : ∀ a i, bmA a i = false → nmA a i = false := fun a i => dw (by omega)
theorem tkA_bmA : ∀ a i, bmA a i = false → tkA a i = false := fun a i => dw (by omega)
theorem lukA_bmA : ∀ a i, bmA a i = false → lukA a i = false := fun a i => dw (by omega)
theorem bmA_wd : ∀ a i, 68 ≤ a → a ≤ 78 → bmA a i = false := fun a i x y => decide_eq_false (by omega)
theorem get_ltS {q : List Sns} {j : Nat} {w : Sns} (h : q[j]? = some w) : j < q.length := (List.getElem?_eq_some_iff.1 h).1
theorem snoc_getS {A : List Sns} {x w : Sns} {j : Nat} (h : (A ++ [x])[j]? = some w) : (j < A.length ∧ A[j]? = some w) ∨ (j = A.length ∧ w = x) := by
  by_cases y : j < A.length
  · rw [List.getElem?_append_left y] at h; exact Or.inl ⟨y, h⟩
  · rw [List.getElem?_append_right (by omega)] at h
    have y0 : j = A.length := by
      apply Decidable.byContradiction
      intro y0
      rw [List.getElem?_eq_none (by show 1 ≤ j - A.length; omega)] at h
      cases h
    rw [y0, Nat.sub_self] at h
    have h : some x = some w := h
    cases h
    exact Or.inr ⟨y0, rfl⟩
/-- the senses read so far, as the model keeps them -/
def SnM (h : PH) (G : List Sns) : Prop := gv h 79 0 = G.length ∧ ∀ (k : Nat) s, G[k]? = some s → gv h 80 k = s.1 ∧ gv h 81 k = s.2.1 ∧ gv h 82 k = (prgG (G.take k)).length ∧ gv h 83 k = (prgG (G.take (k + 1))).length
theorem SnM.nm {h : PH} {G : List Sns} (X : SnM h G) {j : Nat} (hj : j < G.length) : gv h 80 j = nmG G j := by
  have z := (X.2 j _ (List.getElem?_eq_getElem hj)).1
  rw [z]
  unfold nmG
  rw [Int.toNat_natCast, List.getD_eq_getElem?_getD, List.getElem?_eq_getElem hj]; rfl
theorem SnM.of {h h' : PH} {G : List Sns} (X : SnM h G) (e : gv h' 79 0 = gv h 79 0) (en : ∀ a (k : Nat), 80 ≤ a → a ≤ 83 → k < G.length → gv h' a k = gv h a k) : SnM h' G := ⟨e.trans X.1, fun k s hs => by
  have lt := get_ltS hs
  rw [en 80 k (by decide) (by decide) lt, en 81 k (by decide) (by decide) lt, en 82 k (by decide) (by decide) lt, en 83 k (by decide) (by decide) lt]
  exact X.2 k s hs⟩
theorem SnM.snoc {h h' : PH} {G : List Sns} (X : SnM h G) (s : Sns) (e : gv h' 79 0 = G.length + 1) (en : ∀ a (k : Nat), 80 ≤ a → a ≤ 83 → k < G.length → gv h' a k = gv h a k) (n80 : gv h' 80 G.length = s.1) (n81 : gv h' 81 G.length = s.2.1) (n82 : gv h' 82 G.length = (prgG G).length) (n83 : gv h' 83 G.length = (prgG G ++ s.2.2).length) : SnM h' (G ++ [s]) := by
  refine ⟨by rw [e, List.length_append]; rfl, fun k y hy => ?_⟩
  rcases snoc_getS hy with ⟨j1, j2⟩ | ⟨j1, j2⟩
  · have lt := j1
    rw [en 80 k (by decide) (by decide) lt, en 81 k (by decide) (by decide) lt, en 82 k (by decide) (by decide) lt, en 83 k (by decide) (by decide) lt, List.take_append_of_le_length (by omega), List.take_append_of_le_length (by omega)]
    exact X.2 k y j2
  · rw [j2, j1]
    refine ⟨n80, n81, ?_, ?_⟩
    · rw [n82, List.take_append_of_le_length (Nat.le_refl _), List.take_length]
    · rw [n83, List.take_of_length_le (by rw [List.length_append]; exact Nat.le_refl _)]
      unfold prgG
      rw [List.flatMap_append]
      show _ = ((List.flatMap (fun x : Sns => x.2.2) G ++ (s.2.2 ++ [])).length : Int)
      rw [List.append_nil]
/-- in a statement, no fault: G read before, C coded -/
def StA (h0 h : PH) (T : Int → Int) (n : Int) (G : List Sns) (C : List Int) : Prop := (Keep bmA h0 h ∧ gv h 66 6 = -1) ∧ (TxM h T n ∧ WrdI h) ∧ CodM h C ∧ SnM h G ∧ gv h 66 5 = 0
/-- in a statement, a fault met -/
def BdA (h0 h : PH) (G : List Sns) (k p : Int) : Prop := Keep bmA h0 h ∧ gv h 66 5 = k ∧ k ≠ 0 ∧ gv h 66 6 = p ∧ (0 ≤ gv h 66 26 ∧ gv h 66 26 ≤ 699) ∧ gv h 79 0 = G.length
def BdE (h0 h : PH) (k p : Int) : Prop := Keep bmA h0 h ∧ gv h 66 5 = k ∧ k ≠ 0 ∧ gv h 66 6 = p
section MST
variable {h0 h : PH} {T : Int → Int} {n : Int} {G : List Sns} {C : List Int} {L : List Tok}
theorem StA.rdn {i : Nat} (R : StA h0 h T n G C) (M : MAt h T n L i) : RdN h T n L i := ⟨R.2.1, M, R.2.2.2.2⟩
theorem StA.kp {h' : PH} (R : StA h0 h T n G C) (k : Keep nmA h h') (b : gv h' 66 5 = 0) (e6 : gv h' 66 6 = gv h 66 6) : StA h0 h' T n G C := by
  obtain ⟨⟨r1, r7⟩, ⟨r2, r3⟩, r4, r5, r6⟩ := R
  exact ⟨⟨r1.trans (k.wide nmA_bmA), e6.trans r7⟩, ⟨r2.kp (k.1 66 3 rfl) (fun i => k.1 67 i rfl), r3.kp k (fun a i x y => decide_eq_false (by omega))⟩, r4.of (k.1 66 26 rfl) (fun i => k.1 84 i rfl), r5.of (k.1 79 0 rfl) (fun a j x y z => k.1 a j (decide_eq_false (by omega))), b⟩
theorem StA.bd {h' : PH} {k p : Int} (R : StA h0 h T n G C) (kk : Keep nmA h h') (b : gv h' 66 5 = k) (k0 : k ≠ 0) (pl : gv h' 66 6 = p) (lc : C.length ≤ 699) : BdA h0 h' G k p := by
  obtain ⟨⟨r1, r7⟩, ⟨r2, r3⟩, r4, r5, r6⟩ := R
  have e26 : gv h' 66 26 = (C.length : Int) := (kk.1 66 26 rfl).trans r4.1
  exact ⟨r1.trans (kk.wide nmA_bmA), b, k0, pl, by omega, (kk.1 79 0 rfl).trans r5.1⟩
theorem StA.row {g a v : Int} (R : StA h0 h T n G C) (g40 : G.length < 40) (hg : g = G.length) (a0 : 80 ≤ a) (a1 : a ≤ 83) : StA h0 (sv h a g v) T n G C := by
  obtain ⟨⟨r1, r7⟩, ⟨r2, r3⟩, r4, r5, r6⟩ := R
  have k : Keep bmA h (sv h a g v) := (Keep.rf _ _).sv (decide_eq_true (by omega)) _
  exact ⟨⟨r1.trans k, by rw [sv_ne (by omega)]; exact r7⟩, ⟨r2.kp (k.1 66 3 rfl) (fun i => k.1 67 i rfl), r3.kp k bmA_wd⟩, r4.of (by rw [sv_ne (by omega)]) (fun i => by rw [sv_ne (by omega)]), r5.of (by rw [sv_ne (by omega)]) (fun b j x y z => by
    by_cases e : b = a
    · rw [e, sv_nf (by omega)]
    · rw [sv_ne (by omega)]), by rw [sv_ne (by omega)]; exact r6⟩
theorem StA.fld {j v : Int} (R : StA h0 h T n G C) (hj : j = 28 ∨ j = 29 ∨ j = 30) : StA h0 (sv h 66 j v) T n G C := by
  obtain ⟨⟨r1, r7⟩, ⟨r2, r3⟩, r4, r5, r6⟩ := R
  have k : Keep bmA h (sv h 66 j v) := (Keep.rf _ _).sv (decide_eq_true (by omega)) _
  exact ⟨⟨r1.trans k, by rw [sv_nf (by omega)]; exact r7⟩, ⟨r2.kp (k.1 66 3 rfl) (fun i => k.1 67 i rfl), r3.kp k bmA_wd⟩, r4.of (by rw [sv_nf (by omega)]) (fun i => by rw [sv_ne (by decide)]), r5.of (by rw [sv_ne (by decide)]) (fun b i x y z => by rw [sv_ne (by omega)]), by rw [sv_nf (by omega)]; exact r6⟩
theorem BdA.row {g a v k p : Int} (R : BdA h0 h G k p) (g40 : G.length < 40) (hg : g = G.length) (a0 : 80 ≤ a) (a1 : a ≤ 83) : BdA h0 (sv h a g v) G k p := by
  obtain ⟨r1, r2, r3, r4, r5, r6⟩ := R
  exact ⟨r1.sv (decide_eq_true (by omega)) _, by rw [sv_ne (by omega)]; exact r2, r3, by rw [sv_ne (by omega)]; exact r4, by rw [sv_ne (by omega)]; exact r5, by rw [sv_ne (by omega)]; exact r6⟩
theorem BdA.fld {j v k p : Int} (R : BdA h0 h G k p) (hj : j = 28 ∨ j = 29 ∨ j = 30) : BdA h0 (sv h 66 j v) G k p := by
  obtain ⟨r1, r2, r3, r4, r5, r6⟩ := R
  exact ⟨r1.sv (decide_eq_true (by omega)) _, by rw [sv_nf (by omega)]; exact r2, r3, by rw [sv_nf (by omega)]; exact r4, by rw [sv_nf (by omega)]; exact r5, by rw [sv_ne (by omega)]; exact r6⟩
theorem MAt.row {i : Nat} {g a v : Int} (M : MAt h T n L i) (a0 : a ≠ 66) : MAt (sv h a g v) T n L i := M.of (by rw [sv_ne (by omega)]) (by rw [sv_ne (by omega)])
theorem MAt.fld {i : Nat} {j v : Int} (M : MAt h T n L i) (hj : j = 28 ∨ j = 29 ∨ j = 30) : MAt (sv h 66 j v) T n L i := M.of (by rw [sv_nf (by omega)]) (by rw [sv_nf (by omega)])
end MST
theorem m_nameB {d : Nat} {h : PH} {q : PQ} (S : Shape h) (b : gv h 66 5 ≠ 0) (K : q (some (.inr (.inl 0))) h) : Wp (d + 1) 0 0 M_X12_name 0 [some (.inr (.inr 66))] [] h q := by
  refine p_aload 1 rfl rfl rfl ?_
  refine p_getfi (j := 5) (z := gv h 66 5) 4 rfl rfl rfl (tg_66 S) rfl rfl ?_
  refine p_if_eq_f 7 rfl rfl (by omega) ?_
  refine p_lconst 8 rfl rfl ?_
  refine p_lret rfl rfl ?_
  -- leaf 1: answer [.inr (.inl 0)] h=h 
  exact K
section MSS
variable {d : Nat} {h0 : PH} {q : PQ} {G : List Sns}
theorem ms_250b {h : PH} {g k p : Int} {w1 w2 w3 : Option PV} (S : Shape h) (B : BdA h0 h G k p) (g40 : G.length < 40) (hg : g = G.length) (K : ∀ h', BdE h0 h' k p → Shape h' → q none h') : Wp (d + 9) 0 0 M_X12_statement 250 [some (.inr (.inr 66)), some (.inl g), w1, w2, w3] [] h q := by
  have B5 := B.2.1
  have B5' := B.2.2.1
  have B26 := B.2.2.2.2.1
  have B79 := B.2.2.2.2.2
  refine p_aload 251 rfl rfl rfl ?_
  refine p_getfr (j := 24) (z := 83) 254 rfl rfl rfl (tg_66 S) rfl (fi_66_24 S) ?_
  refine p_iload 255 rfl rfl rfl ?_
  refine p_aload 256 rfl rfl rfl ?_
  refine p_getfi (j := 26) (z := gv h 66 26) 259 rfl rfl rfl (tg_66 S) rfl rfl ?_
  refine p_iast (w := 8040) 260 rfl rfl (by decide) (tg_83 S) (ln_83 S) (by omega) (by omega) ?_
  refine p_nmh (fun y1 e1 => ?_)
  have S1 : Shape y1 := by rw [e1]; exact S.svA fa_83 _ _
  have b1 : gv y1 66 5 ≠ 0 := by rw [e1, sv_ne (by decide)]; omega
  refine p_aload 261 rfl rfl rfl ?_
  refine p_const 263 rfl rfl ?_
  refine p_callv (le := [some (.inr (.inr 66)), some (.inl 59)]) (as := [.inr (.inr 66), .inl 59]) (rest := []) 266 0 0 0 0 rfl rfl (Nat.le_of_ble_eq_true rfl) rfl (Nat.le_of_ble_eq_true rfl) rfl rfl (Nat.le_of_ble_eq_true rfl) rfl (Nat.le_of_ble_eq_true rfl) rfl (Nat.le_refl _) (Nat.le_refl _) rfl rfl (tg_66 S1) ?_
  refine m_asksSignB S1 59 b1 ?_
  show Wp (d + 9) 0 0 M_X12_statement 266 [some (.inr (.inr 66)), some (.inl g), w1, w2, w3] [] y1 _
  refine p_aload 267 rfl rfl rfl ?_
  refine p_getfr (j := 20) (z := 79) 270 rfl rfl rfl (tg_66 S1) rfl (fi_66_20 S1) ?_
  refine p_const 271 rfl rfl ?_
  refine p_dup2 272 rfl rfl nl_i nl_r ?_
  refine p_iald (w := 201) (z := gv h 79 0) 273 rfl rfl (tg_79 S1) (ln_79 S1) (by decide) (by decide) (by rw [e1, sv_ne (by decide)]) ?_
  refine p_const 274 rfl rfl ?_
  refine p_iadd (z := (gv h 79 0) + 1) 275 rfl rfl (w32_id ⟨(by omega), (by omega)⟩) ?_
  refine p_iast (w := 201) 276 rfl rfl (by decide) (tg_79 S1) (ln_79 S1) (by decide) (by decide) ?_
  refine p_nmh (fun y3 e3 => ?_)
  have S3 : Shape y3 := by rw [e3]; exact S1.svA fa_79 _ _
  refine p_ret rfl rfl ?_
  -- leaf 1: answer [] h=y3 e3,e1
  refine K _ ⟨by rw [e3, e1]; exact (B.1.sv (decide_eq_true (by omega)) _).sv rfl _, ?_, B5', ?_⟩ S3
  · rw [e3, sv_ne (by decide), e1, sv_ne (by decide)]; exact B5
  · rw [e3, sv_ne (by decide), e1, sv_ne (by decide)]; exact B.2.2.2.1
theorem ms_210b {h : PH} {g k p : Int} {w1 w2 w3 : Option PV} (S : Shape h) (B : BdA h0 h G k p) (g40 : G.length < 40) (hg : g = G.length) (K : ∀ h', BdE h0 h' k p → Shape h' → q none h') : Wp (d + 9) 0 0 M_X12_statement 210 [some (.inr (.inr 66)), some (.inl g), w1, w2, w3] [] h q := by
  have B26 := B.2.2.2.2.1
  refine p_aload 211 rfl rfl rfl ?_
  refine p_getfr (j := 23) (z := 82) 214 rfl rfl rfl (tg_66 S) rfl (fi_66_23 S) ?_
  refine p_iload 215 rfl rfl rfl ?_
  refine p_aload 216 rfl rfl rfl ?_
  refine p_getfi (j := 26) (z := gv h 66 26) 219 rfl rfl rfl (tg_66 S) rfl rfl ?_
  refine p_iast (w := 8040) 220 rfl rfl (by decide) (tg_82 S) (ln_82 S) (by omega) (by omega) ?_
  refine p_nmh (fun y1 e1 => ?_)
  have S1 : Shape y1 := by rw [e1]; exact S.svA fa_82 _ _
  refine p_aload 221 rfl rfl rfl ?_
  refine p_const 222 rfl rfl ?_
  refine p_putfi (j := 28) 225 rfl rfl rfl (fun z => absurd z (by decide)) (tg_66 S1) rfl ?_
  refine p_nmh (fun y2 e2 => ?_)
  have S2 : Shape y2 := by rw [e2]; exact S1.svF ff_66_28 _
  refine p_aload 226 rfl rfl rfl ?_
  refine p_const 227 rfl rfl ?_
  refine p_putfi (j := 29) 230 rfl rfl rfl (fun z => absurd z (by decide)) (tg_66 S2) rfl ?_
  refine p_nmh (fun y3 e3 => ?_)
  have S3 : Shape y3 := by rw [e3]; exact S2.svF ff_66_29 _
  refine p_aload 231 rfl rfl rfl ?_
  refine p_const 232 rfl rfl ?_
  refine p_putfi (j := 30) 235 rfl rfl rfl (fun z => absurd z (by decide)) (tg_66 S3) rfl ?_
  refine p_nmh (fun y4 e4 => ?_)
  have S4 : Shape y4 := by rw [e4]; exact S3.svF ff_66_30 _
  have B4 : BdA h0 y4 G k p := by rw [e4, e3, e2, e1]; exact (((B.row g40 hg (by decide) (by decide)).fld (Or.inl rfl)).fld (Or.inr (Or.inl rfl))).fld (Or.inr (Or.inr rfl))
  have b4 : gv y4 66 5 ≠ 0 := by rw [B4.2.1]; exact B4.2.2.1
  refine p_aload 236 rfl rfl rfl ?_
  refine p_aload 237 rfl rfl rfl ?_
  refine p_getfr (j := 11) (z := 70) 240 rfl rfl rfl (tg_66 S4) rfl (fi_66_11 S4) ?_
  refine p_callv (le := [some (.inr (.inr 66)), some (.inr (.inr 70))]) (as := [.inr (.inr 66), .inr (.inr 70)]) (rest := []) 243 0 0 0 0 rfl rfl (Nat.le_of_ble_eq_true rfl) rfl (Nat.le_of_ble_eq_true rfl) rfl rfl (Nat.le_of_ble_eq_true rfl) rfl (Nat.le_of_ble_eq_true rfl) rfl (Nat.le_refl _) (Nat.le_refl _) rfl rfl (tg_66 S4) ?_
  refine m_takesB S4 70 b4 ?_
  show Wp (d + 9) 0 0 M_X12_statement 243 [some (.inr (.inr 66)), some (.inl g), w1, w2, w3] [.inl 0] y4 _
  refine p_if_eq_t 250 rfl rfl (by decide) ?_
  -- leaf 1: loop 250 [some (.inr (.inr 66)), some (.inl g), w1, w2, w3] st=[] h=y4 e4,e3,e2,e1
  exact ms_250b S4 B4 g40 hg K
theorem ms_187b {h : PH} {g k p : Int} {w1 w2 w3 : Option PV} (S : Shape h) (B : BdA h0 h G k p) (g40 : G.length < 40) (hg : g = G.length) (K : ∀ h', BdE h0 h' k p → Shape h' → q none h') : Wp (d + 9) 0 0 M_X12_statement 187 [some (.inr (.inr 66)), some (.inl g), w1, w2, w3] [] h q := by
  have B5 := B.2.1
  have B5' := B.2.2.1
  refine p_aload 188 rfl rfl rfl ?_
  refine p_getfr (j := 22) (z := 81) 191 rfl rfl rfl (tg_66 S) rfl (fi_66_22 S) ?_
  refine p_iload 192 rfl rfl rfl ?_
  refine p_aload 193 rfl rfl rfl ?_
  refine p_getfi (j := 5) (z := gv h 66 5) 196 rfl rfl rfl (tg_66 S) rfl rfl ?_
  refine p_if_ne_t 208 rfl rfl (by omega) ?_
  refine p_const 209 rfl rfl ?_
  refine p_iast (w := 8040) 210 rfl rfl (by decide) (tg_81 S) (ln_81 S) (by omega) (by omega) ?_
  refine p_nmh (fun y1 e1 => ?_)
  have S1 : Shape y1 := by rw [e1]; exact S.svA fa_81 _ _
  -- leaf 1: loop 210 [some (.inr (.inr 66)), some (.inl g), w1, w2, w3] st=[] h=y1 e1
  exact ms_210b S1 (by rw [e1]; exact B.row g40 hg (by decide) (by decide)) g40 hg K
theorem ms_131b {h : PH} {g k p : Int} {w1 w2 w3 : Option PV} (S : Shape h) (B : BdA h0 h G k p) (g40 : G.length < 40) (hg : g = G.length) (K : ∀ h', BdE h0 h' k p → Shape h' → q none h') : Wp (d + 9) 0 0 M_X12_statement 131 [some (.inr (.inr 66)), some (.inl g), w1, w2, w3] [] h q := by
  have B5 := B.2.1
  have B5' := B.2.2.1
  refine p_aload 132 rfl rfl rfl ?_
  refine p_aload 133 rfl rfl rfl ?_
  refine p_getfr (j := 10) (z := 69) 136 rfl rfl rfl (tg_66 S) rfl (fi_66_10 S) ?_
  refine p_callv (le := [some (.inr (.inr 66)), some (.inr (.inr 69))]) (as := [.inr (.inr 66), .inr (.inr 69)]) (rest := []) 139 0 0 0 0 rfl rfl (Nat.le_of_ble_eq_true rfl) rfl (Nat.le_of_ble_eq_true rfl) rfl rfl (Nat.le_of_ble_eq_true rfl) rfl (Nat.le_of_ble_eq_true rfl) rfl (Nat.le_refl _) (Nat.le_refl _) rfl rfl (tg_66 S) ?_
  refine m_asksB S 69 (by omega) ?_
  show Wp (d + 9) 0 0 M_X12_statement 139 [some (.inr (.inr 66)), some (.inl g), w1, w2, w3] [] h _
  refine p_aload 140 rfl rfl rfl ?_
  refine p_const 142 rfl rfl ?_
  refine p_callv (le := [some (.inr (.inr 66)), some (.inl 46)]) (as := [.inr (.inr 66), .inl 46]) (rest := []) 145 0 0 0 0 rfl rfl (Nat.le_of_ble_eq_true rfl) rfl (Nat.le_of_ble_eq_true rfl) rfl rfl (Nat.le_of_ble_eq_true rfl) rfl (Nat.le_of_ble_eq_true rfl) rfl (Nat.le_refl _) (Nat.le_refl _) rfl rfl (tg_66 S) ?_
  refine m_asksSignB S 46 (by omega) ?_
  show Wp (d + 9) 0 0 M_X12_statement 145 [some (.inr (.inr 66)), some (.inl g), w1, w2, w3] [] h _
  refine p_aload 146 rfl rfl rfl ?_
  refine p_getfi (j := 5) (z := gv h 66 5) 149 rfl rfl rfl (tg_66 S) rfl rfl ?_
  refine p_if_ne_t 187 rfl rfl (by omega) ?_
  -- leaf 1: loop 187 [some (.inr (.inr 66)), some (.inl g), w1, w2, w3] st=[] h=h 
  exact ms_187b S B g40 hg K
theorem ms_75 {h : PH} {g pl : Int} (S : Shape h) (e79 : gv h 79 0 = G.length) (g40 : G.length < 40) (hg : g = G.length) (K : ∀ ct w, ct = cN (fun k => gv h 80 k) (gv h 80 g) G.length → Wp (d + 9) 0 0 M_X12_statement 112 [some (.inr (.inr 66)), some (.inl g), some (.inl pl), some (.inl ct), some (.inl w)] [] h q) : Wp (d + 9) 0 0 M_X12_statement 75 [some (.inr (.inr 66)), some (.inl g), some (.inl pl), some (.inl 0), some (.inl 0)] [] h q := by
  have J : ∀ (c kk : Nat) (k ct : Int), k = kk → kk + c = G.length → ct = cN (fun k => gv h 80 k) (gv h 80 g) kk → Wp (d + 9) 0 0 M_X12_statement 75 [some (.inr (.inr 66)), some (.inl g), some (.inl pl), some (.inl ct), some (.inl k)] [] h q := by
    intro c
    induction c with
    | zero =>
      intro kk k ct hk hc ec
      refine p_iload 77 rfl rfl rfl ?_
      refine p_aload 78 rfl rfl rfl ?_
      refine p_getfr (j := 20) (z := 79) 81 rfl rfl rfl (tg_66 S) rfl (fi_66_20 S) ?_
      refine p_const 82 rfl rfl ?_
      refine p_iald (w := 201) (z := (G.length : Int)) 83 rfl rfl (tg_79 S) (ln_79 S) (by decide) (by decide) e79 ?_
      refine p_ic_ge_t 112 rfl rfl (by omega) ?_
      -- leaf 1: loop 112 [some (.inr (.inr 66)), some (.inl g), some (.inl pl), some (.inl ct), some (.inl k)] st=[] h=h 
      exact K ct k (by rw [ec, show kk = G.length by omega])
    | succ c ih =>
      intro kk k ct hk hc ec
      have ci := cN_in (fun k => gv h 80 k) (gv h 80 g) kk
      have cs : cN (fun k => gv h 80 k) (gv h 80 g) (kk + 1) = ct + if gv h 80 k = gv h 80 g then 1 else 0 := by rw [ec, hk]; rfl
      refine p_iload 77 rfl rfl rfl ?_
      refine p_aload 78 rfl rfl rfl ?_
      refine p_getfr (j := 20) (z := 79) 81 rfl rfl rfl (tg_66 S) rfl (fi_66_20 S) ?_
      refine p_const 82 rfl rfl ?_
      refine p_iald (w := 201) (z := (G.length : Int)) 83 rfl rfl (tg_79 S) (ln_79 S) (by decide) (by decide) e79 ?_
      refine p_ic_ge_f 86 rfl rfl (by omega) ?_
      refine p_aload 87 rfl rfl rfl ?_
      refine p_getfr (j := 21) (z := 80) 90 rfl rfl rfl (tg_66 S) rfl (fi_66_21 S) ?_
      refine p_iload 92 rfl rfl rfl ?_
      refine p_lald (w := 8040) (z := gv h 80 k) 93 rfl rfl (tg_80 S) (ln_80 S) (by omega) (by omega) rfl ?_
      refine p_aload 94 rfl rfl rfl ?_
      refine p_getfr (j := 21) (z := 80) 97 rfl rfl rfl (tg_66 S) rfl (fi_66_21 S) ?_
      refine p_iload 98 rfl rfl rfl ?_
      refine p_lald (w := 8040) (z := gv h 80 g) 99 rfl rfl (tg_80 S) (ln_80 S) (by omega) (by omega) rfl ?_
      refine p_lc_ne 100 103 106 rfl rfl rfl rfl rfl (fun c1 => ?_) (fun c1 => ?_)
      · skip
        refine p_iinc (y := k + 1) (ls' := [some (.inr (.inr 66)), some (.inl g), some (.inl pl), some (.inl ct), some (.inl (k + 1))]) 109 rfl rfl rfl (w32_id ⟨(by omega), (by omega)⟩) rfl ?_
        refine p_goto 75 rfl rfl ?_
        -- leaf 1: loop 75 [some (.inr (.inr 66)), some (.inl g), some (.inl pl), some (.inl ct), some (.inl (k + 1))] st=[] h=h 
        exact ih (kk + 1) (k + 1) ct (by omega) (by omega) (by rw [cs, if_neg (by omega)]; omega)
      · skip
        refine p_iinc (y := ct + 1) (ls' := [some (.inr (.inr 66)), some (.inl g), some (.inl pl), some (.inl (ct + 1)), some (.inl k)]) 106 rfl rfl rfl (w32_id ⟨(by omega), (by omega)⟩) rfl ?_
        refine p_iinc (y := k + 1) (ls' := [some (.inr (.inr 66)), some (.inl g), some (.inl pl), some (.inl (ct + 1)), some (.inl (k + 1))]) 109 rfl rfl rfl (w32_id ⟨(by omega), (by omega)⟩) rfl ?_
        refine p_goto 75 rfl rfl ?_
        -- leaf 2: loop 75 [some (.inr (.inr 66)), some (.inl g), some (.inl pl), some (.inl (ct + 1)), some (.inl (k + 1))] st=[] h=h 
        exact ih (kk + 1) (k + 1) (ct + 1) (by omega) (by omega) (by rw [cs, if_pos (by omega)])
  exact J G.length 0 0 0 rfl (Nat.zero_add _) rfl
theorem ms_60b {h : PH} {g k p pl : Int} (S : Shape h) (B : BdA h0 h G k p) (g40 : G.length < 40) (hg : g = G.length) (K : ∀ h', BdE h0 h' k p → Shape h' → q none h') : Wp (d + 9) 0 0 M_X12_statement 60 [some (.inr (.inr 66)), some (.inl g), some (.inl pl), none, none] [] h q := by
  have B5 := B.2.1
  have B5' := B.2.2.1
  refine p_aload 61 rfl rfl rfl ?_
  refine p_getfr (j := 21) (z := 80) 64 rfl rfl rfl (tg_66 S) rfl (fi_66_21 S) ?_
  refine p_iload 65 rfl rfl rfl ?_
  refine p_aload 66 rfl rfl rfl ?_
  refine p_callv (le := [some (.inr (.inr 66))]) (as := [.inr (.inr 66)]) (rest := [.inl g, .inr (.inr 80)]) 69 0 0 0 0 rfl rfl (Nat.le_of_ble_eq_true rfl) rfl (Nat.le_of_ble_eq_true rfl) rfl rfl (Nat.le_of_ble_eq_true rfl) rfl (Nat.le_of_ble_eq_true rfl) rfl (Nat.le_refl _) (Nat.le_refl _) rfl rfl (tg_66 S) ?_
  refine m_nameB S (by omega) ?_
  show Wp (d + 9) 0 0 M_X12_statement 69 [some (.inr (.inr 66)), some (.inl g), some (.inl pl), none, none] [.inr (.inl 0), .inl g, .inr (.inr 80)] h _
  refine p_last (w := 8040) 70 rfl rfl (by decide) (tg_80 S) (ln_80 S) (by omega) (by omega) ?_
  refine p_nmh (fun y2 e2 => ?_)
  have S2 : Shape y2 := by rw [e2]; exact S.svA fa_80 _ _
  refine p_const 71 rfl rfl ?_
  refine p_istore (ls' := [some (.inr (.inr 66)), some (.inl g), some (.inl pl), some (.inl 0), none]) 72 rfl rfl (Nat.le_of_ble_eq_true rfl) rfl ?_
  refine p_const 73 rfl rfl ?_
  refine p_istore (ls' := [some (.inr (.inr 66)), some (.inl g), some (.inl pl), some (.inl 0), some (.inl 0)]) 75 rfl rfl (Nat.le_of_ble_eq_true rfl) rfl ?_
  -- leaf 1: loop 75 [some (.inr (.inr 66)), some (.inl g), some (.inl pl), some (.inl 0), some (.inl 0)] st=[] h=y2 e2
  have B2 : BdA h0 y2 G k p := by rw [e2]; exact B.row g40 hg (by decide) (by decide)
  refine ms_75 S2 B2.2.2.2.2.2 g40 hg (fun ct w _ => ?_)
  have b5 := B2.2.1
  refine p_aload 113 rfl rfl rfl ?_
  refine p_getfi (j := 5) (z := gv y2 66 5) 116 rfl rfl rfl (tg_66 S2) rfl rfl ?_
  refine p_if_ne_t 131 rfl rfl (by omega) ?_
  exact ms_131b S2 B2 g40 hg K
theorem ms_139b {h : PH} {g k p : Int} {w1 w2 w3 : Option PV} (S : Shape h) (B : BdA h0 h G k p) (g40 : G.length < 40) (hg : g = G.length) (K : ∀ h', BdE h0 h' k p → Shape h' → q none h') : Wp (d + 9) 0 0 M_X12_statement 139 [some (.inr (.inr 66)), some (.inl g), w1, w2, w3] [] h q := by
  have B5 := B.2.1
  have B5' := B.2.2.1
  refine p_aload 140 rfl rfl rfl ?_
  refine p_const 142 rfl rfl ?_
  refine p_callv (le := [some (.inr (.inr 66)), some (.inl 46)]) (as := [.inr (.inr 66), .inl 46]) (rest := []) 145 0 0 0 0 rfl rfl (Nat.le_of_ble_eq_true rfl) rfl (Nat.le_of_ble_eq_true rfl) rfl rfl (Nat.le_of_ble_eq_true rfl) rfl (Nat.le_of_ble_eq_true rfl) rfl (Nat.le_refl _) (Nat.le_refl _) rfl rfl (tg_66 S) ?_
  refine m_asksSignB S 46 (by omega) ?_
  show Wp (d + 9) 0 0 M_X12_statement 145 [some (.inr (.inr 66)), some (.inl g), w1, w2, w3] [] h _
  refine p_aload 146 rfl rfl rfl ?_
  refine p_getfi (j := 5) (z := gv h 66 5) 149 rfl rfl rfl (tg_66 S) rfl rfl ?_
  refine p_if_ne_t 187 rfl rfl (by omega) ?_
  -- leaf 1: loop 187 [some (.inr (.inr 66)), some (.inl g), w1, w2, w3] st=[] h=h 
  exact ms_187b S B g40 hg K
theorem ms_145b {h : PH} {g k p : Int} {w1 w2 w3 : Option PV} (S : Shape h) (B : BdA h0 h G k p) (g40 : G.length < 40) (hg : g = G.length) (K : ∀ h', BdE h0 h' k p → Shape h' → q none h') : Wp (d + 9) 0 0 M_X12_statement 145 [some (.inr (.inr 66)), some (.inl g), w1, w2, w3] [] h q := by
  have B5 := B.2.1
  have B5' := B.2.2.1
  refine p_aload 146 rfl rfl rfl ?_
  refine p_getfi (j := 5) (z := gv h 66 5) 149 rfl rfl rfl (tg_66 S) rfl rfl ?_
  refine p_if_ne_t 187 rfl rfl (by omega) ?_
  -- leaf 1: loop 187 [some (.inr (.inr 66)), some (.inl g), w1, w2, w3] st=[] h=h 
  exact ms_187b S B g40 hg K
end MSS

